set_option maxHeartbeats 4000000 in
set_option maxRecDepth 100000 in
theorem c_X10_layLayers (l : Launch) (D : va_G) (cy : Nat → ClassId) (ad : Nat → Nat) (N : Nat) (g : Nat → va_E) (hinj : ∀ i j : Nat, i < N → j < N → ad i = ad j → i = j) (hN : 145 ≤ N) (w : WT) (un : Nat) (la : Int32) (bo : Int32) (tp : Nat) (ft : Int32) (wr0 : Nat) (wa : Nat) (at0 : Nat) (sp : Nat) (tk : Nat) (vl : Int32) (fi : Nat) (nm : Nat) (dp : Nat) (wy : Int32) (st : Int32) (aP : Nat) (aF : Nat) (aH : Nat) (aO : Nat) (ps : Nat) (mn : Nat) (go : Int32) (vi : Nat) (hM : g 114 = mob ad (nI (wn w)) (nI (wf w)) (nI (wh w)) (lN (wo w)) (nI (un)) la bo (nI (tp)) ft (nI (wr0)) (nI (wa)) (nI (at0)) (nI (sp)) (nI (tk)) vl (nI (fi)) (nI (nm)) (nI (dp)) wy st (nI (aP)) (nI (aF)) (nI (aH)) (lN aO) (nI (ps)) (nI (mn)) go (nI (vi))) (P : Nat → Nat) (hP9 : g 115 = .inl (cy 1, 8, .inl (fun x9 => nI (P x9)))) (hw : WOK w) (hPw : ∀ i, i < wn w → P i = wp w i) (LB : Nat → Int32) (hLB0 : g 120 = .inl (cy 1, 8, .inl LB)) : Met l yX10_layLayers (WS yX10_layLayers cX10_layLayers 7 none) (rmF 1 22) (PP [.ref (ad 114)] D cy ad N g) (QV (fun g1 => ∃ (LB2 : Nat → Int32), (∀ i, i < wn w → LB2 i = lyr w i) ∧ g1 114 = mob ad (nI (wn w)) (nI (wf w)) (nI (wh w)) (lN (wo w)) (nI (un)) (nI (fs (fun L => decide (fre (wn w) (wo w) (lef (wn w) (wo w) (wh w) L) = 0)) (wn w))) (nI (lef (wn w) (wo w) (wh w) (wn w))) (nI (tp)) ft (nI (wr0)) (nI (wa)) (nI (at0)) (nI (sp)) (nI (tk)) vl (nI (fi)) (nI (nm)) (nI (dp)) wy st (nI (aP)) (nI (aF)) (nI (aH)) (lN aO) (nI (ps)) (nI (mn)) go (nI (vi)) ∧ g1 120 = .inl (cy 1, 8, .inl LB2) ∧ (∀ j, j ≠ 114 → j ≠ 120 → g1 j = g j)) D ad N) 0 0 (AA ad N) := by
  refine mentry (by decide) (Nat.le_of_ble_eq_true rfl) (fun p e s m below meth c ls S hr hlk hnm hP hK hl => ?_)
  have S : CallFix p m c cX10_layLayers 7 s _ wsL_law RX10 := S
  have hx := S.1
  have hb := S.2.1
  have hl : lv_has ls 7 [(0, .ref (ad 114))] := hl
  have hI : MD (AA ad N) ad N := MD.in hinj
  have hS : va_S (AA ad N) s.heap s.heap [] := va_S.rf
  have hfr : ∀ j : Nat, g j = g j := fun _ => rfl
  have hn4 := hw.1.1
  have hn8 := hw.1.2
  have hpm := perm_P hw hPw
  have hf := lt256 hw.2.2.1 hn8
  have hh := lt256 hw.2.2.2.1 hn8
  have ho := hw.2.2.2.2.1
  refine lv_aload_n hx hb dX10_layLayers_0 rfl (lv_at hl 0 rfl) ?_
  refine mg S hK hP (by omega) hM fd_X10_20 rfl dX10_layLayers_1 ?_
  refine lv_istore_n (lv' := [(1, .int (nI (wh w))), (0, .ref (ad 114))]) hx hb dX10_layLayers_4 rfl hl (by decide) rfl (fun ls hl => ?_)
  refine lv_aload_n hx hb dX10_layLayers_5 rfl (lv_at hl 1 rfl) ?_
  refine lv_iconst (v := nI (0)) hx hb dX10_layLayers_6 (by decide) ?_
  refine mp S hK hP hI hS (by omega) hM fd_X10_189 rfl rfl (Nat.le_of_ble_eq_true rfl) dX10_layLayers_7 (fun g_1 H locs eg_1 hP hS => ?_)
  have h114_1 : g_1 114 = mob ad (nI (wn w)) (nI (wf w)) (nI (wh w)) (lN (wo w)) (nI (un)) (nI (0)) bo (nI (tp)) ft (nI (wr0)) (nI (wa)) (nI (at0)) (nI (sp)) (nI (tk)) vl (nI (fi)) (nI (nm)) (nI (dp)) wy st (nI (aP)) (nI (aF)) (nI (aH)) (lN aO) (nI (ps)) (nI (mn)) go (nI (vi)) := by rw [eg_1, va_up_self]; exact rfl
  have h115_1 : g_1 115 = .inl (cy 1, 8, .inl (fun x9 => nI (P x9))) := ((congrFun eg_1 _).trans (va_up_ne _ _ (by omega))).trans hP9
  have h120_1 : g_1 120 = .inl (cy 1, 8, .inl LB) := ((congrFun eg_1 _).trans (va_up_ne _ _ (by omega))).trans hLB0
  have hfr_1 : ∀ j : Nat, j ≠ 114 → g_1 j = g j := fun j n0 => ((congrFun eg_1 _).trans (va_up_ne _ _ n0)).trans (hfr j )
  refine lv_iconst (v := nI (0)) hx hb dX10_layLayers_10 (by decide) ?_
  refine lv_istore_n (lv' := [(2, .int (nI (0))), (1, .int (nI (wh w))), (0, .ref (ad 114))]) hx hb dX10_layLayers_11 rfl hl (by decide) rfl (fun ls hl => ?_)
  have L12 : ∀ (fu : Nat) (k9 : Nat) (A1 : Nat → Int32), (k9 ≤ 8) → (∀ j, j < k9 → A1 j = -4) → (8 - k9) < fu → ∀ (g_2 : Nat → va_E) (H : Heap) (locs : List Loc), g_2 114 = mob ad (nI (wn w)) (nI (wf w)) (nI (wh w)) (lN (wo w)) (nI (un)) (nI (0)) bo (nI (tp)) ft (nI (wr0)) (nI (wa)) (nI (at0)) (nI (sp)) (nI (tk)) vl (nI (fi)) (nI (nm)) (nI (dp)) wy st (nI (aP)) (nI (aF)) (nI (aH)) (lN aO) (nI (ps)) (nI (mn)) go (nI (vi)) → g_2 120 = .inl (cy 1, 8, .inl A1) → (∀ j : Nat, j ≠ 114 → j ≠ 120 → g_2 j = g j) → MM D ad N g_2 H → va_S (AA ad N) s.heap H locs → ∀ (ls : Array Slot), lv_has ls 7 [(2, .int (nI (k9))), (1, .int (nI (wh w))), (0, .ref (ad 114))] → W p l e (rmF 1 22) s m [.ref (ad 114)].toArray below meth c H locs 0 0 (MQ below (QV (fun g1 => ∃ (LB2 : Nat → Int32), (∀ i, i < wn w → LB2 i = lyr w i) ∧ g1 114 = mob ad (nI (wn w)) (nI (wf w)) (nI (wh w)) (lN (wo w)) (nI (un)) (nI (fs (fun L => decide (fre (wn w) (wo w) (lef (wn w) (wo w) (wh w) L) = 0)) (wn w))) (nI (lef (wn w) (wo w) (wh w) (wn w))) (nI (tp)) ft (nI (wr0)) (nI (wa)) (nI (at0)) (nI (sp)) (nI (tk)) vl (nI (fi)) (nI (nm)) (nI (dp)) wy st (nI (aP)) (nI (aF)) (nI (aH)) (lN aO) (nI (ps)) (nI (mn)) go (nI (vi)) ∧ g1 120 = .inl (cy 1, 8, .inl LB2) ∧ (∀ j, j ≠ 114 → j ≠ 120 → g1 j = g j)) D ad N) [.ref (ad 114)].toArray s 0 0 (AA ad N)) (F0 m 12 ls []) := by
    intro fu
    induction fu with
    | zero => intro k9 A1 hk9 hA1 hms g_2 H locs h114_2 h120_2 hfr_2 hP hS ls hl; exact absurd hms (Nat.not_lt_zero _)
    | succ fu ih12 =>
      intro k9 A1 hk9 hA1 hms g_2 H locs h114_2 h120_2 hfr_2 hP hS ls hl
      have h115_2 : g_2 115 = .inl (cy 1, 8, .inl (fun x9 => nI (P x9))) := (hfr_2 115 (by omega) (by omega)).trans hP9
      refine lv_iload_n hx hb dX10_layLayers_12 rfl (lv_at hl 0 rfl) ?_
      refine lv_bipush (v := nI (8)) hx hb dX10_layLayers_13 (by decide) ?_
      refine lv_icmp_ge (tgt := 32) hx hb dX10_layLayers_15 (by decide) (fun c_15 => ?_) (fun c_15 => ?_)
      · skip
        have c_15 := (nI_leI (by omega) (by omega)).mp c_15
        refine lv_iconst (v := nI (1)) hx hb dX10_layLayers_32 (by decide) ?_
        refine lv_istore_n (lv' := [(2, .int (nI (1))), (1, .int (nI (wh w))), (0, .ref (ad 114))]) hx hb dX10_layLayers_33 rfl hl (by decide) rfl (fun ls hl => ?_)
        have L34 : ∀ (fu : Nat) (m1 L lf : Nat) (A1 : Nat → Int32), (m1 ≤ 1) → (lf = lef (wn w) (wo w) (wh w) L) → (∀ l, l < L → fre (wn w) (wo w) (lef (wn w) (wo w) (wh w) l) ≠ 0) → (∀ i, i < wn w → A1 i = lyC (wn w) (wo w) (wh w) L i) → (m1 = 0 → fre (wn w) (wo w) lf = 0) → (if m1 = 0 then 0 else cnF (fun k => lf.testBit k) 8 + 1) < fu → ∀ (g_3 : Nat → va_E) (H : Heap) (locs : List Loc), g_3 114 = mob ad (nI (wn w)) (nI (wf w)) (nI (wh w)) (lN (wo w)) (nI (un)) (nI (L)) bo (nI (tp)) ft (nI (wr0)) (nI (wa)) (nI (at0)) (nI (sp)) (nI (tk)) vl (nI (fi)) (nI (nm)) (nI (dp)) wy st (nI (aP)) (nI (aF)) (nI (aH)) (lN aO) (nI (ps)) (nI (mn)) go (nI (vi)) → g_3 120 = .inl (cy 1, 8, .inl A1) → (∀ j : Nat, j ≠ 114 → j ≠ 120 → g_3 j = g j) → MM D ad N g_3 H → va_S (AA ad N) s.heap H locs → ∀ (ls : Array Slot), lv_has ls 7 [(2, .int (nI (m1))), (1, .int (nI (lf))), (0, .ref (ad 114))] → W p l e (rmF 1 22) s m [.ref (ad 114)].toArray below meth c H locs 0 0 (MQ below (QV (fun g1 => ∃ (LB2 : Nat → Int32), (∀ i, i < wn w → LB2 i = lyr w i) ∧ g1 114 = mob ad (nI (wn w)) (nI (wf w)) (nI (wh w)) (lN (wo w)) (nI (un)) (nI (fs (fun L => decide (fre (wn w) (wo w) (lef (wn w) (wo w) (wh w) L) = 0)) (wn w))) (nI (lef (wn w) (wo w) (wh w) (wn w))) (nI (tp)) ft (nI (wr0)) (nI (wa)) (nI (at0)) (nI (sp)) (nI (tk)) vl (nI (fi)) (nI (nm)) (nI (dp)) wy st (nI (aP)) (nI (aF)) (nI (aH)) (lN aO) (nI (ps)) (nI (mn)) go (nI (vi)) ∧ g1 120 = .inl (cy 1, 8, .inl LB2) ∧ (∀ j, j ≠ 114 → j ≠ 120 → g1 j = g j)) D ad N) [.ref (ad 114)].toArray s 0 0 (AA ad N)) (F0 m 34 ls []) := by
          intro fu
          induction fu with
          | zero => intro m1 L lf A1 hm1 hlf hall hA1 hm0 hms g_3 H locs h114_3 h120_3 hfr_3 hP hS ls hl; exact absurd hms (Nat.not_lt_zero _)
          | succ fu ih34 =>
            intro m1 L lf A1 hm1 hlf hall hA1 hm0 hms g_3 H locs h114_3 h120_3 hfr_3 hP hS ls hl
            have h115_3 : g_3 115 = .inl (cy 1, 8, .inl (fun x9 => nI (P x9))) := (hfr_3 115 (by omega) (by omega)).trans hP9
            have hms34 := hms
            refine lv_iload_n hx hb dX10_layLayers_34 rfl (lv_at hl 0 rfl) ?_
            refine lv_if_eq (tgt := 228) hx hb dX10_layLayers_35 (by decide) (fun c_35 => ?_) (fun c_35 => ?_)
            · skip
              have c_35 := (z_eq (by omega)).mp c_35
              refine lv_aload_n hx hb dX10_layLayers_228 rfl (lv_at hl 2 rfl) ?_
              refine lv_iload_n hx hb dX10_layLayers_229 rfl (lv_at hl 1 rfl) ?_
              refine mp S hK hP hI hS (by omega) h114_3 fd_X10_192 rfl rfl (Nat.le_of_ble_eq_true rfl) dX10_layLayers_230 (fun g_4 H locs eg_4 hP hS => ?_)
              have h114_4 : g_4 114 = mob ad (nI (wn w)) (nI (wf w)) (nI (wh w)) (lN (wo w)) (nI (un)) (nI (L)) (nI (lf)) (nI (tp)) ft (nI (wr0)) (nI (wa)) (nI (at0)) (nI (sp)) (nI (tk)) vl (nI (fi)) (nI (nm)) (nI (dp)) wy st (nI (aP)) (nI (aF)) (nI (aH)) (lN aO) (nI (ps)) (nI (mn)) go (nI (vi)) := by rw [eg_4, va_up_self]; exact rfl
              have h115_4 : g_4 115 = .inl (cy 1, 8, .inl (fun x9 => nI (P x9))) := ((congrFun eg_4 _).trans (va_up_ne _ _ (by omega))).trans h115_3
              have h120_4 : g_4 120 = .inl (cy 1, 8, .inl A1) := ((congrFun eg_4 _).trans (va_up_ne _ _ (by omega))).trans h120_3
              have hfr_4 : ∀ j : Nat, j ≠ 114 → j ≠ 120 → g_4 j = g j := fun j n0 n1 => ((congrFun eg_4 _).trans (va_up_ne _ _ n0)).trans (hfr_3 j n0 n1)
              have h0 := hm0 c_35
              rw [hlf] at h0
              have hLn : L ≤ wn w := by have := lef_L (n := wn w) (o := wo w) (h := wh w) L hall; omega
              exact rMv S hr hlk hP hS ⟨_, (fun i hi => by rw [hA1 i hi]; exact lyC_e hLn h0), (by rw [ly_fs hLn hall h0, ly_bd hLn h0, ← hlf]; exact h114_4), h120_4, hfr_4⟩ dX10_layLayers_233
            · skip
              have c_35 := (not_congr (z_eq (by omega))).mp c_35
              have hlb : lf < 256 := by rw [hlf]; exact Nat.lt_of_lt_of_le (lef_lt hw.2.2.2.1 L) (Nat.pow_le_pow_right (n := 2) (by omega) hn8)
              refine lv_iconst (v := nI (0)) hx hb dX10_layLayers_38 (by decide) ?_
              refine lv_istore_n (lv' := [(3, .int (nI (0))), (2, .int (nI (m1))), (1, .int (nI (lf))), (0, .ref (ad 114))]) hx hb dX10_layLayers_39 rfl hl (by decide) rfl (fun ls hl => ?_)
              refine lv_iconst (v := nI (0)) hx hb dX10_layLayers_40 (by decide) ?_
              refine lv_istore (lv' := [(4, .int (nI (0))), (3, .int (nI (0))), (2, .int (nI (m1))), (1, .int (nI (lf))), (0, .ref (ad 114))]) hx hb dX10_layLayers_41 hl (by decide) rfl (fun ls hl => ?_)
              have L43 : ∀ (fu : Nat) (i v : Nat), (i ≤ wn w) → (v = mk (frb (wn w) (wo w) lf) i) → (wn w - i) < fu → ∀ (ls : Array Slot), lv_has ls 7 [(4, .int (nI (i))), (3, .int (nI (v))), (2, .int (nI (m1))), (1, .int (nI (lf))), (0, .ref (ad 114))] → W p l e (rmF 1 22) s m [.ref (ad 114)].toArray below meth c H locs 0 0 (MQ below (QV (fun g1 => ∃ (LB2 : Nat → Int32), (∀ i, i < wn w → LB2 i = lyr w i) ∧ g1 114 = mob ad (nI (wn w)) (nI (wf w)) (nI (wh w)) (lN (wo w)) (nI (un)) (nI (fs (fun L => decide (fre (wn w) (wo w) (lef (wn w) (wo w) (wh w) L) = 0)) (wn w))) (nI (lef (wn w) (wo w) (wh w) (wn w))) (nI (tp)) ft (nI (wr0)) (nI (wa)) (nI (at0)) (nI (sp)) (nI (tk)) vl (nI (fi)) (nI (nm)) (nI (dp)) wy st (nI (aP)) (nI (aF)) (nI (aH)) (lN aO) (nI (ps)) (nI (mn)) go (nI (vi)) ∧ g1 120 = .inl (cy 1, 8, .inl LB2) ∧ (∀ j, j ≠ 114 → j ≠ 120 → g1 j = g j)) D ad N) [.ref (ad 114)].toArray s 0 0 (AA ad N)) (F0 m 43 ls []) := by
                intro fu
                induction fu with
                | zero => intro i v hi hv hms ls hl; exact absurd hms (Nat.not_lt_zero _)
                | succ fu ih43 =>
                  intro i v hi hv hms ls hl
                  refine lv_iload hx hb dX10_layLayers_43 (lv_at hl 0 rfl) ?_
                  refine lv_aload_n hx hb dX10_layLayers_45 rfl (lv_at hl 4 rfl) ?_
                  refine mg S hK hP (by omega) h114_3 fd_X10_7 rfl dX10_layLayers_46 ?_
                  refine lv_icmp_ge (tgt := 142) hx hb dX10_layLayers_49 (by decide) (fun c_49 => ?_) (fun c_49 => ?_)
                  · skip
                    have c_49 := (nI_leI (by omega) (by omega)).mp c_49
                    have hvF : v = fre (wn w) (wo w) lf := by rw [hv, show i = wn w by omega]; rfl
                    have hvb : v < 256 := by rw [hvF]; exact fre_lt hn8
                    refine lv_iconst (v := nI (0)) hx hb dX10_layLayers_142 (by decide) ?_
                    refine lv_istore (lv' := [(4, .int (nI (0))), (3, .int (nI (v))), (2, .int (nI (m1))), (1, .int (nI (lf))), (0, .ref (ad 114))]) hx hb dX10_layLayers_143 hl (by decide) rfl (fun ls hl => ?_)
                    have L145 : ∀ (fu : Nat) (i2 : Nat) (A2 : Nat → Int32), (i2 ≤ wn w) → (∀ i, i < i2 → A2 i = lyC (wn w) (wo w) (wh w) (if v = 0 then L else L + 1) i) → (∀ i, i2 ≤ i → i < wn w → A2 i = lyC (wn w) (wo w) (wh w) L i) → (wn w - i2) < fu → ∀ (g_5 : Nat → va_E) (H : Heap) (locs : List Loc), g_5 114 = mob ad (nI (wn w)) (nI (wf w)) (nI (wh w)) (lN (wo w)) (nI (un)) (nI (L)) bo (nI (tp)) ft (nI (wr0)) (nI (wa)) (nI (at0)) (nI (sp)) (nI (tk)) vl (nI (fi)) (nI (nm)) (nI (dp)) wy st (nI (aP)) (nI (aF)) (nI (aH)) (lN aO) (nI (ps)) (nI (mn)) go (nI (vi)) → g_5 120 = .inl (cy 1, 8, .inl A2) → (∀ j : Nat, j ≠ 114 → j ≠ 120 → g_5 j = g j) → MM D ad N g_5 H → va_S (AA ad N) s.heap H locs → ∀ (ls : Array Slot), lv_has ls 7 [(4, .int (nI (i2))), (3, .int (nI (v))), (2, .int (nI (m1))), (1, .int (nI (lf))), (0, .ref (ad 114))] → W p l e (rmF 1 22) s m [.ref (ad 114)].toArray below meth c H locs 0 0 (MQ below (QV (fun g1 => ∃ (LB2 : Nat → Int32), (∀ i, i < wn w → LB2 i = lyr w i) ∧ g1 114 = mob ad (nI (wn w)) (nI (wf w)) (nI (wh w)) (lN (wo w)) (nI (un)) (nI (fs (fun L => decide (fre (wn w) (wo w) (lef (wn w) (wo w) (wh w) L) = 0)) (wn w))) (nI (lef (wn w) (wo w) (wh w) (wn w))) (nI (tp)) ft (nI (wr0)) (nI (wa)) (nI (at0)) (nI (sp)) (nI (tk)) vl (nI (fi)) (nI (nm)) (nI (dp)) wy st (nI (aP)) (nI (aF)) (nI (aH)) (lN aO) (nI (ps)) (nI (mn)) go (nI (vi)) ∧ g1 120 = .inl (cy 1, 8, .inl LB2) ∧ (∀ j, j ≠ 114 → j ≠ 120 → g1 j = g j)) D ad N) [.ref (ad 114)].toArray s 0 0 (AA ad N)) (F0 m 145 ls []) := by
                      intro fu
                      induction fu with
                      | zero => intro i2 A2 hi2 hA2 hA3 hms g_5 H locs h114_5 h120_5 hfr_5 hP hS ls hl; exact absurd hms (Nat.not_lt_zero _)
                      | succ fu ih145 =>
                        intro i2 A2 hi2 hA2 hA3 hms g_5 H locs h114_5 h120_5 hfr_5 hP hS ls hl
                        have h115_5 : g_5 115 = .inl (cy 1, 8, .inl (fun x9 => nI (P x9))) := (hfr_5 115 (by omega) (by omega)).trans hP9
                        refine lv_iload hx hb dX10_layLayers_145 (lv_at hl 0 rfl) ?_
                        refine lv_aload_n hx hb dX10_layLayers_147 rfl (lv_at hl 4 rfl) ?_
                        refine mg S hK hP (by omega) h114_5 fd_X10_7 rfl dX10_layLayers_148 ?_
                        refine lv_icmp_ge (tgt := 191) hx hb dX10_layLayers_151 (by decide) (fun c_151 => ?_) (fun c_151 => ?_)
                        · skip
                          have c_151 := (nI_leI (by omega) (by omega)).mp c_151
                          have J200 : ∀ (m2 : Nat), (m2 = if v = 0 then 0 else 1) → ∀ (ls : Array Slot), lv_has ls 7 [(4, .int (nI (i2))), (3, .int (nI (v))), (2, .int (nI (m1))), (1, .int (nI (lf))), (0, .ref (ad 114))] → W p l e (rmF 1 22) s m [.ref (ad 114)].toArray below meth c H locs 0 0 (MQ below (QV (fun g1 => ∃ (LB2 : Nat → Int32), (∀ i, i < wn w → LB2 i = lyr w i) ∧ g1 114 = mob ad (nI (wn w)) (nI (wf w)) (nI (wh w)) (lN (wo w)) (nI (un)) (nI (fs (fun L => decide (fre (wn w) (wo w) (lef (wn w) (wo w) (wh w) L) = 0)) (wn w))) (nI (lef (wn w) (wo w) (wh w) (wn w))) (nI (tp)) ft (nI (wr0)) (nI (wa)) (nI (at0)) (nI (sp)) (nI (tk)) vl (nI (fi)) (nI (nm)) (nI (dp)) wy st (nI (aP)) (nI (aF)) (nI (aH)) (lN aO) (nI (ps)) (nI (mn)) go (nI (vi)) ∧ g1 120 = .inl (cy 1, 8, .inl LB2) ∧ (∀ j, j ≠ 114 → j ≠ 120 → g1 j = g j)) D ad N) [.ref (ad 114)].toArray s 0 0 (AA ad N)) (F0 m 200 ls [.int (nI (m2))]) := by
                            intro m2 hm2 ls hl
                            refine lv_istore_n (lv' := [(2, .int (nI (m2))), (4, .int (nI (i2))), (3, .int (nI (v))), (1, .int (nI (lf))), (0, .ref (ad 114))]) hx hb dX10_layLayers_200 rfl hl (by decide) rfl (fun ls hl => ?_)
                            refine lv_aload_n hx hb dX10_layLayers_201 rfl (lv_at hl 4 rfl) ?_
                            refine lv_dup hx hb dX10_layLayers_202 rfl ?_
                            refine mg S hK hP (by omega) h114_5 fd_X10_189 rfl dX10_layLayers_203 ?_
                            have J215 : ∀ (m3 : Nat), (m3 = if v = 0 then 0 else 1) → ∀ (ls : Array Slot), lv_has ls 7 [(2, .int (nI (m2))), (4, .int (nI (i2))), (3, .int (nI (v))), (1, .int (nI (lf))), (0, .ref (ad 114))] → W p l e (rmF 1 22) s m [.ref (ad 114)].toArray below meth c H locs 0 0 (MQ below (QV (fun g1 => ∃ (LB2 : Nat → Int32), (∀ i, i < wn w → LB2 i = lyr w i) ∧ g1 114 = mob ad (nI (wn w)) (nI (wf w)) (nI (wh w)) (lN (wo w)) (nI (un)) (nI (fs (fun L => decide (fre (wn w) (wo w) (lef (wn w) (wo w) (wh w) L) = 0)) (wn w))) (nI (lef (wn w) (wo w) (wh w) (wn w))) (nI (tp)) ft (nI (wr0)) (nI (wa)) (nI (at0)) (nI (sp)) (nI (tk)) vl (nI (fi)) (nI (nm)) (nI (dp)) wy st (nI (aP)) (nI (aF)) (nI (aH)) (lN aO) (nI (ps)) (nI (mn)) go (nI (vi)) ∧ g1 120 = .inl (cy 1, 8, .inl LB2) ∧ (∀ j, j ≠ 114 → j ≠ 120 → g1 j = g j)) D ad N) [.ref (ad 114)].toArray s 0 0 (AA ad N)) (F0 m 215 ls [.int (nI (m3)), .int (nI (L)), .ref (ad 114)]) := by
                              intro m3 hm3 ls hl
                              refine lv_iadd hx hb dX10_layLayers_215 ?_
                              refine tpi (nI_add L m3) ?_
                              refine mp S hK hP hI hS (by omega) h114_5 fd_X10_189 rfl rfl (Nat.le_of_ble_eq_true rfl) dX10_layLayers_216 (fun g_6 H locs eg_6 hP hS => ?_)
                              have h114_6 : g_6 114 = mob ad (nI (wn w)) (nI (wf w)) (nI (wh w)) (lN (wo w)) (nI (un)) (nI (L + m3)) bo (nI (tp)) ft (nI (wr0)) (nI (wa)) (nI (at0)) (nI (sp)) (nI (tk)) vl (nI (fi)) (nI (nm)) (nI (dp)) wy st (nI (aP)) (nI (aF)) (nI (aH)) (lN aO) (nI (ps)) (nI (mn)) go (nI (vi)) := by rw [eg_6, va_up_self]; exact rfl
                              have h115_6 : g_6 115 = .inl (cy 1, 8, .inl (fun x9 => nI (P x9))) := ((congrFun eg_6 _).trans (va_up_ne _ _ (by omega))).trans h115_5
                              have h120_6 : g_6 120 = .inl (cy 1, 8, .inl A2) := ((congrFun eg_6 _).trans (va_up_ne _ _ (by omega))).trans h120_5
                              have hfr_6 : ∀ j : Nat, j ≠ 114 → j ≠ 120 → g_6 j = g j := fun j n0 n1 => ((congrFun eg_6 _).trans (va_up_ne _ _ n0)).trans (hfr_5 j n0 n1)
                              refine lv_iload_n hx hb dX10_layLayers_219 rfl (lv_at hl 3 rfl) ?_
                              refine lv_iload_n hx hb dX10_layLayers_220 rfl (lv_at hl 2 rfl) ?_
                              refine lv_iconst (v := (-1)) hx hb dX10_layLayers_221 (by decide) ?_
                              refine lv_ixor hx hb dX10_layLayers_222 ?_
                              refine lv_iand hx hb dX10_layLayers_223 ?_
                              refine tpi (nI_an _ _) ?_
                              refine lv_istore_n (lv' := [(1, .int (nI (an lf v))), (2, .int (nI (m2))), (4, .int (nI (i2))), (3, .int (nI (v))), (0, .ref (ad 114))]) hx hb dX10_layLayers_224 rfl hl (by decide) rfl (fun ls hl => ?_)
                              refine lv_goto (tgt := 34) hx hb dX10_layLayers_225 (by decide) ?_
                              exact ih34 m2 (if v = 0 then L else L + 1) (an lf v) A2 (by rw [hm2]; split <;> omega) (by split; (rename_i q; rw [q, an_0]; exact hlf); (rename_i q; rw [lef_s, ← hlf, ← hvF])) (by split; exact hall; (rename_i q; exact lt_sn hall (by rw [← hlf, ← hvF]; exact q))) (fun i hi => hA2 i (by omega)) (fun q => by have qv : v = 0 := (Decidable.byContradiction (fun z => by rw [hm2, if_neg z] at q; omega)); rw [qv, an_0, ← hvF]; exact qv) (by have hms9 := hms34; rw [if_neg c_35] at hms9; rw [hm2]; by_cases q : v = 0; rw [if_pos q]; simp; omega; rw [if_neg q]; simp only [if_neg (show ¬ 1 = 0 by omega)]; rw [hvF] at q; have := lef_dec (n := wn w) (o := wo w) (lf := lf) (m := 8) hn8 q; rw [← hvF] at this; omega) g_6 _ _ (by have q := h114_6; rw [show L + m3 = (if v = 0 then L else L + 1) by rw [hm3]; split <;> omega] at q; exact q) h120_6 hfr_6 hP hS _ (lv_sub hl [1, 0, 4] rfl)
                            have hm2b : m2 ≤ 1 := by rw [hm2]; split <;> omega
                            refine lv_iload_n hx hb dX10_layLayers_206 rfl (lv_at hl 0 rfl) ?_
                            refine lv_if_eq (tgt := 214) hx hb dX10_layLayers_207 (by decide) (fun c_207 => ?_) (fun c_207 => ?_)
                            · skip
                              have c_207 := (z_eq (by omega)).mp c_207
                              refine lv_iconst (v := nI (0)) hx hb dX10_layLayers_214 (by decide) ?_
                              exact J215 0 (by rw [if_pos (Decidable.byContradiction (fun q => by rw [hm2, if_neg q] at c_207; omega))]) _ (lv_sub hl [0, 1, 2, 3, 4] rfl)
                            · skip
                              have c_207 := (not_congr (z_eq (by omega))).mp c_207
                              refine lv_iconst (v := nI (1)) hx hb dX10_layLayers_210 (by decide) ?_
                              refine lv_goto (tgt := 215) hx hb dX10_layLayers_211 (by decide) ?_
                              exact J215 1 (by rw [if_neg (fun q => c_207 (by rw [hm2, if_pos q]))]) _ (lv_sub hl [0, 1, 2, 3, 4] rfl)
                          refine lv_iload_n hx hb dX10_layLayers_191 rfl (lv_at hl 1 rfl) ?_
                          refine lv_if_eq (tgt := 199) hx hb dX10_layLayers_192 (by decide) (fun c_192 => ?_) (fun c_192 => ?_)
                          · skip
                            have c_192 := (z_eq (by omega)).mp c_192
                            refine lv_iconst (v := nI (0)) hx hb dX10_layLayers_199 (by decide) ?_
                            exact J200 0 (by rw [if_pos c_192]) _ (lv_sub hl [0, 1, 2, 3, 4] rfl)
                          · skip
                            have c_192 := (not_congr (z_eq (by omega))).mp c_192
                            refine lv_iconst (v := nI (1)) hx hb dX10_layLayers_195 (by decide) ?_
                            refine lv_goto (tgt := 200) hx hb dX10_layLayers_196 (by decide) ?_
                            exact J200 1 (by rw [if_neg c_192]) _ (lv_sub hl [0, 1, 2, 3, 4] rfl)
                        · skip
                          have c_151 := (not_congr (nI_leI (by omega) (by omega))).mp c_151
                          refine lv_aload_n hx hb dX10_layLayers_154 rfl (lv_at hl 4 rfl) ?_
                          refine mg S hK hP (by omega) h114_5 fd_X10_36 rfl dX10_layLayers_155 ?_
                          refine lv_iload hx hb dX10_layLayers_158 (lv_at hl 0 rfl) ?_
                          have J184 : ∀ (z8 : Int32), (z8 = lyC (wn w) (wo w) (wh w) (if v = 0 then L else L + 1) i2) → ∀ (ls : Array Slot), lv_has ls 7 [(4, .int (nI (i2))), (3, .int (nI (v))), (2, .int (nI (m1))), (1, .int (nI (lf))), (0, .ref (ad 114))] → W p l e (rmF 1 22) s m [.ref (ad 114)].toArray below meth c H locs 0 0 (MQ below (QV (fun g1 => ∃ (LB2 : Nat → Int32), (∀ i, i < wn w → LB2 i = lyr w i) ∧ g1 114 = mob ad (nI (wn w)) (nI (wf w)) (nI (wh w)) (lN (wo w)) (nI (un)) (nI (fs (fun L => decide (fre (wn w) (wo w) (lef (wn w) (wo w) (wh w) L) = 0)) (wn w))) (nI (lef (wn w) (wo w) (wh w) (wn w))) (nI (tp)) ft (nI (wr0)) (nI (wa)) (nI (at0)) (nI (sp)) (nI (tk)) vl (nI (fi)) (nI (nm)) (nI (dp)) wy st (nI (aP)) (nI (aF)) (nI (aH)) (lN aO) (nI (ps)) (nI (mn)) go (nI (vi)) ∧ g1 120 = .inl (cy 1, 8, .inl LB2) ∧ (∀ j, j ≠ 114 → j ≠ 120 → g1 j = g j)) D ad N) [.ref (ad 114)].toArray s 0 0 (AA ad N)) (F0 m 184 ls [.int z8, .int (nI (i2)), .ref (ad 120)]) := by
                            intro z8 hz8 ls hl
                            refine mias S hK hP hI hS (by omega) h120_5 (vp_in_nI (by omega) (by omega)) dX10_layLayers_184 (fun g_7 H locs eg_7 hP hS => ?_)
                            have h120_7 : g_7 120 = .inl (cy 1, 8, .inl (upd A2 i2 z8)) := by rw [eg_7, va_up_self]; exact (arrI_up (by omega))
                            have h114_7 : g_7 114 = mob ad (nI (wn w)) (nI (wf w)) (nI (wh w)) (lN (wo w)) (nI (un)) (nI (L)) bo (nI (tp)) ft (nI (wr0)) (nI (wa)) (nI (at0)) (nI (sp)) (nI (tk)) vl (nI (fi)) (nI (nm)) (nI (dp)) wy st (nI (aP)) (nI (aF)) (nI (aH)) (lN aO) (nI (ps)) (nI (mn)) go (nI (vi)) := ((congrFun eg_7 _).trans (va_up_ne _ _ (by omega))).trans h114_5
                            have h115_7 : g_7 115 = .inl (cy 1, 8, .inl (fun x9 => nI (P x9))) := ((congrFun eg_7 _).trans (va_up_ne _ _ (by omega))).trans h115_5
                            have hfr_7 : ∀ j : Nat, j ≠ 114 → j ≠ 120 → g_7 j = g j := fun j n0 n1 => ((congrFun eg_7 _).trans (va_up_ne _ _ n1)).trans (hfr_5 j n0 n1)
                            refine lv_iinc (v := nI (i2 + 1)) (lv' := [(4, .int (nI (i2 + 1))), (3, .int (nI (v))), (2, .int (nI (m1))), (1, .int (nI (lf))), (0, .ref (ad 114))]) hx hb dX10_layLayers_185 hl (k := 0) rfl (by exact nI_add i2 1) (by decide) rfl (fun ls hl => ?_)
                            refine lv_goto (tgt := 145) hx hb dX10_layLayers_188 (by decide) ?_
                            exact ih145 (i2 + 1) (upd A2 i2 z8) (by omega) (lt_sn (fun j hj => by unfold upd; rw [if_neg (by omega)]; exact hA2 j hj) (by unfold upd; rw [if_pos rfl]; exact hz8)) (fun j h1 h2 => by unfold upd; rw [if_neg (by omega)]; exact hA3 j (by omega) h2) (by omega) g_7 _ _ h114_7 h120_7 hfr_7 hP hS _ (lv_sub hl [0, 1, 2, 3, 4] rfl)
                          refine lv_iload_n hx hb dX10_layLayers_160 rfl (lv_at hl 1 rfl) ?_
                          refine lv_iload hx hb dX10_layLayers_161 (lv_at hl 0 rfl) ?_
                          refine lv_ishr hx hb dX10_layLayers_163 ?_
                          refine tpi (shrN (by omega) (by omega)) ?_
                          refine lv_iconst (v := nI (1)) hx hb dX10_layLayers_164 (by decide) ?_
                          refine lv_iand hx hb dX10_layLayers_165 ?_
                          refine tpi (nx_and (v / 2 ^ i2) 1) ?_
                          refine lv_iconst (v := nI (1)) hx hb dX10_layLayers_166 (by decide) ?_
                          have hz9 : v / 2 ^ i2 &&& 1 ≤ 1 := Nat.and_le_right
                          refine lv_icmp_ne (tgt := 177) hx hb dX10_layLayers_167 (by decide) (fun c_167 => ?_) (fun c_167 => ?_)
                          · skip
                            have c_167 := (not_congr (nI_eq (by omega) (by omega))).mp c_167
                            refine lv_aload_n hx hb dX10_layLayers_177 rfl (lv_at hl 4 rfl) ?_
                            refine mg S hK hP (by omega) h114_5 fd_X10_36 rfl dX10_layLayers_178 ?_
                            refine lv_iload hx hb dX10_layLayers_181 (lv_at hl 0 rfl) ?_
                            refine mial S hK hP (by omega) h120_5 (vp_in_nI (by omega) (by omega)) dX10_layLayers_183 ?_
                            refine tpi (congrArg A2 (nI_clamp (by omega))) ?_
                            exact J184 (A2 i2) (by have hb := b1_0 (a := v) (k := i2) (by omega); rw [hA3 i2 (by omega) (by omega)]; split; rfl; rw [hvF, hlf] at hb; exact (lyC_n hb).symm) _ (lv_sub hl [0, 1, 2, 3, 4] rfl)
                          · skip
                            have c_167 := (nI_eq (by omega) (by omega)).mp c_167
                            refine lv_aload_n hx hb dX10_layLayers_170 rfl (lv_at hl 4 rfl) ?_
                            refine mg S hK hP (by omega) h114_5 fd_X10_189 rfl dX10_layLayers_171 ?_
                            refine lv_goto (tgt := 184) hx hb dX10_layLayers_174 (by decide) ?_
                            exact J184 (nI (L)) (by have hb := b1_1 (a := v) (k := i2) (by omega); have hv0 : ¬ v = 0 := (fun q => by rw [q, Nat.zero_testBit] at hb; cases hb); rw [if_neg hv0]; rw [hvF, hlf] at hb; exact (lyC_y hb).symm) _ (lv_sub hl [0, 1, 2, 3, 4] rfl)
                    exact L145 ((wn w - 0) + 1) 0 A1 (by omega) (fun j q => absurd q (Nat.not_lt_zero _)) (fun j _ h => hA1 j h) (Nat.lt_succ_self _) g_3 _ _ h114_3 h120_3 hfr_3 hP hS _ (lv_sub hl [0, 1, 2, 3, 4] rfl)
                  · skip
                    have c_49 := (not_congr (nI_leI (by omega) (by omega))).mp c_49
                    have J67 : ∀ (z0 : Nat), (z0 = (if frM lf (wo w) i 0 = true then 1 else 0)) → ∀ (ls : Array Slot), lv_has ls 7 [(4, .int (nI (i))), (3, .int (nI (v))), (2, .int (nI (m1))), (1, .int (nI (lf))), (0, .ref (ad 114))] → W p l e (rmF 1 22) s m [.ref (ad 114)].toArray below meth c H locs 0 0 (MQ below (QV (fun g1 => ∃ (LB2 : Nat → Int32), (∀ i, i < wn w → LB2 i = lyr w i) ∧ g1 114 = mob ad (nI (wn w)) (nI (wf w)) (nI (wh w)) (lN (wo w)) (nI (un)) (nI (fs (fun L => decide (fre (wn w) (wo w) (lef (wn w) (wo w) (wh w) L) = 0)) (wn w))) (nI (lef (wn w) (wo w) (wh w) (wn w))) (nI (tp)) ft (nI (wr0)) (nI (wa)) (nI (at0)) (nI (sp)) (nI (tk)) vl (nI (fi)) (nI (nm)) (nI (dp)) wy st (nI (aP)) (nI (aF)) (nI (aH)) (lN aO) (nI (ps)) (nI (mn)) go (nI (vi)) ∧ g1 120 = .inl (cy 1, 8, .inl LB2) ∧ (∀ j, j ≠ 114 → j ≠ 120 → g1 j = g j)) D ad N) [.ref (ad 114)].toArray s 0 0 (AA ad N)) (F0 m 67 ls [.int (nI (z0))]) := by
                      intro z0 hz0 ls hl
                      refine lv_istore (lv' := [(5, .int (nI (z0))), (4, .int (nI (i))), (3, .int (nI (v))), (2, .int (nI (m1))), (1, .int (nI (lf))), (0, .ref (ad 114))]) hx hb dX10_layLayers_67 hl (by decide) rfl (fun ls hl => ?_)
                      refine lv_iconst (v := nI (0)) hx hb dX10_layLayers_69 (by decide) ?_
                      refine lv_istore (lv' := [(6, .int (nI (0))), (5, .int (nI (z0))), (4, .int (nI (i))), (3, .int (nI (v))), (2, .int (nI (m1))), (1, .int (nI (lf))), (0, .ref (ad 114))]) hx hb dX10_layLayers_70 hl (by decide) rfl (fun ls hl => ?_)
                      have L72 : ∀ (fu : Nat) (j z5 : Nat), (j ≤ wn w) → (z5 = (if frM lf (wo w) i j = true then 1 else 0)) → (wn w - j) < fu → ∀ (ls : Array Slot), lv_has ls 7 [(6, .int (nI (j))), (5, .int (nI (z5))), (4, .int (nI (i))), (3, .int (nI (v))), (2, .int (nI (m1))), (1, .int (nI (lf))), (0, .ref (ad 114))] → W p l e (rmF 1 22) s m [.ref (ad 114)].toArray below meth c H locs 0 0 (MQ below (QV (fun g1 => ∃ (LB2 : Nat → Int32), (∀ i, i < wn w → LB2 i = lyr w i) ∧ g1 114 = mob ad (nI (wn w)) (nI (wf w)) (nI (wh w)) (lN (wo w)) (nI (un)) (nI (fs (fun L => decide (fre (wn w) (wo w) (lef (wn w) (wo w) (wh w) L) = 0)) (wn w))) (nI (lef (wn w) (wo w) (wh w) (wn w))) (nI (tp)) ft (nI (wr0)) (nI (wa)) (nI (at0)) (nI (sp)) (nI (tk)) vl (nI (fi)) (nI (nm)) (nI (dp)) wy st (nI (aP)) (nI (aF)) (nI (aH)) (lN aO) (nI (ps)) (nI (mn)) go (nI (vi)) ∧ g1 120 = .inl (cy 1, 8, .inl LB2) ∧ (∀ j, j ≠ 114 → j ≠ 120 → g1 j = g j)) D ad N) [.ref (ad 114)].toArray s 0 0 (AA ad N)) (F0 m 72 ls []) := by
                        intro fu
                        induction fu with
                        | zero => intro j z5 hj hz5 hms ls hl; exact absurd hms (Nat.not_lt_zero _)
                        | succ fu ih72 =>
                          intro j z5 hj hz5 hms ls hl
                          refine lv_iload hx hb dX10_layLayers_72 (lv_at hl 0 rfl) ?_
                          refine lv_aload_n hx hb dX10_layLayers_74 rfl (lv_at hl 6 rfl) ?_
                          refine mg S hK hP (by omega) h114_3 fd_X10_7 rfl dX10_layLayers_75 ?_
                          refine lv_icmp_ge (tgt := 120) hx hb dX10_layLayers_78 (by decide) (fun c_78 => ?_) (fun c_78 => ?_)
                          · skip
                            have c_78 := (nI_leI (by omega) (by omega)).mp c_78
                            refine lv_iload_n hx hb dX10_layLayers_120 rfl (lv_at hl 3 rfl) ?_
                            have J134 : ∀ (z7 : Nat), (v ||| z7 = mk (frb (wn w) (wo w) lf) (i + 1)) → ∀ (ls : Array Slot), lv_has ls 7 [(6, .int (nI (j))), (5, .int (nI (z5))), (4, .int (nI (i))), (3, .int (nI (v))), (2, .int (nI (m1))), (1, .int (nI (lf))), (0, .ref (ad 114))] → W p l e (rmF 1 22) s m [.ref (ad 114)].toArray below meth c H locs 0 0 (MQ below (QV (fun g1 => ∃ (LB2 : Nat → Int32), (∀ i, i < wn w → LB2 i = lyr w i) ∧ g1 114 = mob ad (nI (wn w)) (nI (wf w)) (nI (wh w)) (lN (wo w)) (nI (un)) (nI (fs (fun L => decide (fre (wn w) (wo w) (lef (wn w) (wo w) (wh w) L) = 0)) (wn w))) (nI (lef (wn w) (wo w) (wh w) (wn w))) (nI (tp)) ft (nI (wr0)) (nI (wa)) (nI (at0)) (nI (sp)) (nI (tk)) vl (nI (fi)) (nI (nm)) (nI (dp)) wy st (nI (aP)) (nI (aF)) (nI (aH)) (lN aO) (nI (ps)) (nI (mn)) go (nI (vi)) ∧ g1 120 = .inl (cy 1, 8, .inl LB2) ∧ (∀ j, j ≠ 114 → j ≠ 120 → g1 j = g j)) D ad N) [.ref (ad 114)].toArray s 0 0 (AA ad N)) (F0 m 134 ls [.int (nI (z7)), .int (nI (v))]) := by
                              intro z7 hz7 ls hl
                              refine lv_ior hx hb dX10_layLayers_134 ?_
                              refine tpi (nI_or v z7) ?_
                              refine lv_istore_n (lv' := [(3, .int (nI (v ||| z7))), (6, .int (nI (j))), (5, .int (nI (z5))), (4, .int (nI (i))), (2, .int (nI (m1))), (1, .int (nI (lf))), (0, .ref (ad 114))]) hx hb dX10_layLayers_135 rfl hl (by decide) rfl (fun ls hl => ?_)
                              refine lv_iinc (v := nI (i + 1)) (lv' := [(4, .int (nI (i + 1))), (3, .int (nI (v ||| z7))), (6, .int (nI (j))), (5, .int (nI (z5))), (2, .int (nI (m1))), (1, .int (nI (lf))), (0, .ref (ad 114))]) hx hb dX10_layLayers_136 hl (k := 3) rfl (by exact nI_add i 1) (by decide) rfl (fun ls hl => ?_)
                              refine lv_goto (tgt := 43) hx hb dX10_layLayers_139 (by decide) ?_
                              exact ih43 (i + 1) (v ||| z7) (by omega) hz7 (by omega) _ (lv_sub hl [0, 1, 4, 5, 6] rfl)
                            have hz5b : z5 ≤ 1 := by rw [hz5]; split <;> omega
                            refine lv_iload hx hb dX10_layLayers_121 (lv_at hl 1 rfl) ?_
                            refine lv_if_eq (tgt := 133) hx hb dX10_layLayers_123 (by decide) (fun c_123 => ?_) (fun c_123 => ?_)
                            · skip
                              have c_123 := (z_eq (by omega)).mp c_123
                              refine lv_iconst (v := nI (0)) hx hb dX10_layLayers_133 (by decide) ?_
                              exact J134 0 (by rw [hv, Nat.or_zero]; exact (mk_f (by rw [← frM_e, show wn w = j by omega]; cases q : frM lf (wo w) i j with | false => rfl | true => rw [hz5, q] at c_123; exact absurd c_123 (by decide))).symm) _ (lv_sub hl [0, 1, 2, 3, 4, 5, 6] rfl)
                            · skip
                              have c_123 := (not_congr (z_eq (by omega))).mp c_123
                              refine lv_iconst (v := nI (1)) hx hb dX10_layLayers_126 (by decide) ?_
                              refine lv_iload hx hb dX10_layLayers_127 (lv_at hl 2 rfl) ?_
                              refine lv_ishl hx hb dX10_layLayers_129 ?_
                              refine tpi (shlN 1 (by omega)) ?_
                              refine tpi (by rw [Nat.one_mul]) ?_
                              refine lv_goto (tgt := 134) hx hb dX10_layLayers_130 (by decide) ?_
                              exact J134 (2 ^ i) (by rw [hv]; exact (mk_t (by rw [← frM_e, show wn w = j by omega]; cases q : frM lf (wo w) i j with | true => rfl | false => rw [hz5, q] at c_123; exact absurd rfl c_123)).symm) _ (lv_sub hl [0, 1, 2, 3, 4, 5, 6] rfl)
                          · skip
                            have c_78 := (not_congr (nI_leI (by omega) (by omega))).mp c_78
                            have J112 : ∀ (z6 : Nat), (z6 = (if frM lf (wo w) i (j + 1) = true then 1 else 0)) → ∀ (ls : Array Slot), lv_has ls 7 [(6, .int (nI (j))), (5, .int (nI (z5))), (4, .int (nI (i))), (3, .int (nI (v))), (2, .int (nI (m1))), (1, .int (nI (lf))), (0, .ref (ad 114))] → W p l e (rmF 1 22) s m [.ref (ad 114)].toArray below meth c H locs 0 0 (MQ below (QV (fun g1 => ∃ (LB2 : Nat → Int32), (∀ i, i < wn w → LB2 i = lyr w i) ∧ g1 114 = mob ad (nI (wn w)) (nI (wf w)) (nI (wh w)) (lN (wo w)) (nI (un)) (nI (fs (fun L => decide (fre (wn w) (wo w) (lef (wn w) (wo w) (wh w) L) = 0)) (wn w))) (nI (lef (wn w) (wo w) (wh w) (wn w))) (nI (tp)) ft (nI (wr0)) (nI (wa)) (nI (at0)) (nI (sp)) (nI (tk)) vl (nI (fi)) (nI (nm)) (nI (dp)) wy st (nI (aP)) (nI (aF)) (nI (aH)) (lN aO) (nI (ps)) (nI (mn)) go (nI (vi)) ∧ g1 120 = .inl (cy 1, 8, .inl LB2) ∧ (∀ j, j ≠ 114 → j ≠ 120 → g1 j = g j)) D ad N) [.ref (ad 114)].toArray s 0 0 (AA ad N)) (F0 m 112 ls [.int (nI (z6))]) := by
                              intro z6 hz6 ls hl
                              refine lv_istore (lv' := [(5, .int (nI (z6))), (6, .int (nI (j))), (4, .int (nI (i))), (3, .int (nI (v))), (2, .int (nI (m1))), (1, .int (nI (lf))), (0, .ref (ad 114))]) hx hb dX10_layLayers_112 hl (by decide) rfl (fun ls hl => ?_)
                              refine lv_iinc (v := nI (j + 1)) (lv' := [(6, .int (nI (j + 1))), (5, .int (nI (z6))), (4, .int (nI (i))), (3, .int (nI (v))), (2, .int (nI (m1))), (1, .int (nI (lf))), (0, .ref (ad 114))]) hx hb dX10_layLayers_114 hl (k := 1) rfl (by exact nI_add j 1) (by decide) rfl (fun ls hl => ?_)
                              refine lv_goto (tgt := 72) hx hb dX10_layLayers_117 (by decide) ?_
                              exact ih72 (j + 1) z6 (by omega) hz6 (by omega) _ (lv_sub hl [0, 1, 2, 3, 4, 5, 6] rfl)
                            have hz5b : z5 ≤ 1 := by rw [hz5]; split <;> omega
                            refine lv_iload hx hb dX10_layLayers_81 (lv_at hl 1 rfl) ?_
                            refine lv_if_eq (tgt := 111) hx hb dX10_layLayers_83 (by decide) (fun c_83 => ?_) (fun c_83 => ?_)
                            · skip
                              have c_83 := (z_eq (by omega)).mp c_83
                              refine lv_iconst (v := nI (0)) hx hb dX10_layLayers_111 (by decide) ?_
                              exact J112 0 (by first | (rw [frM_b (b1_1 (by omega)) c_104]; rfl) | (rw [frM_n (show frM lf (wo w) i j = false by cases q : frM lf (wo w) i j with | false => rfl | true => rw [hz5, q] at c_83; exact absurd c_83 (by decide))]; rfl)) _ (lv_sub hl [0, 1, 2, 3, 4, 5, 6] rfl)
                            · skip
                              have c_83 := (not_congr (z_eq (by omega))).mp c_83
                              refine lv_iload_n hx hb dX10_layLayers_86 rfl (lv_at hl 5 rfl) ?_
                              refine lv_iload hx hb dX10_layLayers_87 (lv_at hl 0 rfl) ?_
                              refine lv_ishr hx hb dX10_layLayers_89 ?_
                              refine tpi (shrN (by omega) (by omega)) ?_
                              refine lv_iconst (v := nI (1)) hx hb dX10_layLayers_90 (by decide) ?_
                              refine lv_iand hx hb dX10_layLayers_91 ?_
                              refine tpi (nx_and (lf / 2 ^ j) 1) ?_
                              refine lv_iconst (v := nI (1)) hx hb dX10_layLayers_92 (by decide) ?_
                              have hz9 : lf / 2 ^ j &&& 1 ≤ 1 := Nat.and_le_right
                              refine lv_icmp_ne (tgt := 107) hx hb dX10_layLayers_93 (by decide) (fun c_93 => ?_) (fun c_93 => ?_)
                              · skip
                                have c_93 := (not_congr (nI_eq (by omega) (by omega))).mp c_93
                                refine lv_iconst (v := nI (1)) hx hb dX10_layLayers_107 (by decide) ?_
                                refine lv_goto (tgt := 112) hx hb dX10_layLayers_108 (by decide) ?_
                                exact J112 1 (by rw [frM_a (show frM lf (wo w) i j = true by cases q : frM lf (wo w) i j with | true => rfl | false => rw [hz5, q] at c_83; exact absurd rfl c_83) (fun z => by first | (rw [(b1_0 (show lf / 2 ^ j &&& 1 = 0 by omega))] at z; cases z.1) | exact c_104 z.2)]; rfl) _ (lv_sub hl [0, 1, 2, 3, 4, 5, 6] rfl)
                              · skip
                                have c_93 := (nI_eq (by omega) (by omega)).mp c_93
                                refine lv_aload_n hx hb dX10_layLayers_96 rfl (lv_at hl 6 rfl) ?_
                                refine lv_iload hx hb dX10_layLayers_97 (lv_at hl 0 rfl) ?_
                                refine lv_iload hx hb dX10_layLayers_99 (lv_at hl 2 rfl) ?_
                                refine kVi (As := [.int (nI (j)), .int (nI (i))]) (rest := []) S hK hP (c_X10_isOver l D cy ad N g_3 (by omega) (wn w) (wf w) (wh w) (wo w) un (nI (L)) bo tp ft wr0 wa at0 sp tk vl fi nm dp wy st aP aF aH aO ps mn go vi h114_3 j (by omega) i (by omega)) cv_X10_129 (by omega) h114_3 ⟨_, _, rfl⟩ ⟨rfl, rfl⟩ rfl hl.1 rfl (Nat.le_of_ble_eq_true rfl) ⟨Nat.zero_le _, Nat.zero_le _⟩ dX10_layLayers_101 (fun r_101 q_101 => ?_)
                                subst q_101
                                refine lv_if_ne (tgt := 111) hx hb dX10_layLayers_104 (by decide) (fun c_104 => ?_) (fun c_104 => ?_)
                                · skip
                                  have c_104 := bz_ne.mp c_104
                                  refine lv_iconst (v := nI (0)) hx hb dX10_layLayers_111 (by decide) ?_
                                  exact J112 0 (by first | (rw [frM_b (b1_1 (by omega)) c_104]; rfl) | (rw [frM_n (show frM lf (wo w) i j = false by cases q : frM lf (wo w) i j with | false => rfl | true => rw [hz5, q] at c_83; exact absurd c_83 (by decide))]; rfl)) _ (lv_sub hl [0, 1, 2, 3, 4, 5, 6] rfl)
                                · skip
                                  have c_104 := bz_eq.mp c_104
                                  refine lv_iconst (v := nI (1)) hx hb dX10_layLayers_107 (by decide) ?_
                                  refine lv_goto (tgt := 112) hx hb dX10_layLayers_108 (by decide) ?_
                                  exact J112 1 (by rw [frM_a (show frM lf (wo w) i j = true by cases q : frM lf (wo w) i j with | true => rfl | false => rw [hz5, q] at c_83; exact absurd rfl c_83) (fun z => by first | (rw [(b1_0 (show lf / 2 ^ j &&& 1 = 0 by omega))] at z; cases z.1) | exact c_104 z.2)]; rfl) _ (lv_sub hl [0, 1, 2, 3, 4, 5, 6] rfl)
                      exact L72 ((wn w - 0) + 1) 0 z0 (by omega) hz0 (Nat.lt_succ_self _) _ (lv_sub hl [0, 1, 2, 3, 4, 5, 6] rfl)
                    refine lv_iload_n hx hb dX10_layLayers_52 rfl (lv_at hl 3 rfl) ?_
                    refine lv_iload hx hb dX10_layLayers_53 (lv_at hl 0 rfl) ?_
                    refine lv_ishr hx hb dX10_layLayers_55 ?_
                    refine tpi (shrN (by omega) (by omega)) ?_
                    refine lv_iconst (v := nI (1)) hx hb dX10_layLayers_56 (by decide) ?_
                    refine lv_iand hx hb dX10_layLayers_57 ?_
                    refine tpi (nx_and (lf / 2 ^ i) 1) ?_
                    refine lv_iconst (v := nI (1)) hx hb dX10_layLayers_58 (by decide) ?_
                    have hz9 : lf / 2 ^ i &&& 1 ≤ 1 := Nat.and_le_right
                    refine lv_icmp_ne (tgt := 66) hx hb dX10_layLayers_59 (by decide) (fun c_59 => ?_) (fun c_59 => ?_)
                    · skip
                      have c_59 := (not_congr (nI_eq (by omega) (by omega))).mp c_59
                      refine lv_iconst (v := nI (0)) hx hb dX10_layLayers_66 (by decide) ?_
                      exact J67 0 (by unfold frM; rw [b1_0 (by omega)]; rfl) _ (lv_sub hl [0, 1, 2, 3, 4] rfl)
                    · skip
                      have c_59 := (nI_eq (by omega) (by omega)).mp c_59
                      refine lv_iconst (v := nI (1)) hx hb dX10_layLayers_62 (by decide) ?_
                      refine lv_goto (tgt := 67) hx hb dX10_layLayers_63 (by decide) ?_
                      exact J67 1 (by unfold frM; rw [if_pos (b1_1 (by omega))]) _ (lv_sub hl [0, 1, 2, 3, 4] rfl)
              exact L43 ((wn w - 0) + 1) 0 0 (by omega) rfl (Nat.lt_succ_self _) _ (lv_sub hl [0, 1, 2, 3, 4] rfl)
        exact L34 ((if 1 = 0 then 0 else cnF (fun k => (wh w).testBit k) 8 + 1) + 1) 1 0 (wh w) A1 (by omega) rfl (fun l q => absurd q (Nat.not_lt_zero _)) (fun i hi => by rw [lyC_0]; exact hA1 i (by omega)) (fun q => by omega) (Nat.lt_succ_self _) g_2 _ _ h114_2 h120_2 hfr_2 hP hS _ (lv_sub hl [0, 1, 2] rfl)
      · skip
        have c_15 := (not_congr (nI_leI (by omega) (by omega))).mp c_15
        refine lv_aload_n hx hb dX10_layLayers_18 rfl (lv_at hl 2 rfl) ?_
        refine mg S hK hP (by omega) h114_2 fd_X10_36 rfl dX10_layLayers_19 ?_
        refine lv_iload_n hx hb dX10_layLayers_22 rfl (lv_at hl 0 rfl) ?_
        refine lv_bipush (v := (-4)) hx hb dX10_layLayers_23 (by decide) ?_
        refine mias S hK hP hI hS (by omega) h120_2 (vp_in_nI (by omega) (by omega)) dX10_layLayers_25 (fun g_8 H locs eg_8 hP hS => ?_)
        have h120_8 : g_8 120 = .inl (cy 1, 8, .inl (upd A1 k9 (-4))) := by rw [eg_8, va_up_self]; exact (arrI_up (by omega))
        have h114_8 : g_8 114 = mob ad (nI (wn w)) (nI (wf w)) (nI (wh w)) (lN (wo w)) (nI (un)) (nI (0)) bo (nI (tp)) ft (nI (wr0)) (nI (wa)) (nI (at0)) (nI (sp)) (nI (tk)) vl (nI (fi)) (nI (nm)) (nI (dp)) wy st (nI (aP)) (nI (aF)) (nI (aH)) (lN aO) (nI (ps)) (nI (mn)) go (nI (vi)) := ((congrFun eg_8 _).trans (va_up_ne _ _ (by omega))).trans h114_2
        have h115_8 : g_8 115 = .inl (cy 1, 8, .inl (fun x9 => nI (P x9))) := ((congrFun eg_8 _).trans (va_up_ne _ _ (by omega))).trans h115_2
        have hfr_8 : ∀ j : Nat, j ≠ 114 → j ≠ 120 → g_8 j = g j := fun j n0 n1 => ((congrFun eg_8 _).trans (va_up_ne _ _ n1)).trans (hfr_2 j n0 n1)
        refine lv_iinc (v := nI (k9 + 1)) (lv' := [(2, .int (nI (k9 + 1))), (1, .int (nI (wh w))), (0, .ref (ad 114))]) hx hb dX10_layLayers_26 hl (k := 0) rfl (by exact nI_add k9 1) (by decide) rfl (fun ls hl => ?_)
        refine lv_goto (tgt := 12) hx hb dX10_layLayers_29 (by decide) ?_
        exact ih12 (k9 + 1) (upd A1 k9 (-4)) (by omega) (lt_sn (fun j hj => by unfold upd; rw [if_neg (by omega)]; exact hA1 j hj) (by unfold upd; rw [if_pos rfl])) (by omega) g_8 _ _ h114_8 h120_8 hfr_8 hP hS _ (lv_sub hl [0, 1, 2] rfl)
  exact L12 ((8 - 0) + 1) 0 LB (by omega) (fun j q => absurd q (Nat.not_lt_zero _)) (Nat.lt_succ_self _) g_1 _ _ h114_1 h120_1 (fun j n0 n1 => hfr_1 j (by omega)) hP hS _ (lv_sub hl [0, 1, 2] rfl)

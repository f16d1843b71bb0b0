set_option maxHeartbeats 4000000 in
set_option maxRecDepth 100000 in
theorem c_X10_change (l : Launch) (D : va_G) (cy : Nat → ClassId) (ad : Nat → Nat) (N : Nat) (g : Nat → va_E) (hinj : ∀ i j : Nat, i < N → j < N → ad i = ad j → i = j) (hN : 145 ≤ N) (n : Nat) (fa : Nat) (he : Nat) (ov : Nat) (un : Nat) (la : Int32) (bo : Int32) (tp : Nat) (ft : Int32) (wr0 : Nat) (wa : Nat) (at0 : Nat) (sp : Nat) (tk : Nat) (vl : Int32) (fi : Nat) (nm : Nat) (dp : Nat) (wy : Int32) (st : Int32) (aP : Nat) (aF : Nat) (aH : Nat) (aO : Nat) (ps : Nat) (mn : Nat) (go : Int32) (vi : Nat) (hM : g 114 = mob ad (nI (n)) (nI (fa)) (nI (he)) (lN ov) (nI (un)) la bo (nI (tp)) ft (nI (wr0)) (nI (wa)) (nI (at0)) (nI (sp)) (nI (tk)) vl (nI (fi)) (nI (nm)) (nI (dp)) wy st (nI (aP)) (nI (aF)) (nI (aH)) (lN aO) (nI (ps)) (nI (mn)) go (nI (vi))) (hn4 : 4 ≤ n) (hn8 : n ≤ 8) (P : Nat → Nat) (hP9 : g 115 = .inl (cy 1, 8, .inl (fun x9 => nI (P x9)))) (da : Nat → Nat) (hpm : Perm n da P) (hov : ov < 2 ^ 64) (hhe : he < 256) (p0 : Nat) (hp0 : p0 < n) (u9 : Nat) (hu9 : u9 < 2) (dr : Nat) (hdr : dr < 2) : Met l yX10_change (WS yX10_change cX10_change 10 (some .int)) (rmF 2 44) (PP [.ref (ad 114), .int (nI (p0)), .int (nI (u9)), .int (nI (dr))] D cy ad N g) (QI (fun r g1 => (r = pR (passF n he (da p0) (da (nx n p0)) (1 - u9) ov 4)) ∧ g1 114 = mob ad (nI (n)) (nI (fa)) (nI (he)) (lN (if dr = 0 then (passF n he (da p0) (da (nx n p0)) (1 - u9) ov 4).getD ov else ov)) (nI (un)) la bo (nI (tp)) ft (nI (wr0)) (nI (wa)) (nI (at0)) (nI (sp)) (nI (tk)) vl (nI (fi)) (nI (nm)) (nI (dp)) wy st (nI (aP)) (nI (aF)) (nI (aH)) (lN aO) (nI (ps)) (nI (mn)) go (nI (vi)) ∧ g1 115 = .inl (cy 1, 8, .inl (fun x9 => nI ((if dr = 0 ∧ (passF n he (da p0) (da (nx n p0)) (1 - u9) ov 4).isSome = true then swp P (da p0) (da (nx n p0)) else P) x9))) ∧ (∀ j, j ≠ 114 → j ≠ 115 → g1 j = g j)) D ad N) 0 0 (AA ad N) := by
  refine mentry (by decide) (Nat.le_of_ble_eq_true rfl) (fun p e s m below meth c ls S hr hlk hnm hP hK hl => ?_)
  have S : CallFix p m c cX10_change 10 s _ wsL_law RX10 := S
  have hx := S.1
  have hb := S.2.1
  have hl : lv_has ls 10 [(0, .ref (ad 114)), (1, .int (nI (p0))), (2, .int (nI (u9))), (3, .int (nI (dr)))] := hl
  have hI : MD (AA ad N) ad N := MD.in hinj
  have hS : va_S (AA ad N) s.heap s.heap [] := va_S.rf
  have hfr : ∀ j : Nat, g j = g j := fun _ => rfl
  have hq9 := nx_lt hn4 hp0
  have ha := hpm.1 p0 hp0
  have hb9 := hpm.1 _ hq9
  have hab := nx_ab hn4 hp0 hpm
  have hpva := pv_lt hn4 ha
  have hpvb := pv_lt hn4 hb9
  refine lv_aload_n hx hb dX10_change_0 rfl (lv_at hl 0 rfl) ?_
  refine lv_iload_n hx hb dX10_change_1 rfl (lv_at hl 1 rfl) ?_
  refine kVi (As := [.int (nI (p0))]) (rest := []) S hK hP (c_X10_dancerAt l D cy ad N g (by omega) n fa he ov un la bo tp ft wr0 wa at0 sp tk vl fi nm dp wy st aP aF aH aO ps mn go vi hM hn4 hn8 P hP9 da hpm p0 (by omega)) cv_X10_135 (by omega) hM ⟨_, _, rfl⟩ ⟨rfl, rfl⟩ rfl hl.1 rfl (Nat.le_of_ble_eq_true rfl) ⟨Nat.zero_le _, Nat.zero_le _⟩ dX10_change_2 (fun r_2 q_2 => ?_)
  subst q_2
  refine lv_istore (lv' := [(4, .int (nI (da p0))), (0, .ref (ad 114)), (1, .int (nI (p0))), (2, .int (nI (u9))), (3, .int (nI (dr)))]) hx hb dX10_change_5 hl (by decide) rfl (fun ls hl => ?_)
  refine lv_aload_n hx hb dX10_change_7 rfl (lv_at hl 1 rfl) ?_
  refine lv_iload_n hx hb dX10_change_8 rfl (lv_at hl 2 rfl) ?_
  refine lv_iconst (v := nI (1)) hx hb dX10_change_9 (by decide) ?_
  refine lv_iadd hx hb dX10_change_10 ?_
  refine tpi (nI_add p0 1) ?_
  refine lv_aload_n hx hb dX10_change_11 rfl (lv_at hl 1 rfl) ?_
  refine mg S hK hP (by omega) hM fd_X10_7 rfl dX10_change_12 ?_
  refine lv_irem hx hb dX10_change_15 (fun h => by have h := (z_eq (by omega)).mp h; omega) ?_
  refine tpi (pk_rem (a := p0 + 1) (by omega) (by omega) (by omega)) ?_
  refine tpi (congrArg nI (nxm hp0)) ?_
  refine kVi (As := [.int (nI (nx n p0))]) (rest := []) S hK hP (c_X10_dancerAt l D cy ad N g (by omega) n fa he ov un la bo tp ft wr0 wa at0 sp tk vl fi nm dp wy st aP aF aH aO ps mn go vi hM hn4 hn8 P hP9 da hpm (nx n p0) (by omega)) cv_X10_135 (by omega) hM ⟨_, _, rfl⟩ ⟨rfl, rfl⟩ rfl hl.1 rfl (Nat.le_of_ble_eq_true rfl) ⟨Nat.zero_le _, Nat.zero_le _⟩ dX10_change_16 (fun r_16 q_16 => ?_)
  subst q_16
  refine lv_istore (lv' := [(5, .int (nI (da (nx n p0)))), (4, .int (nI (da p0))), (0, .ref (ad 114)), (1, .int (nI (p0))), (2, .int (nI (u9))), (3, .int (nI (dr)))]) hx hb dX10_change_19 hl (by decide) rfl (fun ls hl => ?_)
  refine lv_iconst (v := nI (0)) hx hb dX10_change_21 (by decide) ?_
  refine lv_istore (lv' := [(6, .int (nI (0))), (5, .int (nI (da (nx n p0)))), (4, .int (nI (da p0))), (0, .ref (ad 114)), (1, .int (nI (p0))), (2, .int (nI (u9))), (3, .int (nI (dr)))]) hx hb dX10_change_22 hl (by decide) rfl (fun ls hl => ?_)
  have L24 : ∀ (fu : Nat) (r9 o1 : Nat), (r9 ≤ 2) → (oS n he (da p0) (da (nx n p0)) (1 - u9) ov dr r9 o1) → (2 - r9) < fu → ∀ (g_1 : Nat → va_E) (H : Heap) (locs : List Loc), g_1 114 = mob ad (nI (n)) (nI (fa)) (nI (he)) (lN o1) (nI (un)) la bo (nI (tp)) ft (nI (wr0)) (nI (wa)) (nI (at0)) (nI (sp)) (nI (tk)) vl (nI (fi)) (nI (nm)) (nI (dp)) wy st (nI (aP)) (nI (aF)) (nI (aH)) (lN aO) (nI (ps)) (nI (mn)) go (nI (vi)) → (∀ j : Nat, j ≠ 114 → g_1 j = g j) → MM D ad N g_1 H → va_S (AA ad N) s.heap H locs → ∀ (ls : Array Slot), lv_has ls 10 [(6, .int (nI (r9))), (5, .int (nI (da (nx n p0)))), (4, .int (nI (da p0))), (0, .ref (ad 114)), (1, .int (nI (p0))), (2, .int (nI (u9))), (3, .int (nI (dr)))] → W p l e (rmF 2 44) s m [.ref (ad 114), .int (nI (p0)), .int (nI (u9)), .int (nI (dr))].toArray below meth c H locs 0 0 (MQ below (QI (fun r g1 => (r = pR (passF n he (da p0) (da (nx n p0)) (1 - u9) ov 4)) ∧ g1 114 = mob ad (nI (n)) (nI (fa)) (nI (he)) (lN (if dr = 0 then (passF n he (da p0) (da (nx n p0)) (1 - u9) ov 4).getD ov else ov)) (nI (un)) la bo (nI (tp)) ft (nI (wr0)) (nI (wa)) (nI (at0)) (nI (sp)) (nI (tk)) vl (nI (fi)) (nI (nm)) (nI (dp)) wy st (nI (aP)) (nI (aF)) (nI (aH)) (lN aO) (nI (ps)) (nI (mn)) go (nI (vi)) ∧ g1 115 = .inl (cy 1, 8, .inl (fun x9 => nI ((if dr = 0 ∧ (passF n he (da p0) (da (nx n p0)) (1 - u9) ov 4).isSome = true then swp P (da p0) (da (nx n p0)) else P) x9))) ∧ (∀ j, j ≠ 114 → j ≠ 115 → g1 j = g j)) D ad N) [.ref (ad 114), .int (nI (p0)), .int (nI (u9)), .int (nI (dr))].toArray s 0 0 (AA ad N)) (F0 m 24 ls []) := by
    intro fu
    induction fu with
    | zero => intro r9 o1 hr9 ho9 hms g_1 H locs h114_1 hfr_1 hP hS ls hl; exact absurd hms (Nat.not_lt_zero _)
    | succ fu ih24 =>
      intro r9 o1 hr9 ho9 hms g_1 H locs h114_1 hfr_1 hP hS ls hl
      have h115_1 : g_1 115 = .inl (cy 1, 8, .inl (fun x9 => nI (P x9))) := (hfr_1 115 (by omega)).trans hP9
      refine lv_iload hx hb dX10_change_24 (lv_at hl 0 rfl) ?_
      refine lv_iconst (v := nI (2)) hx hb dX10_change_26 (by decide) ?_
      refine lv_icmp_ge (tgt := 238) hx hb dX10_change_27 (by decide) (fun c_27 => ?_) (fun c_27 => ?_)
      · skip
        have c_27 := (nI_leI (by omega) (by omega)).mp c_27
        refine lv_aload_n hx hb dX10_change_238 rfl (lv_at hl 3 rfl) ?_
        refine mg S hK hP (by omega) h114_1 fd_X10_13 rfl dX10_change_239 ?_
        refine lv_iload hx hb dX10_change_242 (lv_at hl 2 rfl) ?_
        refine lv_iload_n hx hb dX10_change_244 rfl (lv_at hl 4 rfl) ?_
        refine lv_iconst (v := nI (1)) hx hb dX10_change_245 (by decide) ?_
        refine lv_iadd hx hb dX10_change_246 ?_
        refine tpi (nI_add p0 1) ?_
        refine lv_aload_n hx hb dX10_change_247 rfl (lv_at hl 3 rfl) ?_
        refine mg S hK hP (by omega) h114_1 fd_X10_7 rfl dX10_change_248 ?_
        refine lv_irem hx hb dX10_change_251 (fun h => by have h := (z_eq (by omega)).mp h; omega) ?_
        refine tpi (pk_rem (a := p0 + 1) (by omega) (by omega) (by omega)) ?_
        refine tpi (congrArg nI (nxm hp0)) ?_
        refine mias S hK hP hI hS (by omega) h115_1 (vp_in_nI (by omega) (by omega)) dX10_change_252 (fun g_2 H locs eg_2 hP hS => ?_)
        have h115_2 : g_2 115 = .inl (cy 1, 8, .inl (fun x9 => nI ((va_up P (da p0) (nx n p0)) x9))) := by rw [eg_2, va_up_self]; exact (arrN_up (by omega))
        have h114_2 : g_2 114 = mob ad (nI (n)) (nI (fa)) (nI (he)) (lN o1) (nI (un)) la bo (nI (tp)) ft (nI (wr0)) (nI (wa)) (nI (at0)) (nI (sp)) (nI (tk)) vl (nI (fi)) (nI (nm)) (nI (dp)) wy st (nI (aP)) (nI (aF)) (nI (aH)) (lN aO) (nI (ps)) (nI (mn)) go (nI (vi)) := ((congrFun eg_2 _).trans (va_up_ne _ _ (by omega))).trans h114_1
        have hfr_2 : ∀ j : Nat, j ≠ 114 → j ≠ 115 → g_2 j = g j := fun j n0 n1 => ((congrFun eg_2 _).trans (va_up_ne _ _ n1)).trans (hfr_1 j n0)
        refine lv_aload_n hx hb dX10_change_253 rfl (lv_at hl 3 rfl) ?_
        refine mg S hK hP (by omega) h114_2 fd_X10_13 rfl dX10_change_254 ?_
        refine lv_iload hx hb dX10_change_257 (lv_at hl 1 rfl) ?_
        refine lv_iload_n hx hb dX10_change_259 rfl (lv_at hl 4 rfl) ?_
        refine mias S hK hP hI hS (by omega) h115_2 (vp_in_nI (by omega) (by omega)) dX10_change_260 (fun g_3 H locs eg_3 hP hS => ?_)
        have h115_3 : g_3 115 = .inl (cy 1, 8, .inl (fun x9 => nI ((va_up (va_up P (da p0) (nx n p0)) (da (nx n p0)) p0) x9))) := by rw [eg_3, va_up_self]; exact (arrN_up (by omega))
        have h114_3 : g_3 114 = mob ad (nI (n)) (nI (fa)) (nI (he)) (lN o1) (nI (un)) la bo (nI (tp)) ft (nI (wr0)) (nI (wa)) (nI (at0)) (nI (sp)) (nI (tk)) vl (nI (fi)) (nI (nm)) (nI (dp)) wy st (nI (aP)) (nI (aF)) (nI (aH)) (lN aO) (nI (ps)) (nI (mn)) go (nI (vi)) := ((congrFun eg_3 _).trans (va_up_ne _ _ (by omega))).trans h114_2
        have hfr_3 : ∀ j : Nat, j ≠ 114 → j ≠ 115 → g_3 j = g j := fun j n0 n1 => ((congrFun eg_3 _).trans (va_up_ne _ _ n1)).trans (hfr_2 j n0 n1)
        refine lv_iconst (v := nI (1)) hx hb dX10_change_261 (by decide) ?_
        have hq : o1 = mdF n he (da p0) (da (nx n p0)) (1 - u9) ov 4 ∧ (∀ j, j < 4 → ¬ cgP n he (da p0) (da (nx n p0)) (1 - u9) ov j) ∧ dr = 0 := by rcases ho9 with ⟨z1, _⟩ | ⟨z1, _⟩ | ⟨z1, z2, z3, z4⟩; omega; omega; exact ⟨z2, z3, z4⟩
        have hPF := (md_pass hn4 hn8 ha hb9 hab (by omega) hq.2.1 4 (by omega)).1
        have e1 : (if dr = 0 then (passF n he (da p0) (da (nx n p0)) (1 - u9) ov 4).getD ov else ov) = o1 := by rw [if_pos hq.2.2, hPF, hq.1]; rfl
        have e2 : (if dr = 0 ∧ (passF n he (da p0) (da (nx n p0)) (1 - u9) ov 4).isSome = true then swp P (da p0) (da (nx n p0)) else P) = swp P (da p0) (da (nx n p0)) := if_pos ⟨hq.2.2, by rw [hPF]; rfl⟩
        exact rMi S hr hlk hP hS ⟨(by rw [hPF]; rfl), (by rw [e1]; exact h114_3), (by rw [e2, ← swp_e hn4 hp0 hpm]; exact h115_3), hfr_3⟩ dX10_change_262
      · skip
        have c_27 := (not_congr (nI_leI (by omega) (by omega))).mp c_27
        refine lv_iconst (v := nI (0)) hx hb dX10_change_30 (by decide) ?_
        refine lv_istore (lv' := [(7, .int (nI (0))), (6, .int (nI (r9))), (5, .int (nI (da (nx n p0)))), (4, .int (nI (da p0))), (0, .ref (ad 114)), (1, .int (nI (p0))), (2, .int (nI (u9))), (3, .int (nI (dr)))]) hx hb dX10_change_31 hl (by decide) rfl (fun ls hl => ?_)
        have L33 : ∀ (fu : Nat) (k9 o2 : Nat), (k9 ≤ 4) → (cS n he (da p0) (da (nx n p0)) (1 - u9) ov dr r9 k9 o2) → (4 - k9) < fu → ∀ (g_4 : Nat → va_E) (H : Heap) (locs : List Loc), g_4 114 = mob ad (nI (n)) (nI (fa)) (nI (he)) (lN o2) (nI (un)) la bo (nI (tp)) ft (nI (wr0)) (nI (wa)) (nI (at0)) (nI (sp)) (nI (tk)) vl (nI (fi)) (nI (nm)) (nI (dp)) wy st (nI (aP)) (nI (aF)) (nI (aH)) (lN aO) (nI (ps)) (nI (mn)) go (nI (vi)) → (∀ j : Nat, j ≠ 114 → g_4 j = g j) → MM D ad N g_4 H → va_S (AA ad N) s.heap H locs → ∀ (ls : Array Slot), lv_has ls 10 [(7, .int (nI (k9))), (6, .int (nI (r9))), (5, .int (nI (da (nx n p0)))), (4, .int (nI (da p0))), (0, .ref (ad 114)), (1, .int (nI (p0))), (2, .int (nI (u9))), (3, .int (nI (dr)))] → W p l e (rmF 2 44) s m [.ref (ad 114), .int (nI (p0)), .int (nI (u9)), .int (nI (dr))].toArray below meth c H locs 0 0 (MQ below (QI (fun r g1 => (r = pR (passF n he (da p0) (da (nx n p0)) (1 - u9) ov 4)) ∧ g1 114 = mob ad (nI (n)) (nI (fa)) (nI (he)) (lN (if dr = 0 then (passF n he (da p0) (da (nx n p0)) (1 - u9) ov 4).getD ov else ov)) (nI (un)) la bo (nI (tp)) ft (nI (wr0)) (nI (wa)) (nI (at0)) (nI (sp)) (nI (tk)) vl (nI (fi)) (nI (nm)) (nI (dp)) wy st (nI (aP)) (nI (aF)) (nI (aH)) (lN aO) (nI (ps)) (nI (mn)) go (nI (vi)) ∧ g1 115 = .inl (cy 1, 8, .inl (fun x9 => nI ((if dr = 0 ∧ (passF n he (da p0) (da (nx n p0)) (1 - u9) ov 4).isSome = true then swp P (da p0) (da (nx n p0)) else P) x9))) ∧ (∀ j, j ≠ 114 → j ≠ 115 → g1 j = g j)) D ad N) [.ref (ad 114), .int (nI (p0)), .int (nI (u9)), .int (nI (dr))].toArray s 0 0 (AA ad N)) (F0 m 33 ls []) := by
          intro fu
          induction fu with
          | zero => intro k9 o2 hk9 hc9 hms g_4 H locs h114_4 hfr_4 hP hS ls hl; exact absurd hms (Nat.not_lt_zero _)
          | succ fu ih33 =>
            intro k9 o2 hk9 hc9 hms g_4 H locs h114_4 hfr_4 hP hS ls hl
            have h115_4 : g_4 115 = .inl (cy 1, 8, .inl (fun x9 => nI (P x9))) := (hfr_4 115 (by omega)).trans hP9
            refine lv_iload hx hb dX10_change_33 (lv_at hl 0 rfl) ?_
            refine lv_iconst (v := nI (4)) hx hb dX10_change_35 (by decide) ?_
            refine lv_icmp_ge (tgt := 226) hx hb dX10_change_36 (by decide) (fun c_36 => ?_) (fun c_36 => ?_)
            · skip
              have c_36 := (nI_leI (by omega) (by omega)).mp c_36
              refine lv_iload_n hx hb dX10_change_226 rfl (lv_at hl 7 rfl) ?_
              refine lv_if_eq (tgt := 232) hx hb dX10_change_227 (by decide) (fun c_227 => ?_) (fun c_227 => ?_)
              · skip
                have c_227 := (z_eq (by omega)).mp c_227
                refine lv_iinc (v := nI (r9 + 1)) (lv' := [(6, .int (nI (r9 + 1))), (7, .int (nI (k9))), (5, .int (nI (da (nx n p0)))), (4, .int (nI (da p0))), (0, .ref (ad 114)), (1, .int (nI (p0))), (2, .int (nI (u9))), (3, .int (nI (dr)))]) hx hb dX10_change_232 hl (k := 1) rfl (by exact nI_add r9 1) (by decide) rfl (fun ls hl => ?_)
                refine lv_goto (tgt := 24) hx hb dX10_change_235 (by decide) ?_
                exact ih24 (r9 + 1) o2 (by omega) (oS_out hc9 (by omega) c_227) (by omega) g_4 _ _ h114_4 hfr_4 hP hS _ (lv_sub hl [0, 2, 3, 4, 5, 6, 7] rfl)
              · skip
                have c_227 := (not_congr (z_eq (by omega))).mp c_227
                refine lv_iconst (v := nI (1)) hx hb dX10_change_230 (by decide) ?_
                have hq : o2 = ov ∧ ∀ j, j < 4 → ¬ cgP n he (da p0) (da (nx n p0)) (1 - u9) ov j := by obtain ⟨z1, z2, z3⟩ | ⟨z1, z2, z3, z4⟩ := hc9; exact ⟨z2, fun j hj => z3 j (by omega)⟩; exact absurd z4 c_227
                have hPF := (md_pass hn4 hn8 ha hb9 hab (by omega) hq.2 4 (by omega)).1
                have e1 : (if dr = 0 then (passF n he (da p0) (da (nx n p0)) (1 - u9) ov 4).getD ov else ov) = ov := if_neg c_227
                have e2 : (if dr = 0 ∧ (passF n he (da p0) (da (nx n p0)) (1 - u9) ov 4).isSome = true then swp P (da p0) (da (nx n p0)) else P) = P := if_neg (fun q => c_227 q.1)
                exact rMi S hr hlk hP hS ⟨(by rw [hPF]; rfl), (by rw [e1, ← hq.1]; exact h114_4), (by rw [e2]; exact h115_4), (fun j n0 n1 => hfr_4 j (by omega))⟩ dX10_change_231
            · skip
              have c_36 := (not_congr (nI_leI (by omega) (by omega))).mp c_36
              refine lv_iload hx hb dX10_change_39 (lv_at hl 0 rfl) ?_
              refine lv_iconst (v := nI (2)) hx hb dX10_change_41 (by decide) ?_
              refine lv_irem hx hb dX10_change_42 (fun h => by have h := (z_eq (by omega)).mp h; omega) ?_
              refine tpi (pk_rem (a := k9) (by omega) (by omega) (by omega)) ?_
              have J65 : ∀ (x9 : Nat), (x9 = pX n (da p0) k9) → (x9 < n) → ∀ (ls : Array Slot), lv_has ls 10 [(7, .int (nI (k9))), (6, .int (nI (r9))), (5, .int (nI (da (nx n p0)))), (4, .int (nI (da p0))), (0, .ref (ad 114)), (1, .int (nI (p0))), (2, .int (nI (u9))), (3, .int (nI (dr)))] → W p l e (rmF 2 44) s m [.ref (ad 114), .int (nI (p0)), .int (nI (u9)), .int (nI (dr))].toArray below meth c H locs 0 0 (MQ below (QI (fun r g1 => (r = pR (passF n he (da p0) (da (nx n p0)) (1 - u9) ov 4)) ∧ g1 114 = mob ad (nI (n)) (nI (fa)) (nI (he)) (lN (if dr = 0 then (passF n he (da p0) (da (nx n p0)) (1 - u9) ov 4).getD ov else ov)) (nI (un)) la bo (nI (tp)) ft (nI (wr0)) (nI (wa)) (nI (at0)) (nI (sp)) (nI (tk)) vl (nI (fi)) (nI (nm)) (nI (dp)) wy st (nI (aP)) (nI (aF)) (nI (aH)) (lN aO) (nI (ps)) (nI (mn)) go (nI (vi)) ∧ g1 115 = .inl (cy 1, 8, .inl (fun x9 => nI ((if dr = 0 ∧ (passF n he (da p0) (da (nx n p0)) (1 - u9) ov 4).isSome = true then swp P (da p0) (da (nx n p0)) else P) x9))) ∧ (∀ j, j ≠ 114 → j ≠ 115 → g1 j = g j)) D ad N) [.ref (ad 114), .int (nI (p0)), .int (nI (u9)), .int (nI (dr))].toArray s 0 0 (AA ad N)) (F0 m 65 ls [.int (nI (x9))]) := by
                intro x9 hx9 hx9n ls hl
                refine lv_istore (lv' := [(8, .int (nI (x9))), (7, .int (nI (k9))), (6, .int (nI (r9))), (5, .int (nI (da (nx n p0)))), (4, .int (nI (da p0))), (0, .ref (ad 114)), (1, .int (nI (p0))), (2, .int (nI (u9))), (3, .int (nI (dr)))]) hx hb dX10_change_65 hl (by decide) rfl (fun ls hl => ?_)
                refine lv_iload hx hb dX10_change_67 (lv_at hl 1 rfl) ?_
                refine lv_iconst (v := nI (2)) hx hb dX10_change_69 (by decide) ?_
                refine lv_idiv hx hb dX10_change_70 (fun h => by have h := (z_eq (by omega)).mp h; omega) ?_
                refine tpi (pk_div (a := k9) (by omega) (by omega) (by omega)) ?_
                have J93 : ∀ (y9 : Nat), (y9 = pY n (da (nx n p0)) k9) → (y9 < n) → ∀ (ls : Array Slot), lv_has ls 10 [(8, .int (nI (x9))), (7, .int (nI (k9))), (6, .int (nI (r9))), (5, .int (nI (da (nx n p0)))), (4, .int (nI (da p0))), (0, .ref (ad 114)), (1, .int (nI (p0))), (2, .int (nI (u9))), (3, .int (nI (dr)))] → W p l e (rmF 2 44) s m [.ref (ad 114), .int (nI (p0)), .int (nI (u9)), .int (nI (dr))].toArray below meth c H locs 0 0 (MQ below (QI (fun r g1 => (r = pR (passF n he (da p0) (da (nx n p0)) (1 - u9) ov 4)) ∧ g1 114 = mob ad (nI (n)) (nI (fa)) (nI (he)) (lN (if dr = 0 then (passF n he (da p0) (da (nx n p0)) (1 - u9) ov 4).getD ov else ov)) (nI (un)) la bo (nI (tp)) ft (nI (wr0)) (nI (wa)) (nI (at0)) (nI (sp)) (nI (tk)) vl (nI (fi)) (nI (nm)) (nI (dp)) wy st (nI (aP)) (nI (aF)) (nI (aH)) (lN aO) (nI (ps)) (nI (mn)) go (nI (vi)) ∧ g1 115 = .inl (cy 1, 8, .inl (fun x9 => nI ((if dr = 0 ∧ (passF n he (da p0) (da (nx n p0)) (1 - u9) ov 4).isSome = true then swp P (da p0) (da (nx n p0)) else P) x9))) ∧ (∀ j, j ≠ 114 → j ≠ 115 → g1 j = g j)) D ad N) [.ref (ad 114), .int (nI (p0)), .int (nI (u9)), .int (nI (dr))].toArray s 0 0 (AA ad N)) (F0 m 93 ls [.int (nI (y9))]) := by
                  intro y9 hy9 hy9n ls hl
                  refine lv_istore (lv' := [(9, .int (nI (y9))), (8, .int (nI (x9))), (7, .int (nI (k9))), (6, .int (nI (r9))), (5, .int (nI (da (nx n p0)))), (4, .int (nI (da p0))), (0, .ref (ad 114)), (1, .int (nI (p0))), (2, .int (nI (u9))), (3, .int (nI (dr)))]) hx hb dX10_change_93 hl (by decide) rfl (fun ls hl => ?_)
                  have J220 : ∀ (o3 : Nat), (cS n he (da p0) (da (nx n p0)) (1 - u9) ov dr r9 (k9 + 1) o3) → ∀ (g_5 : Nat → va_E) (H : Heap) (locs : List Loc), g_5 114 = mob ad (nI (n)) (nI (fa)) (nI (he)) (lN o3) (nI (un)) la bo (nI (tp)) ft (nI (wr0)) (nI (wa)) (nI (at0)) (nI (sp)) (nI (tk)) vl (nI (fi)) (nI (nm)) (nI (dp)) wy st (nI (aP)) (nI (aF)) (nI (aH)) (lN aO) (nI (ps)) (nI (mn)) go (nI (vi)) → (∀ j : Nat, j ≠ 114 → g_5 j = g j) → MM D ad N g_5 H → va_S (AA ad N) s.heap H locs → ∀ (ls : Array Slot), lv_has ls 10 [(7, .int (nI (k9))), (6, .int (nI (r9))), (5, .int (nI (da (nx n p0)))), (4, .int (nI (da p0))), (0, .ref (ad 114)), (1, .int (nI (p0))), (2, .int (nI (u9))), (3, .int (nI (dr)))] → W p l e (rmF 2 44) s m [.ref (ad 114), .int (nI (p0)), .int (nI (u9)), .int (nI (dr))].toArray below meth c H locs 0 0 (MQ below (QI (fun r g1 => (r = pR (passF n he (da p0) (da (nx n p0)) (1 - u9) ov 4)) ∧ g1 114 = mob ad (nI (n)) (nI (fa)) (nI (he)) (lN (if dr = 0 then (passF n he (da p0) (da (nx n p0)) (1 - u9) ov 4).getD ov else ov)) (nI (un)) la bo (nI (tp)) ft (nI (wr0)) (nI (wa)) (nI (at0)) (nI (sp)) (nI (tk)) vl (nI (fi)) (nI (nm)) (nI (dp)) wy st (nI (aP)) (nI (aF)) (nI (aH)) (lN aO) (nI (ps)) (nI (mn)) go (nI (vi)) ∧ g1 115 = .inl (cy 1, 8, .inl (fun x9 => nI ((if dr = 0 ∧ (passF n he (da p0) (da (nx n p0)) (1 - u9) ov 4).isSome = true then swp P (da p0) (da (nx n p0)) else P) x9))) ∧ (∀ j, j ≠ 114 → j ≠ 115 → g1 j = g j)) D ad N) [.ref (ad 114), .int (nI (p0)), .int (nI (u9)), .int (nI (dr))].toArray s 0 0 (AA ad N)) (F0 m 220 ls []) := by
                    intro o3 hst g_5 H locs h114_5 hfr_5 hP hS ls hl
                    have h115_5 : g_5 115 = .inl (cy 1, 8, .inl (fun x9 => nI (P x9))) := (hfr_5 115 (by omega)).trans hP9
                    refine lv_iinc (v := nI (k9 + 1)) (lv' := [(7, .int (nI (k9 + 1))), (6, .int (nI (r9))), (5, .int (nI (da (nx n p0)))), (4, .int (nI (da p0))), (0, .ref (ad 114)), (1, .int (nI (p0))), (2, .int (nI (u9))), (3, .int (nI (dr)))]) hx hb dX10_change_220 hl (k := 0) rfl (by exact nI_add k9 1) (by decide) rfl (fun ls hl => ?_)
                    refine lv_goto (tgt := 33) hx hb dX10_change_223 (by decide) ?_
                    exact ih33 (k9 + 1) o3 (by omega) hst (by omega) g_5 _ _ h114_5 hfr_5 hP hS _ (lv_sub hl [0, 1, 2, 3, 4, 5, 6, 7] rfl)
                  refine lv_aload_n hx hb dX10_change_95 rfl (lv_at hl 6 rfl) ?_
                  refine lv_iload hx hb dX10_change_96 (lv_at hl 1 rfl) ?_
                  refine kVi (As := [.int (nI (x9))]) (rest := []) S hK hP (c_X10_isHeld l D cy ad N g_4 (by omega) n fa he o2 un la bo tp ft wr0 wa at0 sp tk vl fi nm dp wy st aP aF aH aO ps mn go vi h114_4 x9 (by omega) hhe) cv_X10_139 (by omega) h114_4 ⟨_, _, rfl⟩ ⟨rfl, rfl⟩ rfl hl.1 rfl (Nat.le_of_ble_eq_true rfl) ⟨Nat.zero_le _, Nat.zero_le _⟩ dX10_change_98 (fun r_98 q_98 => ?_)
                  subst q_98
                  refine lv_if_eq (tgt := 220) hx hb dX10_change_101 (by decide) (fun c_101 => ?_) (fun c_101 => ?_)
                  · skip
                    have c_101 := bz_eq.mp c_101
                    exact J220 o2 (cS_no hc9 hx9 hy9 (ncan_x c_101)) g_4 _ _ h114_4 hfr_4 hP hS _ (lv_sub hl [2, 3, 4, 5, 6, 7, 8, 9] rfl)
                  · skip
                    have c_101 := bz_ne.mp c_101
                    refine lv_aload_n hx hb dX10_change_104 rfl (lv_at hl 6 rfl) ?_
                    refine lv_iload hx hb dX10_change_105 (lv_at hl 0 rfl) ?_
                    refine kVi (As := [.int (nI (y9))]) (rest := []) S hK hP (c_X10_isHeld l D cy ad N g_4 (by omega) n fa he o2 un la bo tp ft wr0 wa at0 sp tk vl fi nm dp wy st aP aF aH aO ps mn go vi h114_4 y9 (by omega) hhe) cv_X10_139 (by omega) h114_4 ⟨_, _, rfl⟩ ⟨rfl, rfl⟩ rfl hl.1 rfl (Nat.le_of_ble_eq_true rfl) ⟨Nat.zero_le _, Nat.zero_le _⟩ dX10_change_107 (fun r_107 q_107 => ?_)
                    subst q_107
                    refine lv_if_eq (tgt := 220) hx hb dX10_change_110 (by decide) (fun c_110 => ?_) (fun c_110 => ?_)
                    · skip
                      have c_110 := bz_eq.mp c_110
                      exact J220 o2 (cS_no hc9 hx9 hy9 (ncan_y c_110)) g_4 _ _ h114_4 hfr_4 hP hS _ (lv_sub hl [2, 3, 4, 5, 6, 7, 8, 9] rfl)
                    · skip
                      have c_110 := bz_ne.mp c_110
                      refine lv_aload_n hx hb dX10_change_113 rfl (lv_at hl 6 rfl) ?_
                      refine lv_iload hx hb dX10_change_114 (lv_at hl 1 rfl) ?_
                      refine lv_iload hx hb dX10_change_116 (lv_at hl 0 rfl) ?_
                      refine kVi (As := [.int (nI (x9)), .int (nI (y9))]) (rest := []) S hK hP (c_X10_areJoined l D cy ad N g_4 (by omega) n fa he o2 un la bo tp ft wr0 wa at0 sp tk vl fi nm dp wy st aP aF aH aO ps mn go vi h114_4 hn4 hn8 x9 (by omega) y9 (by omega)) cv_X10_143 (by omega) h114_4 ⟨_, _, rfl⟩ ⟨rfl, rfl⟩ rfl hl.1 rfl (Nat.le_of_ble_eq_true rfl) ⟨Nat.zero_le _, Nat.zero_le _⟩ dX10_change_118 (fun r_118 q_118 => ?_)
                      subst q_118
                      refine lv_if_ne (tgt := 220) hx hb dX10_change_121 (by decide) (fun c_121 => ?_) (fun c_121 => ?_)
                      · skip
                        have c_121 := bz_ne.mp c_121
                        exact J220 o2 (cS_no hc9 hx9 hy9 (ncan_j c_121)) g_4 _ _ h114_4 hfr_4 hP hS _ (lv_sub hl [2, 3, 4, 5, 6, 7, 8, 9] rfl)
                      · skip
                        have c_121 := bz_eq.mp c_121
                        refine lv_iload hx hb dX10_change_124 (lv_at hl 3 rfl) ?_
                        refine lv_if_ne (tgt := 161) hx hb dX10_change_126 (by decide) (fun c_126 => ?_) (fun c_126 => ?_)
                        · skip
                          have c_126 := (not_congr (z_eq (by omega))).mp c_126
                          refine lv_aload_n hx hb dX10_change_161 rfl (lv_at hl 6 rfl) ?_
                          refine lv_iload hx hb dX10_change_162 (lv_at hl 1 rfl) ?_
                          refine lv_iload hx hb dX10_change_164 (lv_at hl 0 rfl) ?_
                          refine kVi (As := [.int (nI (x9)), .int (nI (y9))]) (rest := []) S hK hP (c_X10_doCross l D cy ad N g_4 (by omega) n fa he o2 un la bo tp ft wr0 wa at0 sp tk vl fi nm dp wy st aP aF aH aO ps mn go vi h114_4 x9 (by omega) y9 (by omega)) cv_X10_146 (by omega) h114_4 ⟨_, _, rfl⟩ ⟨rfl, rfl⟩ rfl hl.1 rfl (Nat.le_of_ble_eq_true rfl) ⟨Nat.zero_le _, Nat.zero_le _⟩ dX10_change_166 (fun r_166 q_166 => ?_)
                          subst q_166
                          refine lv_if_eq (tgt := 193) hx hb dX10_change_169 (by decide) (fun c_169 => ?_) (fun c_169 => ?_)
                          · skip
                            have c_169 := bz_eq.mp c_169
                            refine lv_aload_n hx hb dX10_change_193 rfl (lv_at hl 6 rfl) ?_
                            refine lv_iload_n hx hb dX10_change_194 rfl (lv_at hl 8 rfl) ?_
                            have J205 : ∀ (z1 : Nat), (z1 = if u9 = 0 then x9 else y9) → (z1 < n) → ∀ (ls : Array Slot), lv_has ls 10 [(9, .int (nI (y9))), (8, .int (nI (x9))), (7, .int (nI (k9))), (6, .int (nI (r9))), (5, .int (nI (da (nx n p0)))), (4, .int (nI (da p0))), (0, .ref (ad 114)), (1, .int (nI (p0))), (2, .int (nI (u9))), (3, .int (nI (dr)))] → W p l e (rmF 2 44) s m [.ref (ad 114), .int (nI (p0)), .int (nI (u9)), .int (nI (dr))].toArray below meth c H locs 0 0 (MQ below (QI (fun r g1 => (r = pR (passF n he (da p0) (da (nx n p0)) (1 - u9) ov 4)) ∧ g1 114 = mob ad (nI (n)) (nI (fa)) (nI (he)) (lN (if dr = 0 then (passF n he (da p0) (da (nx n p0)) (1 - u9) ov 4).getD ov else ov)) (nI (un)) la bo (nI (tp)) ft (nI (wr0)) (nI (wa)) (nI (at0)) (nI (sp)) (nI (tk)) vl (nI (fi)) (nI (nm)) (nI (dp)) wy st (nI (aP)) (nI (aF)) (nI (aH)) (lN aO) (nI (ps)) (nI (mn)) go (nI (vi)) ∧ g1 115 = .inl (cy 1, 8, .inl (fun x9 => nI ((if dr = 0 ∧ (passF n he (da p0) (da (nx n p0)) (1 - u9) ov 4).isSome = true then swp P (da p0) (da (nx n p0)) else P) x9))) ∧ (∀ j, j ≠ 114 → j ≠ 115 → g1 j = g j)) D ad N) [.ref (ad 114), .int (nI (p0)), .int (nI (u9)), .int (nI (dr))].toArray s 0 0 (AA ad N)) (F0 m 205 ls [.int (nI (z1)), .ref (ad 114)]) := by
                              intro z1 hz1 hz1n ls hl
                              refine lv_iload_n hx hb dX10_change_205 rfl (lv_at hl 8 rfl) ?_
                              have J216 : ∀ (z2 : Nat), (z2 = if u9 = 0 then y9 else x9) → (z2 < n) → ∀ (ls : Array Slot), lv_has ls 10 [(9, .int (nI (y9))), (8, .int (nI (x9))), (7, .int (nI (k9))), (6, .int (nI (r9))), (5, .int (nI (da (nx n p0)))), (4, .int (nI (da p0))), (0, .ref (ad 114)), (1, .int (nI (p0))), (2, .int (nI (u9))), (3, .int (nI (dr)))] → W p l e (rmF 2 44) s m [.ref (ad 114), .int (nI (p0)), .int (nI (u9)), .int (nI (dr))].toArray below meth c H locs 0 0 (MQ below (QI (fun r g1 => (r = pR (passF n he (da p0) (da (nx n p0)) (1 - u9) ov 4)) ∧ g1 114 = mob ad (nI (n)) (nI (fa)) (nI (he)) (lN (if dr = 0 then (passF n he (da p0) (da (nx n p0)) (1 - u9) ov 4).getD ov else ov)) (nI (un)) la bo (nI (tp)) ft (nI (wr0)) (nI (wa)) (nI (at0)) (nI (sp)) (nI (tk)) vl (nI (fi)) (nI (nm)) (nI (dp)) wy st (nI (aP)) (nI (aF)) (nI (aH)) (lN aO) (nI (ps)) (nI (mn)) go (nI (vi)) ∧ g1 115 = .inl (cy 1, 8, .inl (fun x9 => nI ((if dr = 0 ∧ (passF n he (da p0) (da (nx n p0)) (1 - u9) ov 4).isSome = true then swp P (da p0) (da (nx n p0)) else P) x9))) ∧ (∀ j, j ≠ 114 → j ≠ 115 → g1 j = g j)) D ad N) [.ref (ad 114), .int (nI (p0)), .int (nI (u9)), .int (nI (dr))].toArray s 0 0 (AA ad N)) (F0 m 216 ls [.int (nI (z2)), .int (nI (z1)), .ref (ad 114)]) := by
                                intro z2 hz2 hz2n ls hl
                                refine lv_iconst (v := nI (1)) hx hb dX10_change_216 (by decide) ?_
                                refine kMv (As := [.int (nI (z1)), .int (nI (z2)), .int (nI (1))]) (rest := []) S hK hP hS (fun _ h => h) (c_X10_lays l D cy ad N g_4 hinj (by omega) n fa he o2 un la bo tp ft wr0 wa at0 sp tk vl fi nm dp wy st aP aF aH aO ps mn go vi h114_4 (cS_lt hn4 hn8 ha hb9 hov hc9) z1 (by omega) z2 (by omega) 1 (by omega)) cv_X10_149 (by omega) h114_4 ⟨_, _, rfl⟩ ⟨rfl, rfl⟩ rfl hl.1 rfl (Nat.le_of_ble_eq_true rfl) ⟨Nat.zero_le _, Nat.zero_le _⟩ dX10_change_217 (fun g_6 H locs q_6 hP hS => ?_)
                                obtain ⟨h114_6, f_6⟩ := q_6
                                have h115_6 : g_6 115 = .inl (cy 1, 8, .inl (fun x9 => nI (P x9))) := (f_6 115 (by omega)).trans h115_4
                                have hfr_6 : ∀ j : Nat, j ≠ 114 → g_6 j = g j := fun j n0 => (f_6 j n0).trans (hfr_4 j n0)
                                exact J220 (o2 ||| 2 ^ (8 * z1 + z2)) (cS_b hc9 c_126 hx9 hy9 (can_jn c_101 c_110 c_121) c_169 (by rw [hz1, hz2]; exact cr_e rfl hu9)) g_6 _ _ h114_6 hfr_6 hP hS _ (lv_sub hl [2, 3, 4, 5, 6, 7, 8, 9] rfl)
                              refine lv_if_eq (tgt := 214) hx hb dX10_change_206 (by decide) (fun c_206 => ?_) (fun c_206 => ?_)
                              · skip
                                have c_206 := (z_eq (by omega)).mp c_206
                                refine lv_iload hx hb dX10_change_214 (lv_at hl 0 rfl) ?_
                                exact J216 y9 (if_pos c_206).symm (by omega) _ (lv_sub hl [0, 1, 2, 3, 4, 5, 6, 7, 8, 9] rfl)
                              · skip
                                have c_206 := (not_congr (z_eq (by omega))).mp c_206
                                refine lv_iload hx hb dX10_change_209 (lv_at hl 1 rfl) ?_
                                refine lv_goto (tgt := 216) hx hb dX10_change_211 (by decide) ?_
                                exact J216 x9 (if_neg c_206).symm (by omega) _ (lv_sub hl [0, 1, 2, 3, 4, 5, 6, 7, 8, 9] rfl)
                            refine lv_if_eq (tgt := 203) hx hb dX10_change_195 (by decide) (fun c_195 => ?_) (fun c_195 => ?_)
                            · skip
                              have c_195 := (z_eq (by omega)).mp c_195
                              refine lv_iload hx hb dX10_change_203 (lv_at hl 1 rfl) ?_
                              exact J205 x9 (if_pos c_195).symm (by omega) _ (lv_sub hl [0, 1, 2, 3, 4, 5, 6, 7, 8, 9] rfl)
                            · skip
                              have c_195 := (not_congr (z_eq (by omega))).mp c_195
                              refine lv_iload hx hb dX10_change_198 (lv_at hl 0 rfl) ?_
                              refine lv_goto (tgt := 205) hx hb dX10_change_200 (by decide) ?_
                              exact J205 y9 (if_neg c_195).symm (by omega) _ (lv_sub hl [0, 1, 2, 3, 4, 5, 6, 7, 8, 9] rfl)
                          · skip
                            have c_169 := bz_ne.mp c_169
                            refine lv_aload_n hx hb dX10_change_172 rfl (lv_at hl 6 rfl) ?_
                            refine lv_iload hx hb dX10_change_173 (lv_at hl 1 rfl) ?_
                            refine lv_iload hx hb dX10_change_175 (lv_at hl 0 rfl) ?_
                            refine lv_iconst (v := nI (0)) hx hb dX10_change_177 (by decide) ?_
                            refine kMv (As := [.int (nI (x9)), .int (nI (y9)), .int (nI (0))]) (rest := []) S hK hP hS (fun _ h => h) (c_X10_lays l D cy ad N g_4 hinj (by omega) n fa he o2 un la bo tp ft wr0 wa at0 sp tk vl fi nm dp wy st aP aF aH aO ps mn go vi h114_4 (cS_lt hn4 hn8 ha hb9 hov hc9) x9 (by omega) y9 (by omega) 0 (by omega)) cv_X10_149 (by omega) h114_4 ⟨_, _, rfl⟩ ⟨rfl, rfl⟩ rfl hl.1 rfl (Nat.le_of_ble_eq_true rfl) ⟨Nat.zero_le _, Nat.zero_le _⟩ dX10_change_178 (fun g_7 H locs q_7 hP hS => ?_)
                            obtain ⟨h114_7, f_7⟩ := q_7
                            have h115_7 : g_7 115 = .inl (cy 1, 8, .inl (fun x9 => nI (P x9))) := (f_7 115 (by omega)).trans h115_4
                            have hfr_7 : ∀ j : Nat, j ≠ 114 → g_7 j = g j := fun j n0 => (f_7 j n0).trans (hfr_4 j n0)
                            refine lv_aload_n hx hb dX10_change_181 rfl (lv_at hl 6 rfl) ?_
                            refine lv_iload hx hb dX10_change_182 (lv_at hl 0 rfl) ?_
                            refine lv_iload hx hb dX10_change_184 (lv_at hl 1 rfl) ?_
                            refine lv_iconst (v := nI (0)) hx hb dX10_change_186 (by decide) ?_
                            refine kMv (As := [.int (nI (y9)), .int (nI (x9)), .int (nI (0))]) (rest := []) S hK hP hS (fun _ h => h) (c_X10_lays l D cy ad N g_7 hinj (by omega) n fa he (if 0 = 0 then an o2 (2 ^ (8 * x9 + y9)) else o2 ||| 2 ^ (8 * x9 + y9)) un la bo tp ft wr0 wa at0 sp tk vl fi nm dp wy st aP aF aH aO ps mn go vi h114_7 (by first | exact an_le (k := 64) _ _ (cS_lt hn4 hn8 ha hb9 hov hc9) | (rw [if_pos rfl]; exact an_le (k := 64) _ _ (cS_lt hn4 hn8 ha hb9 hov hc9))) y9 (by omega) x9 (by omega) 0 (by omega)) cv_X10_149 (by omega) h114_7 ⟨_, _, rfl⟩ ⟨rfl, rfl⟩ rfl hl.1 rfl (Nat.le_of_ble_eq_true rfl) ⟨Nat.zero_le _, Nat.zero_le _⟩ dX10_change_187 (fun g_8 H locs q_8 hP hS => ?_)
                            obtain ⟨h114_8, f_8⟩ := q_8
                            have h115_8 : g_8 115 = .inl (cy 1, 8, .inl (fun x9 => nI (P x9))) := (f_8 115 (by omega)).trans h115_7
                            have hfr_8 : ∀ j : Nat, j ≠ 114 → g_8 j = g j := fun j n0 => (f_8 j n0).trans (hfr_7 j n0)
                            refine lv_goto (tgt := 220) hx hb dX10_change_190 (by decide) ?_
                            exact J220 (an (an o2 (2 ^ (8 * x9 + y9))) (2 ^ (8 * y9 + x9))) (cS_a hc9 c_126 hx9 hy9 (can_jn c_101 c_110 c_121) c_169) g_8 _ _ h114_8 hfr_8 hP hS _ (lv_sub hl [2, 3, 4, 5, 6, 7, 8, 9] rfl)
                        · skip
                          have c_126 := (z_eq (by omega)).mp c_126
                          refine lv_iload_n hx hb dX10_change_129 rfl (lv_at hl 8 rfl) ?_
                          refine lv_if_eq (tgt := 147) hx hb dX10_change_130 (by decide) (fun c_130 => ?_) (fun c_130 => ?_)
                          · skip
                            have c_130 := (z_eq (by omega)).mp c_130
                            refine lv_aload_n hx hb dX10_change_147 rfl (lv_at hl 6 rfl) ?_
                            refine lv_iload hx hb dX10_change_148 (lv_at hl 0 rfl) ?_
                            refine lv_iload hx hb dX10_change_150 (lv_at hl 1 rfl) ?_
                            refine kVi (As := [.int (nI (y9)), .int (nI (x9))]) (rest := []) S hK hP (c_X10_isOver l D cy ad N g_4 (by omega) n fa he o2 un la bo tp ft wr0 wa at0 sp tk vl fi nm dp wy st aP aF aH aO ps mn go vi h114_4 y9 (by omega) x9 (by omega)) cv_X10_129 (by omega) h114_4 ⟨_, _, rfl⟩ ⟨rfl, rfl⟩ rfl hl.1 rfl (Nat.le_of_ble_eq_true rfl) ⟨Nat.zero_le _, Nat.zero_le _⟩ dX10_change_152 (fun r_152 q_152 => ?_)
                            subst q_152
                            refine lv_if_eq (tgt := 220) hx hb dX10_change_155 (by decide) (fun c_155 => ?_) (fun c_155 => ?_)
                            · skip
                              have c_155 := bz_eq.mp c_155
                              exact J220 o2 (cS_0 hc9 c_126 hx9 hy9 (by rw [c_130]; rfl) c_155) g_4 _ _ h114_4 hfr_4 hP hS _ (lv_sub hl [2, 3, 4, 5, 6, 7, 8, 9] rfl)
                            · skip
                              have c_155 := bz_ne.mp c_155
                              have hcg : cgP n he (da p0) (da (nx n p0)) (1 - u9) ov k9 := by obtain ⟨z1, z2, z3⟩ | ⟨z1, _⟩ := hc9; exact ⟨by rw [← hx9, ← hy9]; exact can_jn c_101 c_110 c_121, by rw [← z2, ← hx9, ← hy9, c_130]; exact c_155⟩; omega
                              refine lv_bipush (v := (-5)) hx hb dX10_change_158 (by decide) ?_
                              have hq : o2 = ov ∧ ∀ j, j < k9 → ¬ cgP n he (da p0) (da (nx n p0)) (1 - u9) ov j := by obtain ⟨z1, z2, z3⟩ | ⟨z1, _⟩ := hc9; exact ⟨z2, z3⟩; omega
                              have hPF := cg_none hn4 hn8 ha hb9 hab (by omega) (by omega) hq.2 hcg
                              have e1 : (if dr = 0 then (passF n he (da p0) (da (nx n p0)) (1 - u9) ov 4).getD ov else ov) = ov := by rw [hPF]; split <;> rfl
                              have e2 : (if dr = 0 ∧ (passF n he (da p0) (da (nx n p0)) (1 - u9) ov 4).isSome = true then swp P (da p0) (da (nx n p0)) else P) = P := if_neg (fun q => by rw [hPF] at q; cases q.2)
                              exact rMi S hr hlk hP hS ⟨(by rw [hPF]; rfl), (by rw [e1, ← hq.1]; exact h114_4), (by rw [e2]; exact h115_4), (fun j n0 n1 => hfr_4 j (by omega))⟩ dX10_change_160
                          · skip
                            have c_130 := (not_congr (z_eq (by omega))).mp c_130
                            refine lv_aload_n hx hb dX10_change_133 rfl (lv_at hl 6 rfl) ?_
                            refine lv_iload hx hb dX10_change_134 (lv_at hl 1 rfl) ?_
                            refine lv_iload hx hb dX10_change_136 (lv_at hl 0 rfl) ?_
                            refine kVi (As := [.int (nI (x9)), .int (nI (y9))]) (rest := []) S hK hP (c_X10_isOver l D cy ad N g_4 (by omega) n fa he o2 un la bo tp ft wr0 wa at0 sp tk vl fi nm dp wy st aP aF aH aO ps mn go vi h114_4 x9 (by omega) y9 (by omega)) cv_X10_129 (by omega) h114_4 ⟨_, _, rfl⟩ ⟨rfl, rfl⟩ rfl hl.1 rfl (Nat.le_of_ble_eq_true rfl) ⟨Nat.zero_le _, Nat.zero_le _⟩ dX10_change_138 (fun r_138 q_138 => ?_)
                            subst q_138
                            refine lv_if_eq (tgt := 220) hx hb dX10_change_141 (by decide) (fun c_141 => ?_) (fun c_141 => ?_)
                            · skip
                              have c_141 := bz_eq.mp c_141
                              exact J220 o2 (cS_0 hc9 c_126 hx9 hy9 (by rw [show u9 = 1 by omega]; rfl) c_141) g_4 _ _ h114_4 hfr_4 hP hS _ (lv_sub hl [2, 3, 4, 5, 6, 7, 8, 9] rfl)
                            · skip
                              have c_141 := bz_ne.mp c_141
                              have hcg : cgP n he (da p0) (da (nx n p0)) (1 - u9) ov k9 := by obtain ⟨z1, z2, z3⟩ | ⟨z1, _⟩ := hc9; exact ⟨by rw [← hx9, ← hy9]; exact can_jn c_101 c_110 c_121, by rw [← z2, ← hx9, ← hy9, show u9 = 1 by omega]; exact c_141⟩; omega
                              refine lv_goto (tgt := 158) hx hb dX10_change_144 (by decide) ?_
                              refine lv_bipush (v := (-5)) hx hb dX10_change_158 (by decide) ?_
                              have hq : o2 = ov ∧ ∀ j, j < k9 → ¬ cgP n he (da p0) (da (nx n p0)) (1 - u9) ov j := by obtain ⟨z1, z2, z3⟩ | ⟨z1, _⟩ := hc9; exact ⟨z2, z3⟩; omega
                              have hPF := cg_none hn4 hn8 ha hb9 hab (by omega) (by omega) hq.2 hcg
                              have e1 : (if dr = 0 then (passF n he (da p0) (da (nx n p0)) (1 - u9) ov 4).getD ov else ov) = ov := by rw [hPF]; split <;> rfl
                              have e2 : (if dr = 0 ∧ (passF n he (da p0) (da (nx n p0)) (1 - u9) ov 4).isSome = true then swp P (da p0) (da (nx n p0)) else P) = P := if_neg (fun q => by rw [hPF] at q; cases q.2)
                              exact rMi S hr hlk hP hS ⟨(by rw [hPF]; rfl), (by rw [e1, ← hq.1]; exact h114_4), (by rw [e2]; exact h115_4), (fun j n0 n1 => hfr_4 j (by omega))⟩ dX10_change_160
                refine lv_if_ne (tgt := 79) hx hb dX10_change_71 (by decide) (fun c_71 => ?_) (fun c_71 => ?_)
                · skip
                  have c_71 := (not_congr (z_eq (by omega))).mp c_71
                  refine lv_iload hx hb dX10_change_79 (lv_at hl 3 rfl) ?_
                  refine lv_aload_n hx hb dX10_change_81 rfl (lv_at hl 5 rfl) ?_
                  refine mg S hK hP (by omega) h114_4 fd_X10_7 rfl dX10_change_82 ?_
                  refine lv_iadd hx hb dX10_change_85 ?_
                  refine tpi (nI_add (da (nx n p0)) n) ?_
                  refine lv_iconst (v := nI (1)) hx hb dX10_change_86 (by decide) ?_
                  refine lv_isub hx hb dX10_change_87 ?_
                  refine tpi (pk_sub (a := (da (nx n p0)) + n) (b := 1) (by omega)) ?_
                  refine lv_aload_n hx hb dX10_change_88 rfl (lv_at hl 5 rfl) ?_
                  refine mg S hK hP (by omega) h114_4 fd_X10_7 rfl dX10_change_89 ?_
                  refine lv_irem hx hb dX10_change_92 (fun h => by have h := (z_eq (by omega)).mp h; omega) ?_
                  refine tpi (pk_rem (a := ((da (nx n p0)) + n) - 1) (by omega) (by omega) (by omega)) ?_
                  refine tpi (congrArg nI (pvm (by omega) hb9)) ?_
                  exact J93 (pv n (da (nx n p0))) (pY_b (by omega) c_71) hpvb _ (lv_sub hl [0, 1, 2, 3, 4, 5, 6, 7, 8] rfl)
                · skip
                  have c_71 := (z_eq (by omega)).mp c_71
                  refine lv_iload hx hb dX10_change_74 (lv_at hl 3 rfl) ?_
                  refine lv_goto (tgt := 93) hx hb dX10_change_76 (by decide) ?_
                  exact J93 (da (nx n p0)) (pY_a (by omega) c_71) hb9 _ (lv_sub hl [0, 1, 2, 3, 4, 5, 6, 7, 8] rfl)
              refine lv_if_ne (tgt := 51) hx hb dX10_change_43 (by decide) (fun c_43 => ?_) (fun c_43 => ?_)
              · skip
                have c_43 := (not_congr (z_eq (by omega))).mp c_43
                refine lv_iload hx hb dX10_change_51 (lv_at hl 3 rfl) ?_
                refine lv_aload_n hx hb dX10_change_53 rfl (lv_at hl 4 rfl) ?_
                refine mg S hK hP (by omega) h114_4 fd_X10_7 rfl dX10_change_54 ?_
                refine lv_iadd hx hb dX10_change_57 ?_
                refine tpi (nI_add (da p0) n) ?_
                refine lv_iconst (v := nI (1)) hx hb dX10_change_58 (by decide) ?_
                refine lv_isub hx hb dX10_change_59 ?_
                refine tpi (pk_sub (a := da p0 + n) (b := 1) (by omega)) ?_
                refine lv_aload_n hx hb dX10_change_60 rfl (lv_at hl 4 rfl) ?_
                refine mg S hK hP (by omega) h114_4 fd_X10_7 rfl dX10_change_61 ?_
                refine lv_irem hx hb dX10_change_64 (fun h => by have h := (z_eq (by omega)).mp h; omega) ?_
                refine tpi (pk_rem (a := (da p0 + n) - 1) (by omega) (by omega) (by omega)) ?_
                refine tpi (congrArg nI (pvm (by omega) ha)) ?_
                exact J65 (pv n (da p0)) (pX_b c_43) hpva _ (lv_sub hl [0, 1, 2, 3, 4, 5, 6, 7] rfl)
              · skip
                have c_43 := (z_eq (by omega)).mp c_43
                refine lv_iload hx hb dX10_change_46 (lv_at hl 3 rfl) ?_
                refine lv_goto (tgt := 65) hx hb dX10_change_48 (by decide) ?_
                exact J65 (da p0) (pX_a c_43) ha _ (lv_sub hl [0, 1, 2, 3, 4, 5, 6, 7] rfl)
        exact L33 ((4 - 0) + 1) 0 o1 (by omega) (oS_in ho9 (by omega)) (Nat.lt_succ_self _) g_1 _ _ h114_1 hfr_1 hP hS _ (lv_sub hl [0, 1, 2, 3, 4, 5, 6, 7] rfl)
  exact L24 ((2 - 0) + 1) 0 ov (by omega) (Or.inl ⟨rfl, rfl⟩) (Nat.lt_succ_self _) g _ _ hM (fun j n0 => hfr j ) hP hS _ (lv_sub hl [0, 1, 2, 3, 4, 5, 6] rfl)

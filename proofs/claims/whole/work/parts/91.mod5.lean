set_option maxHeartbeats 4000000 in
set_option maxRecDepth 100000 in
theorem c_X10_goes1 (l : Launch) (D : va_G) (cy : Nat → ClassId) (ad : Nat → Nat) (N : Nat) (g : Nat → va_E) (hinj : ∀ i j : Nat, i < N → j < N → ad i = ad j → i = j) (hN : 145 ≤ N) (F : FS) (la : Int32) (bo : Int32) (tp : Nat) (ft : Int32) (wr0 : Nat) (wa : Nat) (at0 : Nat) (sp : Nat) (tk : Nat) (vl : Int32) (fi : Nat) (nm : Nat) (dp : Nat) (wy : Int32) (st : Int32) (aP : Nat) (aF : Nat) (aH : Nat) (aO : Nat) (ps : Nat) (mn : Nat) (go : Int32) (vi : Nat) (hM : g 114 = mob ad (nI (wn F.1)) (nI (wf F.1)) (nI (wh F.1)) (lN (wo F.1)) (nI (F.2.2.2)) la bo (nI (tp)) ft (nI (wr0)) (nI (wa)) (nI (at0)) (nI (sp)) (nI (tk)) vl (nI (fi)) (nI (nm)) (nI (dp)) wy st (nI (aP)) (nI (aF)) (nI (aH)) (lN aO) (nI (ps)) (nI (mn)) go (nI (vi))) (P : Nat → Nat) (hP9 : g 115 = .inl (cy 1, 8, .inl (fun x9 => nI (P x9)))) (hF : FOK F) (hPw : ∀ i, i < wn F.1 → P i = wp F.1 i) (OP : Nat → Nat) (hO1 : g 116 = .inl (cy 1, 12, .inl (fun x9 => nI (OP x9)))) (OF : Nat → Nat) (hO2 : g 117 = .inl (cy 1, 12, .inl (fun x9 => nI (OF x9)))) (OH : Nat → Nat) (hO3 : g 118 = .inl (cy 1, 12, .inl (fun x9 => nI (OH x9)))) (OO : Nat → Int64) (hO4 : g 119 = .inl (cy 2, 12, .inr (.inl OO))) (hUR : UR F OP OF OH OO) (BY : Nat → Nat) (hBY : g 122 = .inl (cy 1, 8, .inl (fun x9 => nI (BY x9)))) (BS : Nat → Nat) (hBS : g 123 = .inl (cy 1, 1600, .inl (fun x9 => nI (BS x9)))) (BN : Nat → Nat) (hBN : g 124 = .inl (cy 1, 1600, .inl (fun x9 => nI (BN x9)))) (Fl : Nat → Nat) (FB : Nat → Nat → Nat) (hfi : fi ≤ 8) (hFR : FR fi BY BS BN Fl FB) (f0 : Nat) (hf0 : f0 < fi) : Met l yX10_goes (WS yX10_goes cX10_goes 7 (some .int)) (rmF 5 129) (PP [.ref (ad 114), .int (nI (f0)), .int (nI (1))] D cy ad N g) (QI (fun r g1 => ∃ (P2 : Nat → Nat), ∃ (OP2 : Nat → Nat), ∃ (OF2 : Nat → Nat), ∃ (OH2 : Nat → Nat), ∃ (OO2 : Nat → Int64), (r = dnF (rn (FB f0) (Fl f0) 0 F (Fl f0))) ∧ (∀ i, i < wn F.1 → P2 i = wp (rn (FB f0) (Fl f0) 0 F (Fl f0)).2.2.1 i) ∧ (UR (rn (FB f0) (Fl f0) 0 F (Fl f0)).2.2 OP2 OF2 OH2 OO2) ∧ g1 114 = mob ad (nI (wn F.1)) (nI (wf (rn (FB f0) (Fl f0) 0 F (Fl f0)).2.2.1)) (nI (wh (rn (FB f0) (Fl f0) 0 F (Fl f0)).2.2.1)) (lN (wo (rn (FB f0) (Fl f0) 0 F (Fl f0)).2.2.1)) (nI ((rn (FB f0) (Fl f0) 0 F (Fl f0)).2.2.2.2.2)) la bo (nI (tp)) ft (nI (wr0)) (nI (wa)) (nI (at0)) (nI (sp)) (nI (tk)) vl (nI (fi)) (nI (nm)) (nI (dp)) wy ((rn (FB f0) (Fl f0) 0 F (Fl f0)).2.1) (nI (aP)) (nI (aF)) (nI (aH)) (lN aO) (nI (ps)) (nI (mn)) go (nI (vi)) ∧ g1 115 = .inl (cy 1, 8, .inl (fun x9 => nI (P2 x9))) ∧ g1 116 = .inl (cy 1, 12, .inl (fun x9 => nI (OP2 x9))) ∧ g1 117 = .inl (cy 1, 12, .inl (fun x9 => nI (OF2 x9))) ∧ g1 118 = .inl (cy 1, 12, .inl (fun x9 => nI (OH2 x9))) ∧ g1 119 = .inl (cy 2, 12, .inr (.inl OO2)) ∧ (∀ j, j ≠ 114 → j ≠ 115 → j ≠ 116 → j ≠ 117 → j ≠ 118 → j ≠ 119 → g1 j = g j)) D ad N) 0 0 (AA ad N) := by
  refine mentry (by decide) (Nat.le_of_ble_eq_true rfl) (fun p e s m below meth c ls S hr hlk hnm hP hK hl => ?_)
  have S : CallFix p m c cX10_goes 7 s _ wsL_law RX10 := S
  have hx := S.1
  have hb := S.2.1
  have hl : lv_has ls 7 [(0, .ref (ad 114)), (1, .int (nI (f0))), (2, .int (nI (1)))] := hl
  have hI : MD (AA ad N) ad N := MD.in hinj
  have hS : va_S (AA ad N) s.heap s.heap [] := va_S.rf
  have hfr : ∀ j : Nat, g j = g j := fun _ => rfl
  have hFRf := hFR f0 hf0
  refine lv_aload_n hx hb dX10_goes_0 rfl (lv_at hl 0 rfl) ?_
  refine lv_iconst (v := nI (0)) hx hb dX10_goes_1 (by decide) ?_
  refine mp S hK hP hI hS (by omega) hM fd_X10_293 rfl rfl (Nat.le_of_ble_eq_true rfl) dX10_goes_2 (fun g_1 H locs eg_1 hP hS => ?_)
  have h114_1 : g_1 114 = mob ad (nI (wn F.1)) (nI (wf F.1)) (nI (wh F.1)) (lN (wo F.1)) (nI (F.2.2.2)) la bo (nI (tp)) ft (nI (wr0)) (nI (wa)) (nI (at0)) (nI (sp)) (nI (tk)) vl (nI (fi)) (nI (nm)) (nI (dp)) wy (nI (0)) (nI (aP)) (nI (aF)) (nI (aH)) (lN aO) (nI (ps)) (nI (mn)) go (nI (vi)) := by rw [eg_1, va_up_self]; exact rfl
  have h115_1 : g_1 115 = .inl (cy 1, 8, .inl (fun x9 => nI (P x9))) := ((congrFun eg_1 _).trans (va_up_ne _ _ (by omega))).trans hP9
  have h116_1 : g_1 116 = .inl (cy 1, 12, .inl (fun x9 => nI (OP x9))) := ((congrFun eg_1 _).trans (va_up_ne _ _ (by omega))).trans hO1
  have h117_1 : g_1 117 = .inl (cy 1, 12, .inl (fun x9 => nI (OF x9))) := ((congrFun eg_1 _).trans (va_up_ne _ _ (by omega))).trans hO2
  have h118_1 : g_1 118 = .inl (cy 1, 12, .inl (fun x9 => nI (OH x9))) := ((congrFun eg_1 _).trans (va_up_ne _ _ (by omega))).trans hO3
  have h119_1 : g_1 119 = .inl (cy 2, 12, .inr (.inl OO)) := ((congrFun eg_1 _).trans (va_up_ne _ _ (by omega))).trans hO4
  have h122_1 : g_1 122 = .inl (cy 1, 8, .inl (fun x9 => nI (BY x9))) := ((congrFun eg_1 _).trans (va_up_ne _ _ (by omega))).trans hBY
  have h123_1 : g_1 123 = .inl (cy 1, 1600, .inl (fun x9 => nI (BS x9))) := ((congrFun eg_1 _).trans (va_up_ne _ _ (by omega))).trans hBS
  have h124_1 : g_1 124 = .inl (cy 1, 1600, .inl (fun x9 => nI (BN x9))) := ((congrFun eg_1 _).trans (va_up_ne _ _ (by omega))).trans hBN
  have hfr_1 : ∀ j : Nat, j ≠ 114 → g_1 j = g j := fun j n0 => ((congrFun eg_1 _).trans (va_up_ne _ _ n0)).trans (hfr j )
  refine lv_iconst (v := nI (0)) hx hb dX10_goes_5 (by decide) ?_
  refine lv_istore_n (lv' := [(3, .int (nI (0))), (0, .ref (ad 114)), (1, .int (nI (f0))), (2, .int (nI (1)))]) hx hb dX10_goes_6 rfl hl (by decide) rfl (fun ls hl => ?_)
  have L7 : ∀ (fu : Nat) (i : Nat) (F3 : FS) (P3 : Nat → Nat) (OP3 OF3 OH3 : Nat → Nat) (OO3 : Nat → Int64), (i ≤ Fl f0) → (rn (FB f0) (Fl f0) 0 F i = (i, 0, F3)) → (FOK F3) → (∀ j, j < wn F3.1 → P3 j = wp F3.1 j) → (UR F3 OP3 OF3 OH3 OO3) → (wn F3.1 = wn F.1) → (Fl f0 - i) < fu → ∀ (g_2 : Nat → va_E) (H : Heap) (locs : List Loc), g_2 114 = mob ad (nI (wn F3.1)) (nI (wf F3.1)) (nI (wh F3.1)) (lN (wo F3.1)) (nI (F3.2.2.2)) la bo (nI (tp)) ft (nI (wr0)) (nI (wa)) (nI (at0)) (nI (sp)) (nI (tk)) vl (nI (fi)) (nI (nm)) (nI (dp)) wy (nI (0)) (nI (aP)) (nI (aF)) (nI (aH)) (lN aO) (nI (ps)) (nI (mn)) go (nI (vi)) → g_2 115 = .inl (cy 1, 8, .inl (fun x9 => nI (P3 x9))) → g_2 116 = .inl (cy 1, 12, .inl (fun x9 => nI (OP3 x9))) → g_2 117 = .inl (cy 1, 12, .inl (fun x9 => nI (OF3 x9))) → g_2 118 = .inl (cy 1, 12, .inl (fun x9 => nI (OH3 x9))) → g_2 119 = .inl (cy 2, 12, .inr (.inl OO3)) → (∀ j : Nat, j ≠ 114 → j ≠ 115 → j ≠ 116 → j ≠ 117 → j ≠ 118 → j ≠ 119 → g_2 j = g j) → MM D ad N g_2 H → va_S (AA ad N) s.heap H locs → ∀ (ls : Array Slot), lv_has ls 7 [(3, .int (nI (i))), (0, .ref (ad 114)), (1, .int (nI (f0))), (2, .int (nI (1)))] → W p l e (rmF 5 129) s m [.ref (ad 114), .int (nI (f0)), .int (nI (1))].toArray below meth c H locs 0 0 (MQ below (QI (fun r g1 => ∃ (P2 : Nat → Nat), ∃ (OP2 : Nat → Nat), ∃ (OF2 : Nat → Nat), ∃ (OH2 : Nat → Nat), ∃ (OO2 : Nat → Int64), (r = dnF (rn (FB f0) (Fl f0) 0 F (Fl f0))) ∧ (∀ i, i < wn F.1 → P2 i = wp (rn (FB f0) (Fl f0) 0 F (Fl f0)).2.2.1 i) ∧ (UR (rn (FB f0) (Fl f0) 0 F (Fl f0)).2.2 OP2 OF2 OH2 OO2) ∧ g1 114 = mob ad (nI (wn F.1)) (nI (wf (rn (FB f0) (Fl f0) 0 F (Fl f0)).2.2.1)) (nI (wh (rn (FB f0) (Fl f0) 0 F (Fl f0)).2.2.1)) (lN (wo (rn (FB f0) (Fl f0) 0 F (Fl f0)).2.2.1)) (nI ((rn (FB f0) (Fl f0) 0 F (Fl f0)).2.2.2.2.2)) la bo (nI (tp)) ft (nI (wr0)) (nI (wa)) (nI (at0)) (nI (sp)) (nI (tk)) vl (nI (fi)) (nI (nm)) (nI (dp)) wy ((rn (FB f0) (Fl f0) 0 F (Fl f0)).2.1) (nI (aP)) (nI (aF)) (nI (aH)) (lN aO) (nI (ps)) (nI (mn)) go (nI (vi)) ∧ g1 115 = .inl (cy 1, 8, .inl (fun x9 => nI (P2 x9))) ∧ g1 116 = .inl (cy 1, 12, .inl (fun x9 => nI (OP2 x9))) ∧ g1 117 = .inl (cy 1, 12, .inl (fun x9 => nI (OF2 x9))) ∧ g1 118 = .inl (cy 1, 12, .inl (fun x9 => nI (OH2 x9))) ∧ g1 119 = .inl (cy 2, 12, .inr (.inl OO2)) ∧ (∀ j, j ≠ 114 → j ≠ 115 → j ≠ 116 → j ≠ 117 → j ≠ 118 → j ≠ 119 → g1 j = g j)) D ad N) [.ref (ad 114), .int (nI (f0)), .int (nI (1))].toArray s 0 0 (AA ad N)) (F0 m 7 ls []) := by
    intro fu
    induction fu with
    | zero => intro i F3 P3 OP3 OF3 OH3 OO3 hi hrn hF3 hP3 hUR3 hn3 hms g_2 H locs h114_2 h115_2 h116_2 h117_2 h118_2 h119_2 hfr_2 hP hS ls hl; exact absurd hms (Nat.not_lt_zero _)
    | succ fu ih7 =>
      intro i F3 P3 OP3 OF3 OH3 OO3 hi hrn hF3 hP3 hUR3 hn3 hms g_2 H locs h114_2 h115_2 h116_2 h117_2 h118_2 h119_2 hfr_2 hP hS ls hl
      have h122_2 : g_2 122 = .inl (cy 1, 8, .inl (fun x9 => nI (BY x9))) := (hfr_2 122 (by omega) (by omega) (by omega) (by omega) (by omega) (by omega)).trans hBY
      have h123_2 : g_2 123 = .inl (cy 1, 1600, .inl (fun x9 => nI (BS x9))) := (hfr_2 123 (by omega) (by omega) (by omega) (by omega) (by omega) (by omega)).trans hBS
      have h124_2 : g_2 124 = .inl (cy 1, 1600, .inl (fun x9 => nI (BN x9))) := (hfr_2 124 (by omega) (by omega) (by omega) (by omega) (by omega) (by omega)).trans hBN
      refine lv_iload_n hx hb dX10_goes_7 rfl (lv_at hl 0 rfl) ?_
      refine lv_aload_n hx hb dX10_goes_8 rfl (lv_at hl 1 rfl) ?_
      refine mg S hK hP (by omega) h114_2 fd_X10_42 rfl dX10_goes_9 ?_
      refine lv_iload_n hx hb dX10_goes_12 rfl (lv_at hl 2 rfl) ?_
      refine mial S hK hP (by omega) h122_2 (vp_in_nI (by omega) (by omega)) dX10_goes_13 ?_
      refine tpi (congrArg ((fun x9 => nI (BY x9))) (nI_clamp (by omega))) ?_
      refine tpi (congrArg nI hFRf.1) ?_
      refine lv_icmp_ge (tgt := 103) hx hb dX10_goes_14 (by decide) (fun c_14 => ?_) (fun c_14 => ?_)
      · skip
        have c_14 := (nI_leI (by omega) (by omega)).mp c_14
        refine lv_aload_n hx hb dX10_goes_103 rfl (lv_at hl 1 rfl) ?_
        refine mg S hK hP (by omega) h114_2 fd_X10_42 rfl dX10_goes_104 ?_
        refine lv_iload_n hx hb dX10_goes_107 rfl (lv_at hl 2 rfl) ?_
        refine mial S hK hP (by omega) h122_2 (vp_in_nI (by omega) (by omega)) dX10_goes_108 ?_
        refine tpi (congrArg ((fun x9 => nI (BY x9))) (nI_clamp (by omega))) ?_
        refine tpi (congrArg nI hFRf.1) ?_
        have ei : i = Fl f0 := by omega
        have hE : (rn (FB f0) (Fl f0) 0 F (Fl f0)) = (Fl f0, 0, F3) := by rw [ei] at hrn; exact hrn
        exact rMi S hr hlk hP hS ⟨_, _, _, _, _, (by rw [dnF_y hE]), (by rw [← hn3, hE]; exact hP3), (by rw [hE]; exact hUR3), (by rw [hE, ← hn3]; exact h114_2), h115_2, h116_2, h117_2, h118_2, h119_2, hfr_2⟩ dX10_goes_109
      · skip
        have c_14 := (not_congr (nI_leI (by omega) (by omega))).mp c_14
        have hb9 := hFRf.2.2 i (by omega)
        have hbt3 := hb9.2.2
        refine lv_aload_n hx hb dX10_goes_17 rfl (lv_at hl 1 rfl) ?_
        refine mg S hK hP (by omega) h114_2 fd_X10_45 rfl dX10_goes_18 ?_
        refine lv_sipush (v := nI (200)) hx hb dX10_goes_21 (by decide) ?_
        refine lv_iload_n hx hb dX10_goes_24 rfl (lv_at hl 2 rfl) ?_
        refine lv_imul hx hb dX10_goes_25 ?_
        refine tpi (pk_mul 200 f0) ?_
        refine lv_iload_n hx hb dX10_goes_26 rfl (lv_at hl 0 rfl) ?_
        refine lv_iadd hx hb dX10_goes_27 ?_
        refine tpi (nI_add (200 * f0) i) ?_
        refine mial S hK hP (by omega) h123_2 (vp_in_nI (by omega) (by omega)) dX10_goes_28 ?_
        refine tpi (congrArg ((fun x9 => nI (BS x9))) (nI_clamp (by omega))) ?_
        refine tpi (congrArg nI hb9.1) ?_
        refine lv_istore (lv' := [(4, .int (nI (FB f0 i / 8))), (3, .int (nI (i))), (0, .ref (ad 114)), (1, .int (nI (f0))), (2, .int (nI (1)))]) hx hb dX10_goes_29 hl (by decide) rfl (fun ls hl => ?_)
        refine lv_aload_n hx hb dX10_goes_31 rfl (lv_at hl 2 rfl) ?_
        refine mg S hK hP (by omega) h114_2 fd_X10_48 rfl dX10_goes_32 ?_
        refine lv_sipush (v := nI (200)) hx hb dX10_goes_35 (by decide) ?_
        refine lv_iload_n hx hb dX10_goes_38 rfl (lv_at hl 3 rfl) ?_
        refine lv_imul hx hb dX10_goes_39 ?_
        refine tpi (pk_mul 200 f0) ?_
        refine lv_iload_n hx hb dX10_goes_40 rfl (lv_at hl 1 rfl) ?_
        refine lv_iadd hx hb dX10_goes_41 ?_
        refine tpi (nI_add (200 * f0) i) ?_
        refine mial S hK hP (by omega) h124_2 (vp_in_nI (by omega) (by omega)) dX10_goes_42 ?_
        refine tpi (congrArg ((fun x9 => nI (BN x9))) (nI_clamp (by omega))) ?_
        refine tpi (congrArg nI hb9.2.1) ?_
        refine lv_istore (lv' := [(5, .int (nI (FB f0 i % 8))), (4, .int (nI (FB f0 i / 8))), (3, .int (nI (i))), (0, .ref (ad 114)), (1, .int (nI (f0))), (2, .int (nI (1)))]) hx hb dX10_goes_43 hl (by decide) rfl (fun ls hl => ?_)
        refine lv_iload hx hb dX10_goes_45 (lv_at hl 1 rfl) ?_
        refine lv_bipush (v := nI (6)) hx hb dX10_goes_47 (by decide) ?_
        have J79 : ∀ (a9 : Int32) (F4 : FS) (P4 : Nat → Nat) (OP4 OF4 OH4 : Nat → Nat) (OO4 : Nat → Int64), (beatF 0 (FB f0 i) F3 = (a9, F4)) → (FOK F4) → (∀ j, j < wn F4.1 → P4 j = wp F4.1 j) → (UR F4 OP4 OF4 OH4 OO4) → (wn F4.1 = wn F3.1) → ∀ (g_3 : Nat → va_E) (H : Heap) (locs : List Loc), g_3 114 = mob ad (nI (wn F4.1)) (nI (wf F4.1)) (nI (wh F4.1)) (lN (wo F4.1)) (nI (F4.2.2.2)) la bo (nI (tp)) ft (nI (wr0)) (nI (wa)) (nI (at0)) (nI (sp)) (nI (tk)) vl (nI (fi)) (nI (nm)) (nI (dp)) wy (nI (0)) (nI (aP)) (nI (aF)) (nI (aH)) (lN aO) (nI (ps)) (nI (mn)) go (nI (vi)) → g_3 115 = .inl (cy 1, 8, .inl (fun x9 => nI (P4 x9))) → g_3 116 = .inl (cy 1, 12, .inl (fun x9 => nI (OP4 x9))) → g_3 117 = .inl (cy 1, 12, .inl (fun x9 => nI (OF4 x9))) → g_3 118 = .inl (cy 1, 12, .inl (fun x9 => nI (OH4 x9))) → g_3 119 = .inl (cy 2, 12, .inr (.inl OO4)) → (∀ j : Nat, j ≠ 114 → j ≠ 115 → j ≠ 116 → j ≠ 117 → j ≠ 118 → j ≠ 119 → g_3 j = g j) → MM D ad N g_3 H → va_S (AA ad N) s.heap H locs → ∀ (ls : Array Slot), lv_has ls 7 [(3, .int (nI (i))), (0, .ref (ad 114)), (1, .int (nI (f0))), (2, .int (nI (1)))] → W p l e (rmF 5 129) s m [.ref (ad 114), .int (nI (f0)), .int (nI (1))].toArray below meth c H locs 0 0 (MQ below (QI (fun r g1 => ∃ (P2 : Nat → Nat), ∃ (OP2 : Nat → Nat), ∃ (OF2 : Nat → Nat), ∃ (OH2 : Nat → Nat), ∃ (OO2 : Nat → Int64), (r = dnF (rn (FB f0) (Fl f0) 0 F (Fl f0))) ∧ (∀ i, i < wn F.1 → P2 i = wp (rn (FB f0) (Fl f0) 0 F (Fl f0)).2.2.1 i) ∧ (UR (rn (FB f0) (Fl f0) 0 F (Fl f0)).2.2 OP2 OF2 OH2 OO2) ∧ g1 114 = mob ad (nI (wn F.1)) (nI (wf (rn (FB f0) (Fl f0) 0 F (Fl f0)).2.2.1)) (nI (wh (rn (FB f0) (Fl f0) 0 F (Fl f0)).2.2.1)) (lN (wo (rn (FB f0) (Fl f0) 0 F (Fl f0)).2.2.1)) (nI ((rn (FB f0) (Fl f0) 0 F (Fl f0)).2.2.2.2.2)) la bo (nI (tp)) ft (nI (wr0)) (nI (wa)) (nI (at0)) (nI (sp)) (nI (tk)) vl (nI (fi)) (nI (nm)) (nI (dp)) wy ((rn (FB f0) (Fl f0) 0 F (Fl f0)).2.1) (nI (aP)) (nI (aF)) (nI (aH)) (lN aO) (nI (ps)) (nI (mn)) go (nI (vi)) ∧ g1 115 = .inl (cy 1, 8, .inl (fun x9 => nI (P2 x9))) ∧ g1 116 = .inl (cy 1, 12, .inl (fun x9 => nI (OP2 x9))) ∧ g1 117 = .inl (cy 1, 12, .inl (fun x9 => nI (OF2 x9))) ∧ g1 118 = .inl (cy 1, 12, .inl (fun x9 => nI (OH2 x9))) ∧ g1 119 = .inl (cy 2, 12, .inr (.inl OO2)) ∧ (∀ j, j ≠ 114 → j ≠ 115 → j ≠ 116 → j ≠ 117 → j ≠ 118 → j ≠ 119 → g1 j = g j)) D ad N) [.ref (ad 114), .int (nI (f0)), .int (nI (1))].toArray s 0 0 (AA ad N)) (F0 m 79 ls [.int a9]) := by
          intro a9 F4 P4 OP4 OF4 OH4 OO4 hbt hF4 hP4 hUR4 hn4 g_3 H locs h114_3 h115_3 h116_3 h117_3 h118_3 h119_3 hfr_3 hP hS ls hl
          have h122_3 : g_3 122 = .inl (cy 1, 8, .inl (fun x9 => nI (BY x9))) := (hfr_3 122 (by omega) (by omega) (by omega) (by omega) (by omega) (by omega)).trans hBY
          have h123_3 : g_3 123 = .inl (cy 1, 1600, .inl (fun x9 => nI (BS x9))) := (hfr_3 123 (by omega) (by omega) (by omega) (by omega) (by omega) (by omega)).trans hBS
          have h124_3 : g_3 124 = .inl (cy 1, 1600, .inl (fun x9 => nI (BN x9))) := (hfr_3 124 (by omega) (by omega) (by omega) (by omega) (by omega) (by omega)).trans hBN
          refine lv_istore (lv' := [(6, .int a9), (3, .int (nI (i))), (0, .ref (ad 114)), (1, .int (nI (f0))), (2, .int (nI (1)))]) hx hb dX10_goes_79 hl (by decide) rfl (fun ls hl => ?_)
          refine lv_iload hx hb dX10_goes_81 (lv_at hl 0 rfl) ?_
          refine lv_if_ge (tgt := 97) hx hb dX10_goes_83 (by decide) (fun c_83 => ?_) (fun c_83 => ?_)
          · skip
            refine lv_iinc (v := nI (i + 1)) (lv' := [(3, .int (nI (i + 1))), (6, .int a9), (0, .ref (ad 114)), (1, .int (nI (f0))), (2, .int (nI (1)))]) hx hb dX10_goes_97 hl (k := 1) rfl (by exact nI_add i 1) (by decide) rfl (fun ls hl => ?_)
            refine lv_goto (tgt := 7) hx hb dX10_goes_100 (by decide) ?_
            exact ih7 (i + 1) F4 P4 OP4 OF4 OH4 OO4 (by omega) (rn_go hrn hbt (bt_1 hF3 hbt c_83)) hF4 hP4 hUR4 (hn4.trans hn3) (by omega) g_3 _ _ h114_3 h115_3 h116_3 h117_3 h118_3 h119_3 hfr_3 hP hS _ (lv_sub hl [0, 2, 3, 4] rfl)
          · skip
            refine lv_aload_n hx hb dX10_goes_86 rfl (lv_at hl 2 rfl) ?_
            refine lv_iload hx hb dX10_goes_87 (lv_at hl 0 rfl) ?_
            refine mp S hK hP hI hS (by omega) h114_3 fd_X10_293 rfl rfl (Nat.le_of_ble_eq_true rfl) dX10_goes_89 (fun g_4 H locs eg_4 hP hS => ?_)
            have h114_4 : g_4 114 = mob ad (nI (wn F4.1)) (nI (wf F4.1)) (nI (wh F4.1)) (lN (wo F4.1)) (nI (F4.2.2.2)) la bo (nI (tp)) ft (nI (wr0)) (nI (wa)) (nI (at0)) (nI (sp)) (nI (tk)) vl (nI (fi)) (nI (nm)) (nI (dp)) wy a9 (nI (aP)) (nI (aF)) (nI (aH)) (lN aO) (nI (ps)) (nI (mn)) go (nI (vi)) := by rw [eg_4, va_up_self]; exact rfl
            have h115_4 : g_4 115 = .inl (cy 1, 8, .inl (fun x9 => nI (P4 x9))) := ((congrFun eg_4 _).trans (va_up_ne _ _ (by omega))).trans h115_3
            have h116_4 : g_4 116 = .inl (cy 1, 12, .inl (fun x9 => nI (OP4 x9))) := ((congrFun eg_4 _).trans (va_up_ne _ _ (by omega))).trans h116_3
            have h117_4 : g_4 117 = .inl (cy 1, 12, .inl (fun x9 => nI (OF4 x9))) := ((congrFun eg_4 _).trans (va_up_ne _ _ (by omega))).trans h117_3
            have h118_4 : g_4 118 = .inl (cy 1, 12, .inl (fun x9 => nI (OH4 x9))) := ((congrFun eg_4 _).trans (va_up_ne _ _ (by omega))).trans h118_3
            have h119_4 : g_4 119 = .inl (cy 2, 12, .inr (.inl OO4)) := ((congrFun eg_4 _).trans (va_up_ne _ _ (by omega))).trans h119_3
            have h122_4 : g_4 122 = .inl (cy 1, 8, .inl (fun x9 => nI (BY x9))) := ((congrFun eg_4 _).trans (va_up_ne _ _ (by omega))).trans h122_3
            have h123_4 : g_4 123 = .inl (cy 1, 1600, .inl (fun x9 => nI (BS x9))) := ((congrFun eg_4 _).trans (va_up_ne _ _ (by omega))).trans h123_3
            have h124_4 : g_4 124 = .inl (cy 1, 1600, .inl (fun x9 => nI (BN x9))) := ((congrFun eg_4 _).trans (va_up_ne _ _ (by omega))).trans h124_3
            have hfr_4 : ∀ j : Nat, j ≠ 114 → j ≠ 115 → j ≠ 116 → j ≠ 117 → j ≠ 118 → j ≠ 119 → g_4 j = g j := fun j n0 n1 n2 n3 n4 n5 => ((congrFun eg_4 _).trans (va_up_ne _ _ n0)).trans (hfr_3 j n0 n1 n2 n3 n4 n5)
            refine lv_bipush (v := (-100)) hx hb dX10_goes_92 (by decide) ?_
            refine lv_iload_n hx hb dX10_goes_94 rfl (lv_at hl 1 rfl) ?_
            refine lv_isub hx hb dX10_goes_95 ?_
            have hE := rn_end hrn hbt (bt_n hF3 hbt c_83) (by omega)
            have hnE := hn4.trans hn3
            exact rMi S hr hlk hP hS ⟨_, _, _, _, _, (by rw [dnF_n hE (bt_n hF3 hbt c_83).2]), (by rw [← hnE, hE]; exact hP4), (by rw [hE]; exact hUR4), (by rw [hE, ← hnE]; exact h114_4), h115_4, h116_4, h117_4, h118_4, h119_4, hfr_4⟩ dX10_goes_96
        refine lv_icmp_ne (tgt := 56) hx hb dX10_goes_49 (by decide) (fun c_49 => ?_) (fun c_49 => ?_)
        · skip
          have c_49 := (not_congr (nI_eq (by omega) (by omega))).mp c_49
          refine lv_iload_n hx hb dX10_goes_56 rfl (lv_at hl 5 rfl) ?_
          refine lv_if_eq (tgt := 71) hx hb dX10_goes_57 (by decide) (fun c_57 => ?_) (fun c_57 => ?_)
          · skip
            have c_57 := (z_eq (by omega)).mp c_57
            exact absurd c_57 (by decide)
          · skip
            have c_57 := (not_congr (z_eq (by omega))).mp c_57
            refine lv_aload_n hx hb dX10_goes_60 rfl (lv_at hl 3 rfl) ?_
            refine lv_iload hx hb dX10_goes_61 (lv_at hl 1 rfl) ?_
            refine lv_iload hx hb dX10_goes_63 (lv_at hl 0 rfl) ?_
            refine kMi (As := [.int (nI (FB f0 i / 8)), .int (nI (FB f0 i % 8))]) (rest := []) S hK hP hS (fun _ h => h) (c_X10_doesAct l D cy ad N g_2 hinj (by omega) F3 la bo tp ft wr0 wa at0 sp tk vl fi nm dp wy (nI (0)) aP aF aH aO ps mn go vi h114_2 P3 h115_2 hF3 hP3 OP3 h116_2 OF3 h117_2 OH3 h118_2 OO3 h119_2 hUR3 (FB f0 i / 8) (by omega) (FB f0 i % 8) (by omega)) cv_X10_186 (by omega) h114_2 ⟨_, _, rfl⟩ ⟨rfl, rfl⟩ rfl hl.1 rfl (Nat.le_of_ble_eq_true rfl) ⟨Nat.zero_le _, Nat.zero_le _⟩ dX10_goes_65 (fun r_65 g_5 H locs q_5 hP hS => ?_)
            obtain ⟨P2_5, OP2_5, OF2_5, OH2_5, OO2_5, q_65, hP2_5, hUR2_5, h114_5, h115_5, h116_5, h117_5, h118_5, h119_5, f_5⟩ := q_5
            subst q_65
            have h122_5 : g_5 122 = .inl (cy 1, 8, .inl (fun x9 => nI (BY x9))) := (f_5 122 (by omega) (by omega) (by omega) (by omega) (by omega) (by omega)).trans h122_2
            have h123_5 : g_5 123 = .inl (cy 1, 1600, .inl (fun x9 => nI (BS x9))) := (f_5 123 (by omega) (by omega) (by omega) (by omega) (by omega) (by omega)).trans h123_2
            have h124_5 : g_5 124 = .inl (cy 1, 1600, .inl (fun x9 => nI (BN x9))) := (f_5 124 (by omega) (by omega) (by omega) (by omega) (by omega) (by omega)).trans h124_2
            have hfr_5 : ∀ j : Nat, j ≠ 114 → j ≠ 115 → j ≠ 116 → j ≠ 117 → j ≠ 118 → j ≠ 119 → g_5 j = g j := fun j n0 n1 n2 n3 n4 n5 => (f_5 j n0 n1 n2 n3 n4 n5).trans (hfr_2 j n0 n1 n2 n3 n4 n5)
            refine lv_goto (tgt := 79) hx hb dX10_goes_68 (by decide) ?_
            exact J79 ((atR F3 (FB f0 i / 8) (FB f0 i % 8)).1) ((atR F3 (FB f0 i / 8) (FB f0 i % 8)).2) P2_5 OP2_5 OF2_5 OH2_5 OO2_5 (by first | (rw [bt_at c_49 hbt3]; done) | (rw [bt_at c_49 hbt3]; rfl)) (atR_ok hF3).1 (by rw [(atR_ok (S := (FB f0 i / 8)) (K := (FB f0 i % 8)) hF3).2]; assumption) (by assumption) (atR_ok hF3).2 g_5 _ _ (by rw [(atR_ok (S := (FB f0 i / 8)) (K := (FB f0 i % 8)) hF3).2]; exact h114_5) h115_5 h116_5 h117_5 h118_5 h119_5 hfr_5 hP hS _ (lv_sub hl [2, 3, 4, 5] rfl)
        · skip
          have c_49 := (nI_eq (by omega) (by omega)).mp c_49
          refine lv_iconst (v := nI (1)) hx hb dX10_goes_52 (by decide) ?_
          refine lv_goto (tgt := 79) hx hb dX10_goes_53 (by decide) ?_
          exact J79 (nI 1) F3 P3 OP3 OF3 OH3 OO3 (bt_f6 c_49) hF3 hP3 hUR3 rfl g_2 _ _ h114_2 h115_2 h116_2 h117_2 h118_2 h119_2 hfr_2 hP hS _ (lv_sub hl [2, 3, 4, 5] rfl)
  exact L7 ((Fl f0 - 0) + 1) 0 F P OP OF OH OO (by omega) rfl hF hPw hUR rfl (Nat.lt_succ_self _) g_1 _ _ h114_1 h115_1 h116_1 h117_1 h118_1 h119_1 (fun j n0 n1 n2 n3 n4 n5 => hfr_1 j (by omega)) hP hS _ (lv_sub hl [0, 1, 2, 3] rfl)
set_option maxHeartbeats 4000000 in
set_option maxRecDepth 100000 in
theorem c_X10_goes0 (l : Launch) (D : va_G) (cy : Nat → ClassId) (ad : Nat → Nat) (N : Nat) (g : Nat → va_E) (hinj : ∀ i j : Nat, i < N → j < N → ad i = ad j → i = j) (hN : 145 ≤ N) (F : FS) (un : Nat) (la : Int32) (bo : Int32) (tp : Nat) (ft : Int32) (wr0 : Nat) (wa : Nat) (at0 : Nat) (sp : Nat) (tk : Nat) (vl : Int32) (fi : Nat) (nm : Nat) (dp : Nat) (wy : Int32) (st : Int32) (aP : Nat) (aF : Nat) (aH : Nat) (aO : Nat) (ps : Nat) (mn : Nat) (go : Int32) (vi : Nat) (hM : g 114 = mob ad (nI (wn F.1)) (nI (wf F.1)) (nI (wh F.1)) (lN (wo F.1)) (nI (un)) la bo (nI (tp)) ft (nI (wr0)) (nI (wa)) (nI (at0)) (nI (sp)) (nI (tk)) vl (nI (fi)) (nI (nm)) (nI (dp)) wy st (nI (aP)) (nI (aF)) (nI (aH)) (lN aO) (nI (ps)) (nI (mn)) go (nI (vi))) (P : Nat → Nat) (hP9 : g 115 = .inl (cy 1, 8, .inl (fun x9 => nI (P x9)))) (hF : FOK F) (hPw : ∀ i, i < wn F.1 → P i = wp F.1 i) (BY : Nat → Nat) (hBY : g 122 = .inl (cy 1, 8, .inl (fun x9 => nI (BY x9)))) (BS : Nat → Nat) (hBS : g 123 = .inl (cy 1, 1600, .inl (fun x9 => nI (BS x9)))) (BN : Nat → Nat) (hBN : g 124 = .inl (cy 1, 1600, .inl (fun x9 => nI (BN x9)))) (Fl : Nat → Nat) (FB : Nat → Nat → Nat) (hfi : fi ≤ 8) (hFR : FR fi BY BS BN Fl FB) (f0 : Nat) (hf0 : f0 < fi) : Met l yX10_goes (WS yX10_goes cX10_goes 7 (some .int)) (rmF 4 96) (PP [.ref (ad 114), .int (nI (f0)), .int (nI (0))] D cy ad N g) (QI (fun r g1 => ∃ (P2 : Nat → Nat), (r = dnF (rn (FB f0) (Fl f0) 0 F (Fl f0))) ∧ (∀ i, i < wn F.1 → P2 i = wp (rn (FB f0) (Fl f0) 0 F (Fl f0)).2.2.1 i) ∧ g1 114 = mob ad (nI (wn F.1)) (nI (wf (rn (FB f0) (Fl f0) 0 F (Fl f0)).2.2.1)) (nI (wh (rn (FB f0) (Fl f0) 0 F (Fl f0)).2.2.1)) (lN (wo (rn (FB f0) (Fl f0) 0 F (Fl f0)).2.2.1)) (nI (un)) la bo (nI (tp)) ft (nI (wr0)) (nI (wa)) (nI (at0)) (nI (sp)) (nI (tk)) vl (nI (fi)) (nI (nm)) (nI (dp)) wy ((rn (FB f0) (Fl f0) 0 F (Fl f0)).2.1) (nI (aP)) (nI (aF)) (nI (aH)) (lN aO) (nI (ps)) (nI (mn)) go (nI (vi)) ∧ g1 115 = .inl (cy 1, 8, .inl (fun x9 => nI (P2 x9))) ∧ (∀ j, j ≠ 114 → j ≠ 115 → g1 j = g j)) D ad N) 0 0 (AA ad N) := by
  refine mentry (by decide) (Nat.le_of_ble_eq_true rfl) (fun p e s m below meth c ls S hr hlk hnm hP hK hl => ?_)
  have S : CallFix p m c cX10_goes 7 s _ wsL_law RX10 := S
  have hx := S.1
  have hb := S.2.1
  have hl : lv_has ls 7 [(0, .ref (ad 114)), (1, .int (nI (f0))), (2, .int (nI (0)))] := hl
  have hI : MD (AA ad N) ad N := MD.in hinj
  have hS : va_S (AA ad N) s.heap s.heap [] := va_S.rf
  have hfr : ∀ j : Nat, g j = g j := fun _ => rfl
  have hFRf := hFR f0 hf0
  refine lv_aload_n hx hb dX10_goes_0 rfl (lv_at hl 0 rfl) ?_
  refine lv_iconst (v := nI (0)) hx hb dX10_goes_1 (by decide) ?_
  refine mp S hK hP hI hS (by omega) hM fd_X10_293 rfl rfl (Nat.le_of_ble_eq_true rfl) dX10_goes_2 (fun g_1 H locs eg_1 hP hS => ?_)
  have h114_1 : g_1 114 = mob ad (nI (wn F.1)) (nI (wf F.1)) (nI (wh F.1)) (lN (wo F.1)) (nI (un)) la bo (nI (tp)) ft (nI (wr0)) (nI (wa)) (nI (at0)) (nI (sp)) (nI (tk)) vl (nI (fi)) (nI (nm)) (nI (dp)) wy (nI (0)) (nI (aP)) (nI (aF)) (nI (aH)) (lN aO) (nI (ps)) (nI (mn)) go (nI (vi)) := by rw [eg_1, va_up_self]; exact rfl
  have h115_1 : g_1 115 = .inl (cy 1, 8, .inl (fun x9 => nI (P x9))) := ((congrFun eg_1 _).trans (va_up_ne _ _ (by omega))).trans hP9
  have h122_1 : g_1 122 = .inl (cy 1, 8, .inl (fun x9 => nI (BY x9))) := ((congrFun eg_1 _).trans (va_up_ne _ _ (by omega))).trans hBY
  have h123_1 : g_1 123 = .inl (cy 1, 1600, .inl (fun x9 => nI (BS x9))) := ((congrFun eg_1 _).trans (va_up_ne _ _ (by omega))).trans hBS
  have h124_1 : g_1 124 = .inl (cy 1, 1600, .inl (fun x9 => nI (BN x9))) := ((congrFun eg_1 _).trans (va_up_ne _ _ (by omega))).trans hBN
  have hfr_1 : ∀ j : Nat, j ≠ 114 → g_1 j = g j := fun j n0 => ((congrFun eg_1 _).trans (va_up_ne _ _ n0)).trans (hfr j )
  refine lv_iconst (v := nI (0)) hx hb dX10_goes_5 (by decide) ?_
  refine lv_istore_n (lv' := [(3, .int (nI (0))), (0, .ref (ad 114)), (1, .int (nI (f0))), (2, .int (nI (0)))]) hx hb dX10_goes_6 rfl hl (by decide) rfl (fun ls hl => ?_)
  have L7 : ∀ (fu : Nat) (i : Nat) (F3 : FS) (P3 : Nat → Nat), (i ≤ Fl f0) → (rn (FB f0) (Fl f0) 0 F i = (i, 0, F3)) → (FOK F3) → (∀ j, j < wn F3.1 → P3 j = wp F3.1 j) → (wn F3.1 = wn F.1) → (Fl f0 - i) < fu → ∀ (g_2 : Nat → va_E) (H : Heap) (locs : List Loc), g_2 114 = mob ad (nI (wn F3.1)) (nI (wf F3.1)) (nI (wh F3.1)) (lN (wo F3.1)) (nI (un)) la bo (nI (tp)) ft (nI (wr0)) (nI (wa)) (nI (at0)) (nI (sp)) (nI (tk)) vl (nI (fi)) (nI (nm)) (nI (dp)) wy (nI (0)) (nI (aP)) (nI (aF)) (nI (aH)) (lN aO) (nI (ps)) (nI (mn)) go (nI (vi)) → g_2 115 = .inl (cy 1, 8, .inl (fun x9 => nI (P3 x9))) → (∀ j : Nat, j ≠ 114 → j ≠ 115 → g_2 j = g j) → MM D ad N g_2 H → va_S (AA ad N) s.heap H locs → ∀ (ls : Array Slot), lv_has ls 7 [(3, .int (nI (i))), (0, .ref (ad 114)), (1, .int (nI (f0))), (2, .int (nI (0)))] → W p l e (rmF 4 96) s m [.ref (ad 114), .int (nI (f0)), .int (nI (0))].toArray below meth c H locs 0 0 (MQ below (QI (fun r g1 => ∃ (P2 : Nat → Nat), (r = dnF (rn (FB f0) (Fl f0) 0 F (Fl f0))) ∧ (∀ i, i < wn F.1 → P2 i = wp (rn (FB f0) (Fl f0) 0 F (Fl f0)).2.2.1 i) ∧ g1 114 = mob ad (nI (wn F.1)) (nI (wf (rn (FB f0) (Fl f0) 0 F (Fl f0)).2.2.1)) (nI (wh (rn (FB f0) (Fl f0) 0 F (Fl f0)).2.2.1)) (lN (wo (rn (FB f0) (Fl f0) 0 F (Fl f0)).2.2.1)) (nI (un)) la bo (nI (tp)) ft (nI (wr0)) (nI (wa)) (nI (at0)) (nI (sp)) (nI (tk)) vl (nI (fi)) (nI (nm)) (nI (dp)) wy ((rn (FB f0) (Fl f0) 0 F (Fl f0)).2.1) (nI (aP)) (nI (aF)) (nI (aH)) (lN aO) (nI (ps)) (nI (mn)) go (nI (vi)) ∧ g1 115 = .inl (cy 1, 8, .inl (fun x9 => nI (P2 x9))) ∧ (∀ j, j ≠ 114 → j ≠ 115 → g1 j = g j)) D ad N) [.ref (ad 114), .int (nI (f0)), .int (nI (0))].toArray s 0 0 (AA ad N)) (F0 m 7 ls []) := by
    intro fu
    induction fu with
    | zero => intro i F3 P3 hi hrn hF3 hP3 hn3 hms g_2 H locs h114_2 h115_2 hfr_2 hP hS ls hl; exact absurd hms (Nat.not_lt_zero _)
    | succ fu ih7 =>
      intro i F3 P3 hi hrn hF3 hP3 hn3 hms g_2 H locs h114_2 h115_2 hfr_2 hP hS ls hl
      have h122_2 : g_2 122 = .inl (cy 1, 8, .inl (fun x9 => nI (BY x9))) := (hfr_2 122 (by omega) (by omega)).trans hBY
      have h123_2 : g_2 123 = .inl (cy 1, 1600, .inl (fun x9 => nI (BS x9))) := (hfr_2 123 (by omega) (by omega)).trans hBS
      have h124_2 : g_2 124 = .inl (cy 1, 1600, .inl (fun x9 => nI (BN x9))) := (hfr_2 124 (by omega) (by omega)).trans hBN
      refine lv_iload_n hx hb dX10_goes_7 rfl (lv_at hl 0 rfl) ?_
      refine lv_aload_n hx hb dX10_goes_8 rfl (lv_at hl 1 rfl) ?_
      refine mg S hK hP (by omega) h114_2 fd_X10_42 rfl dX10_goes_9 ?_
      refine lv_iload_n hx hb dX10_goes_12 rfl (lv_at hl 2 rfl) ?_
      refine mial S hK hP (by omega) h122_2 (vp_in_nI (by omega) (by omega)) dX10_goes_13 ?_
      refine tpi (congrArg ((fun x9 => nI (BY x9))) (nI_clamp (by omega))) ?_
      refine tpi (congrArg nI hFRf.1) ?_
      refine lv_icmp_ge (tgt := 103) hx hb dX10_goes_14 (by decide) (fun c_14 => ?_) (fun c_14 => ?_)
      · skip
        have c_14 := (nI_leI (by omega) (by omega)).mp c_14
        refine lv_aload_n hx hb dX10_goes_103 rfl (lv_at hl 1 rfl) ?_
        refine mg S hK hP (by omega) h114_2 fd_X10_42 rfl dX10_goes_104 ?_
        refine lv_iload_n hx hb dX10_goes_107 rfl (lv_at hl 2 rfl) ?_
        refine mial S hK hP (by omega) h122_2 (vp_in_nI (by omega) (by omega)) dX10_goes_108 ?_
        refine tpi (congrArg ((fun x9 => nI (BY x9))) (nI_clamp (by omega))) ?_
        refine tpi (congrArg nI hFRf.1) ?_
        have ei : i = Fl f0 := by omega
        have hE : (rn (FB f0) (Fl f0) 0 F (Fl f0)) = (Fl f0, 0, F3) := by rw [ei] at hrn; exact hrn
        exact rMi S hr hlk hP hS ⟨_, (by rw [dnF_y hE]), (by rw [← hn3, hE]; exact hP3), (by rw [hE, ← hn3]; exact h114_2), h115_2, hfr_2⟩ dX10_goes_109
      · skip
        have c_14 := (not_congr (nI_leI (by omega) (by omega))).mp c_14
        have hb9 := hFRf.2.2 i (by omega)
        have hbt3 := hb9.2.2
        refine lv_aload_n hx hb dX10_goes_17 rfl (lv_at hl 1 rfl) ?_
        refine mg S hK hP (by omega) h114_2 fd_X10_45 rfl dX10_goes_18 ?_
        refine lv_sipush (v := nI (200)) hx hb dX10_goes_21 (by decide) ?_
        refine lv_iload_n hx hb dX10_goes_24 rfl (lv_at hl 2 rfl) ?_
        refine lv_imul hx hb dX10_goes_25 ?_
        refine tpi (pk_mul 200 f0) ?_
        refine lv_iload_n hx hb dX10_goes_26 rfl (lv_at hl 0 rfl) ?_
        refine lv_iadd hx hb dX10_goes_27 ?_
        refine tpi (nI_add (200 * f0) i) ?_
        refine mial S hK hP (by omega) h123_2 (vp_in_nI (by omega) (by omega)) dX10_goes_28 ?_
        refine tpi (congrArg ((fun x9 => nI (BS x9))) (nI_clamp (by omega))) ?_
        refine tpi (congrArg nI hb9.1) ?_
        refine lv_istore (lv' := [(4, .int (nI (FB f0 i / 8))), (3, .int (nI (i))), (0, .ref (ad 114)), (1, .int (nI (f0))), (2, .int (nI (0)))]) hx hb dX10_goes_29 hl (by decide) rfl (fun ls hl => ?_)
        refine lv_aload_n hx hb dX10_goes_31 rfl (lv_at hl 2 rfl) ?_
        refine mg S hK hP (by omega) h114_2 fd_X10_48 rfl dX10_goes_32 ?_
        refine lv_sipush (v := nI (200)) hx hb dX10_goes_35 (by decide) ?_
        refine lv_iload_n hx hb dX10_goes_38 rfl (lv_at hl 3 rfl) ?_
        refine lv_imul hx hb dX10_goes_39 ?_
        refine tpi (pk_mul 200 f0) ?_
        refine lv_iload_n hx hb dX10_goes_40 rfl (lv_at hl 1 rfl) ?_
        refine lv_iadd hx hb dX10_goes_41 ?_
        refine tpi (nI_add (200 * f0) i) ?_
        refine mial S hK hP (by omega) h124_2 (vp_in_nI (by omega) (by omega)) dX10_goes_42 ?_
        refine tpi (congrArg ((fun x9 => nI (BN x9))) (nI_clamp (by omega))) ?_
        refine tpi (congrArg nI hb9.2.1) ?_
        refine lv_istore (lv' := [(5, .int (nI (FB f0 i % 8))), (4, .int (nI (FB f0 i / 8))), (3, .int (nI (i))), (0, .ref (ad 114)), (1, .int (nI (f0))), (2, .int (nI (0)))]) hx hb dX10_goes_43 hl (by decide) rfl (fun ls hl => ?_)
        refine lv_iload hx hb dX10_goes_45 (lv_at hl 1 rfl) ?_
        refine lv_bipush (v := nI (6)) hx hb dX10_goes_47 (by decide) ?_
        have J79 : ∀ (a9 : Int32) (F4 : FS) (P4 : Nat → Nat), (beatF 0 (FB f0 i) F3 = (a9, F4)) → (FOK F4) → (∀ j, j < wn F4.1 → P4 j = wp F4.1 j) → (wn F4.1 = wn F3.1) → ∀ (g_3 : Nat → va_E) (H : Heap) (locs : List Loc), g_3 114 = mob ad (nI (wn F4.1)) (nI (wf F4.1)) (nI (wh F4.1)) (lN (wo F4.1)) (nI (un)) la bo (nI (tp)) ft (nI (wr0)) (nI (wa)) (nI (at0)) (nI (sp)) (nI (tk)) vl (nI (fi)) (nI (nm)) (nI (dp)) wy (nI (0)) (nI (aP)) (nI (aF)) (nI (aH)) (lN aO) (nI (ps)) (nI (mn)) go (nI (vi)) → g_3 115 = .inl (cy 1, 8, .inl (fun x9 => nI (P4 x9))) → (∀ j : Nat, j ≠ 114 → j ≠ 115 → g_3 j = g j) → MM D ad N g_3 H → va_S (AA ad N) s.heap H locs → ∀ (ls : Array Slot), lv_has ls 7 [(3, .int (nI (i))), (0, .ref (ad 114)), (1, .int (nI (f0))), (2, .int (nI (0)))] → W p l e (rmF 4 96) s m [.ref (ad 114), .int (nI (f0)), .int (nI (0))].toArray below meth c H locs 0 0 (MQ below (QI (fun r g1 => ∃ (P2 : Nat → Nat), (r = dnF (rn (FB f0) (Fl f0) 0 F (Fl f0))) ∧ (∀ i, i < wn F.1 → P2 i = wp (rn (FB f0) (Fl f0) 0 F (Fl f0)).2.2.1 i) ∧ g1 114 = mob ad (nI (wn F.1)) (nI (wf (rn (FB f0) (Fl f0) 0 F (Fl f0)).2.2.1)) (nI (wh (rn (FB f0) (Fl f0) 0 F (Fl f0)).2.2.1)) (lN (wo (rn (FB f0) (Fl f0) 0 F (Fl f0)).2.2.1)) (nI (un)) la bo (nI (tp)) ft (nI (wr0)) (nI (wa)) (nI (at0)) (nI (sp)) (nI (tk)) vl (nI (fi)) (nI (nm)) (nI (dp)) wy ((rn (FB f0) (Fl f0) 0 F (Fl f0)).2.1) (nI (aP)) (nI (aF)) (nI (aH)) (lN aO) (nI (ps)) (nI (mn)) go (nI (vi)) ∧ g1 115 = .inl (cy 1, 8, .inl (fun x9 => nI (P2 x9))) ∧ (∀ j, j ≠ 114 → j ≠ 115 → g1 j = g j)) D ad N) [.ref (ad 114), .int (nI (f0)), .int (nI (0))].toArray s 0 0 (AA ad N)) (F0 m 79 ls [.int a9]) := by
          intro a9 F4 P4 hbt hF4 hP4 hn4 g_3 H locs h114_3 h115_3 hfr_3 hP hS ls hl
          have h122_3 : g_3 122 = .inl (cy 1, 8, .inl (fun x9 => nI (BY x9))) := (hfr_3 122 (by omega) (by omega)).trans hBY
          have h123_3 : g_3 123 = .inl (cy 1, 1600, .inl (fun x9 => nI (BS x9))) := (hfr_3 123 (by omega) (by omega)).trans hBS
          have h124_3 : g_3 124 = .inl (cy 1, 1600, .inl (fun x9 => nI (BN x9))) := (hfr_3 124 (by omega) (by omega)).trans hBN
          refine lv_istore (lv' := [(6, .int a9), (3, .int (nI (i))), (0, .ref (ad 114)), (1, .int (nI (f0))), (2, .int (nI (0)))]) hx hb dX10_goes_79 hl (by decide) rfl (fun ls hl => ?_)
          refine lv_iload hx hb dX10_goes_81 (lv_at hl 0 rfl) ?_
          refine lv_if_ge (tgt := 97) hx hb dX10_goes_83 (by decide) (fun c_83 => ?_) (fun c_83 => ?_)
          · skip
            refine lv_iinc (v := nI (i + 1)) (lv' := [(3, .int (nI (i + 1))), (6, .int a9), (0, .ref (ad 114)), (1, .int (nI (f0))), (2, .int (nI (0)))]) hx hb dX10_goes_97 hl (k := 1) rfl (by exact nI_add i 1) (by decide) rfl (fun ls hl => ?_)
            refine lv_goto (tgt := 7) hx hb dX10_goes_100 (by decide) ?_
            exact ih7 (i + 1) F4 P4 (by omega) (rn_go hrn hbt (bt_1 hF3 hbt c_83)) hF4 hP4 (hn4.trans hn3) (by omega) g_3 _ _ h114_3 h115_3 hfr_3 hP hS _ (lv_sub hl [0, 2, 3, 4] rfl)
          · skip
            refine lv_aload_n hx hb dX10_goes_86 rfl (lv_at hl 2 rfl) ?_
            refine lv_iload hx hb dX10_goes_87 (lv_at hl 0 rfl) ?_
            refine mp S hK hP hI hS (by omega) h114_3 fd_X10_293 rfl rfl (Nat.le_of_ble_eq_true rfl) dX10_goes_89 (fun g_4 H locs eg_4 hP hS => ?_)
            have h114_4 : g_4 114 = mob ad (nI (wn F4.1)) (nI (wf F4.1)) (nI (wh F4.1)) (lN (wo F4.1)) (nI (un)) la bo (nI (tp)) ft (nI (wr0)) (nI (wa)) (nI (at0)) (nI (sp)) (nI (tk)) vl (nI (fi)) (nI (nm)) (nI (dp)) wy a9 (nI (aP)) (nI (aF)) (nI (aH)) (lN aO) (nI (ps)) (nI (mn)) go (nI (vi)) := by rw [eg_4, va_up_self]; exact rfl
            have h115_4 : g_4 115 = .inl (cy 1, 8, .inl (fun x9 => nI (P4 x9))) := ((congrFun eg_4 _).trans (va_up_ne _ _ (by omega))).trans h115_3
            have h122_4 : g_4 122 = .inl (cy 1, 8, .inl (fun x9 => nI (BY x9))) := ((congrFun eg_4 _).trans (va_up_ne _ _ (by omega))).trans h122_3
            have h123_4 : g_4 123 = .inl (cy 1, 1600, .inl (fun x9 => nI (BS x9))) := ((congrFun eg_4 _).trans (va_up_ne _ _ (by omega))).trans h123_3
            have h124_4 : g_4 124 = .inl (cy 1, 1600, .inl (fun x9 => nI (BN x9))) := ((congrFun eg_4 _).trans (va_up_ne _ _ (by omega))).trans h124_3
            have hfr_4 : ∀ j : Nat, j ≠ 114 → j ≠ 115 → g_4 j = g j := fun j n0 n1 => ((congrFun eg_4 _).trans (va_up_ne _ _ n0)).trans (hfr_3 j n0 n1)
            refine lv_bipush (v := (-100)) hx hb dX10_goes_92 (by decide) ?_
            refine lv_iload_n hx hb dX10_goes_94 rfl (lv_at hl 1 rfl) ?_
            refine lv_isub hx hb dX10_goes_95 ?_
            have hE := rn_end hrn hbt (bt_n hF3 hbt c_83) (by omega)
            have hnE := hn4.trans hn3
            exact rMi S hr hlk hP hS ⟨_, (by rw [dnF_n hE (bt_n hF3 hbt c_83).2]), (by rw [← hnE, hE]; exact hP4), (by rw [hE, ← hnE]; exact h114_4), h115_4, hfr_4⟩ dX10_goes_96
        refine lv_icmp_ne (tgt := 56) hx hb dX10_goes_49 (by decide) (fun c_49 => ?_) (fun c_49 => ?_)
        · skip
          have c_49 := (not_congr (nI_eq (by omega) (by omega))).mp c_49
          refine lv_iload_n hx hb dX10_goes_56 rfl (lv_at hl 5 rfl) ?_
          refine lv_if_eq (tgt := 71) hx hb dX10_goes_57 (by decide) (fun c_57 => ?_) (fun c_57 => ?_)
          · skip
            have c_57 := (z_eq (by omega)).mp c_57
            refine lv_aload_n hx hb dX10_goes_71 rfl (lv_at hl 3 rfl) ?_
            refine lv_iload hx hb dX10_goes_72 (lv_at hl 1 rfl) ?_
            refine lv_iload hx hb dX10_goes_74 (lv_at hl 0 rfl) ?_
            refine kMi (As := [.int (nI (FB f0 i / 8)), .int (nI (FB f0 i % 8))]) (rest := []) S hK hP hS (fun _ h => h) (c_X10_does l D cy ad N g_2 hinj (by omega) F3.1 un la bo tp ft wr0 wa at0 sp tk vl fi nm dp wy (nI (0)) aP aF aH aO ps mn go vi h114_2 P3 h115_2 hF3.1 hP3 (FB f0 i / 8) (by omega) (FB f0 i % 8) (by omega)) cv_X10_176 (by omega) h114_2 ⟨_, _, rfl⟩ ⟨rfl, rfl⟩ rfl hl.1 rfl (Nat.le_of_ble_eq_true rfl) ⟨Nat.zero_le _, Nat.zero_le _⟩ dX10_goes_76 (fun r_76 g_5 H locs q_5 hP hS => ?_)
            obtain ⟨P2_5, q_76, hP2_5, h114_5, h115_5, f_5⟩ := q_5
            subst q_76
            have h122_5 : g_5 122 = .inl (cy 1, 8, .inl (fun x9 => nI (BY x9))) := (f_5 122 (by omega) (by omega)).trans h122_2
            have h123_5 : g_5 123 = .inl (cy 1, 1600, .inl (fun x9 => nI (BS x9))) := (f_5 123 (by omega) (by omega)).trans h123_2
            have h124_5 : g_5 124 = .inl (cy 1, 1600, .inl (fun x9 => nI (BN x9))) := (f_5 124 (by omega) (by omega)).trans h124_2
            have hfr_5 : ∀ j : Nat, j ≠ 114 → j ≠ 115 → g_5 j = g j := fun j n0 n1 => (f_5 j n0 n1).trans (hfr_2 j n0 n1)
            exact J79 ((dsR F3.1 (FB f0 i / 8) (FB f0 i % 8)).1) ((atR F3 (FB f0 i / 8) (FB f0 i % 8)).2) P2_5 (by first | (rw [bt_at c_49 hbt3]; done) | (rw [bt_at c_49 hbt3]; rfl)) (atR_ok hF3).1 (by rw [(atR_ok (S := (FB f0 i / 8)) (K := (FB f0 i % 8)) hF3).2]; assumption) (atR_ok hF3).2 g_5 _ _ (by rw [(atR_ok (S := (FB f0 i / 8)) (K := (FB f0 i % 8)) hF3).2]; exact h114_5) h115_5 hfr_5 hP hS _ (lv_sub hl [2, 3, 4, 5] rfl)
          · skip
            have c_57 := (not_congr (z_eq (by omega))).mp c_57
            exact absurd c_57 (by decide)
        · skip
          have c_49 := (nI_eq (by omega) (by omega)).mp c_49
          refine lv_iconst (v := nI (1)) hx hb dX10_goes_52 (by decide) ?_
          refine lv_goto (tgt := 79) hx hb dX10_goes_53 (by decide) ?_
          exact J79 (nI 1) F3 P3 (bt_f6 c_49) hF3 hP3 rfl g_2 _ _ h114_2 h115_2 hfr_2 hP hS _ (lv_sub hl [2, 3, 4, 5] rfl)
  exact L7 ((Fl f0 - 0) + 1) 0 F P (by omega) rfl hF hPw rfl (Nat.lt_succ_self _) g_1 _ _ h114_1 h115_1 (fun j n0 n1 => hfr_1 j (by omega)) hP hS _ (lv_sub hl [0, 1, 2, 3] rfl)
set_option maxHeartbeats 4000000 in
set_option maxRecDepth 100000 in
theorem c_X10_goesBack1 (l : Launch) (D : va_G) (cy : Nat → ClassId) (ad : Nat → Nat) (N : Nat) (g : Nat → va_E) (hinj : ∀ i j : Nat, i < N → j < N → ad i = ad j → i = j) (hN : 145 ≤ N) (F : FS) (la : Int32) (bo : Int32) (tp : Nat) (ft : Int32) (wr0 : Nat) (wa : Nat) (at0 : Nat) (sp : Nat) (tk : Nat) (vl : Int32) (fi : Nat) (nm : Nat) (dp : Nat) (wy : Int32) (st : Int32) (aP : Nat) (aF : Nat) (aH : Nat) (aO : Nat) (ps : Nat) (mn : Nat) (go : Int32) (vi : Nat) (hM : g 114 = mob ad (nI (wn F.1)) (nI (wf F.1)) (nI (wh F.1)) (lN (wo F.1)) (nI (F.2.2.2)) la bo (nI (tp)) ft (nI (wr0)) (nI (wa)) (nI (at0)) (nI (sp)) (nI (tk)) vl (nI (fi)) (nI (nm)) (nI (dp)) wy st (nI (aP)) (nI (aF)) (nI (aH)) (lN aO) (nI (ps)) (nI (mn)) go (nI (vi))) (P : Nat → Nat) (hP9 : g 115 = .inl (cy 1, 8, .inl (fun x9 => nI (P x9)))) (hF : FOK F) (hPw : ∀ i, i < wn F.1 → P i = wp F.1 i) (OP : Nat → Nat) (hO1 : g 116 = .inl (cy 1, 12, .inl (fun x9 => nI (OP x9)))) (OF : Nat → Nat) (hO2 : g 117 = .inl (cy 1, 12, .inl (fun x9 => nI (OF x9)))) (OH : Nat → Nat) (hO3 : g 118 = .inl (cy 1, 12, .inl (fun x9 => nI (OH x9)))) (OO : Nat → Int64) (hO4 : g 119 = .inl (cy 2, 12, .inr (.inl OO))) (hUR : UR F OP OF OH OO) (BY : Nat → Nat) (hBY : g 122 = .inl (cy 1, 8, .inl (fun x9 => nI (BY x9)))) (BS : Nat → Nat) (hBS : g 123 = .inl (cy 1, 1600, .inl (fun x9 => nI (BS x9)))) (BN : Nat → Nat) (hBN : g 124 = .inl (cy 1, 1600, .inl (fun x9 => nI (BN x9)))) (Fl : Nat → Nat) (FB : Nat → Nat → Nat) (hfi : fi ≤ 8) (hFR : FR fi BY BS BN Fl FB) (f0 : Nat) (hf0 : f0 < fi) : Met l yX10_goesBack (WS yX10_goesBack cX10_goesBack 9 (some .int)) (rmF 5 129) (PP [.ref (ad 114), .int (nI (f0)), .int (nI (1))] D cy ad N g) (QI (fun r g1 => ∃ (P2 : Nat → Nat), ∃ (OP2 : Nat → Nat), ∃ (OF2 : Nat → Nat), ∃ (OH2 : Nat → Nat), ∃ (OO2 : Nat → Int64), (r = dnF (rn (FB f0) (Fl f0) 1 F (Fl f0))) ∧ (∀ i, i < wn F.1 → P2 i = wp (rn (FB f0) (Fl f0) 1 F (Fl f0)).2.2.1 i) ∧ (UR (rn (FB f0) (Fl f0) 1 F (Fl f0)).2.2 OP2 OF2 OH2 OO2) ∧ g1 114 = mob ad (nI (wn F.1)) (nI (wf (rn (FB f0) (Fl f0) 1 F (Fl f0)).2.2.1)) (nI (wh (rn (FB f0) (Fl f0) 1 F (Fl f0)).2.2.1)) (lN (wo (rn (FB f0) (Fl f0) 1 F (Fl f0)).2.2.1)) (nI ((rn (FB f0) (Fl f0) 1 F (Fl f0)).2.2.2.2.2)) la bo (nI (tp)) ft (nI (wr0)) (nI (wa)) (nI (at0)) (nI (sp)) (nI (tk)) vl (nI (fi)) (nI (nm)) (nI (dp)) wy ((rn (FB f0) (Fl f0) 1 F (Fl f0)).2.1) (nI (aP)) (nI (aF)) (nI (aH)) (lN aO) (nI (ps)) (nI (mn)) go (nI (vi)) ∧ g1 115 = .inl (cy 1, 8, .inl (fun x9 => nI (P2 x9))) ∧ g1 116 = .inl (cy 1, 12, .inl (fun x9 => nI (OP2 x9))) ∧ g1 117 = .inl (cy 1, 12, .inl (fun x9 => nI (OF2 x9))) ∧ g1 118 = .inl (cy 1, 12, .inl (fun x9 => nI (OH2 x9))) ∧ g1 119 = .inl (cy 2, 12, .inr (.inl OO2)) ∧ (∀ j, j ≠ 114 → j ≠ 115 → j ≠ 116 → j ≠ 117 → j ≠ 118 → j ≠ 119 → g1 j = g j)) D ad N) 0 0 (AA ad N) := by
  refine mentry (by decide) (Nat.le_of_ble_eq_true rfl) (fun p e s m below meth c ls S hr hlk hnm hP hK hl => ?_)
  have S : CallFix p m c cX10_goesBack 9 s _ wsL_law RX10 := S
  have hx := S.1
  have hb := S.2.1
  have hl : lv_has ls 9 [(0, .ref (ad 114)), (1, .int (nI (f0))), (2, .int (nI (1)))] := hl
  have hI : MD (AA ad N) ad N := MD.in hinj
  have hS : va_S (AA ad N) s.heap s.heap [] := va_S.rf
  have hfr : ∀ j : Nat, g j = g j := fun _ => rfl
  have hFRf := hFR f0 hf0
  refine lv_aload_n hx hb dX10_goesBack_0 rfl (lv_at hl 0 rfl) ?_
  refine lv_iconst (v := nI (0)) hx hb dX10_goesBack_1 (by decide) ?_
  refine mp S hK hP hI hS (by omega) hM fd_X10_293 rfl rfl (Nat.le_of_ble_eq_true rfl) dX10_goesBack_2 (fun g_1 H locs eg_1 hP hS => ?_)
  have h114_1 : g_1 114 = mob ad (nI (wn F.1)) (nI (wf F.1)) (nI (wh F.1)) (lN (wo F.1)) (nI (F.2.2.2)) la bo (nI (tp)) ft (nI (wr0)) (nI (wa)) (nI (at0)) (nI (sp)) (nI (tk)) vl (nI (fi)) (nI (nm)) (nI (dp)) wy (nI (0)) (nI (aP)) (nI (aF)) (nI (aH)) (lN aO) (nI (ps)) (nI (mn)) go (nI (vi)) := by rw [eg_1, va_up_self]; exact rfl
  have h115_1 : g_1 115 = .inl (cy 1, 8, .inl (fun x9 => nI (P x9))) := ((congrFun eg_1 _).trans (va_up_ne _ _ (by omega))).trans hP9
  have h116_1 : g_1 116 = .inl (cy 1, 12, .inl (fun x9 => nI (OP x9))) := ((congrFun eg_1 _).trans (va_up_ne _ _ (by omega))).trans hO1
  have h117_1 : g_1 117 = .inl (cy 1, 12, .inl (fun x9 => nI (OF x9))) := ((congrFun eg_1 _).trans (va_up_ne _ _ (by omega))).trans hO2
  have h118_1 : g_1 118 = .inl (cy 1, 12, .inl (fun x9 => nI (OH x9))) := ((congrFun eg_1 _).trans (va_up_ne _ _ (by omega))).trans hO3
  have h119_1 : g_1 119 = .inl (cy 2, 12, .inr (.inl OO)) := ((congrFun eg_1 _).trans (va_up_ne _ _ (by omega))).trans hO4
  have h122_1 : g_1 122 = .inl (cy 1, 8, .inl (fun x9 => nI (BY x9))) := ((congrFun eg_1 _).trans (va_up_ne _ _ (by omega))).trans hBY
  have h123_1 : g_1 123 = .inl (cy 1, 1600, .inl (fun x9 => nI (BS x9))) := ((congrFun eg_1 _).trans (va_up_ne _ _ (by omega))).trans hBS
  have h124_1 : g_1 124 = .inl (cy 1, 1600, .inl (fun x9 => nI (BN x9))) := ((congrFun eg_1 _).trans (va_up_ne _ _ (by omega))).trans hBN
  have hfr_1 : ∀ j : Nat, j ≠ 114 → g_1 j = g j := fun j n0 => ((congrFun eg_1 _).trans (va_up_ne _ _ n0)).trans (hfr j )
  refine lv_iconst (v := nI (0)) hx hb dX10_goesBack_5 (by decide) ?_
  refine lv_istore_n (lv' := [(3, .int (nI (0))), (0, .ref (ad 114)), (1, .int (nI (f0))), (2, .int (nI (1)))]) hx hb dX10_goesBack_6 rfl hl (by decide) rfl (fun ls hl => ?_)
  have L7 : ∀ (fu : Nat) (i : Nat) (F3 : FS) (P3 : Nat → Nat) (OP3 OF3 OH3 : Nat → Nat) (OO3 : Nat → Int64), (i ≤ Fl f0) → (rn (FB f0) (Fl f0) 1 F i = (i, 0, F3)) → (FOK F3) → (∀ j, j < wn F3.1 → P3 j = wp F3.1 j) → (UR F3 OP3 OF3 OH3 OO3) → (wn F3.1 = wn F.1) → (Fl f0 - i) < fu → ∀ (g_2 : Nat → va_E) (H : Heap) (locs : List Loc), g_2 114 = mob ad (nI (wn F3.1)) (nI (wf F3.1)) (nI (wh F3.1)) (lN (wo F3.1)) (nI (F3.2.2.2)) la bo (nI (tp)) ft (nI (wr0)) (nI (wa)) (nI (at0)) (nI (sp)) (nI (tk)) vl (nI (fi)) (nI (nm)) (nI (dp)) wy (nI (0)) (nI (aP)) (nI (aF)) (nI (aH)) (lN aO) (nI (ps)) (nI (mn)) go (nI (vi)) → g_2 115 = .inl (cy 1, 8, .inl (fun x9 => nI (P3 x9))) → g_2 116 = .inl (cy 1, 12, .inl (fun x9 => nI (OP3 x9))) → g_2 117 = .inl (cy 1, 12, .inl (fun x9 => nI (OF3 x9))) → g_2 118 = .inl (cy 1, 12, .inl (fun x9 => nI (OH3 x9))) → g_2 119 = .inl (cy 2, 12, .inr (.inl OO3)) → (∀ j : Nat, j ≠ 114 → j ≠ 115 → j ≠ 116 → j ≠ 117 → j ≠ 118 → j ≠ 119 → g_2 j = g j) → MM D ad N g_2 H → va_S (AA ad N) s.heap H locs → ∀ (ls : Array Slot), lv_has ls 9 [(3, .int (nI (i))), (0, .ref (ad 114)), (1, .int (nI (f0))), (2, .int (nI (1)))] → W p l e (rmF 5 129) s m [.ref (ad 114), .int (nI (f0)), .int (nI (1))].toArray below meth c H locs 0 0 (MQ below (QI (fun r g1 => ∃ (P2 : Nat → Nat), ∃ (OP2 : Nat → Nat), ∃ (OF2 : Nat → Nat), ∃ (OH2 : Nat → Nat), ∃ (OO2 : Nat → Int64), (r = dnF (rn (FB f0) (Fl f0) 1 F (Fl f0))) ∧ (∀ i, i < wn F.1 → P2 i = wp (rn (FB f0) (Fl f0) 1 F (Fl f0)).2.2.1 i) ∧ (UR (rn (FB f0) (Fl f0) 1 F (Fl f0)).2.2 OP2 OF2 OH2 OO2) ∧ g1 114 = mob ad (nI (wn F.1)) (nI (wf (rn (FB f0) (Fl f0) 1 F (Fl f0)).2.2.1)) (nI (wh (rn (FB f0) (Fl f0) 1 F (Fl f0)).2.2.1)) (lN (wo (rn (FB f0) (Fl f0) 1 F (Fl f0)).2.2.1)) (nI ((rn (FB f0) (Fl f0) 1 F (Fl f0)).2.2.2.2.2)) la bo (nI (tp)) ft (nI (wr0)) (nI (wa)) (nI (at0)) (nI (sp)) (nI (tk)) vl (nI (fi)) (nI (nm)) (nI (dp)) wy ((rn (FB f0) (Fl f0) 1 F (Fl f0)).2.1) (nI (aP)) (nI (aF)) (nI (aH)) (lN aO) (nI (ps)) (nI (mn)) go (nI (vi)) ∧ g1 115 = .inl (cy 1, 8, .inl (fun x9 => nI (P2 x9))) ∧ g1 116 = .inl (cy 1, 12, .inl (fun x9 => nI (OP2 x9))) ∧ g1 117 = .inl (cy 1, 12, .inl (fun x9 => nI (OF2 x9))) ∧ g1 118 = .inl (cy 1, 12, .inl (fun x9 => nI (OH2 x9))) ∧ g1 119 = .inl (cy 2, 12, .inr (.inl OO2)) ∧ (∀ j, j ≠ 114 → j ≠ 115 → j ≠ 116 → j ≠ 117 → j ≠ 118 → j ≠ 119 → g1 j = g j)) D ad N) [.ref (ad 114), .int (nI (f0)), .int (nI (1))].toArray s 0 0 (AA ad N)) (F0 m 7 ls []) := by
    intro fu
    induction fu with
    | zero => intro i F3 P3 OP3 OF3 OH3 OO3 hi hrn hF3 hP3 hUR3 hn3 hms g_2 H locs h114_2 h115_2 h116_2 h117_2 h118_2 h119_2 hfr_2 hP hS ls hl; exact absurd hms (Nat.not_lt_zero _)
    | succ fu ih7 =>
      intro i F3 P3 OP3 OF3 OH3 OO3 hi hrn hF3 hP3 hUR3 hn3 hms g_2 H locs h114_2 h115_2 h116_2 h117_2 h118_2 h119_2 hfr_2 hP hS ls hl
      have h122_2 : g_2 122 = .inl (cy 1, 8, .inl (fun x9 => nI (BY x9))) := (hfr_2 122 (by omega) (by omega) (by omega) (by omega) (by omega) (by omega)).trans hBY
      have h123_2 : g_2 123 = .inl (cy 1, 1600, .inl (fun x9 => nI (BS x9))) := (hfr_2 123 (by omega) (by omega) (by omega) (by omega) (by omega) (by omega)).trans hBS
      have h124_2 : g_2 124 = .inl (cy 1, 1600, .inl (fun x9 => nI (BN x9))) := (hfr_2 124 (by omega) (by omega) (by omega) (by omega) (by omega) (by omega)).trans hBN
      refine lv_iload_n hx hb dX10_goesBack_7 rfl (lv_at hl 0 rfl) ?_
      refine lv_aload_n hx hb dX10_goesBack_8 rfl (lv_at hl 1 rfl) ?_
      refine mg S hK hP (by omega) h114_2 fd_X10_42 rfl dX10_goesBack_9 ?_
      refine lv_iload_n hx hb dX10_goesBack_12 rfl (lv_at hl 2 rfl) ?_
      refine mial S hK hP (by omega) h122_2 (vp_in_nI (by omega) (by omega)) dX10_goesBack_13 ?_
      refine tpi (congrArg ((fun x9 => nI (BY x9))) (nI_clamp (by omega))) ?_
      refine tpi (congrArg nI hFRf.1) ?_
      refine lv_icmp_ge (tgt := 175) hx hb dX10_goesBack_14 (by decide) (fun c_14 => ?_) (fun c_14 => ?_)
      · skip
        have c_14 := (nI_leI (by omega) (by omega)).mp c_14
        refine lv_aload_n hx hb dX10_goesBack_175 rfl (lv_at hl 1 rfl) ?_
        refine mg S hK hP (by omega) h114_2 fd_X10_42 rfl dX10_goesBack_176 ?_
        refine lv_iload_n hx hb dX10_goesBack_179 rfl (lv_at hl 2 rfl) ?_
        refine mial S hK hP (by omega) h122_2 (vp_in_nI (by omega) (by omega)) dX10_goesBack_180 ?_
        refine tpi (congrArg ((fun x9 => nI (BY x9))) (nI_clamp (by omega))) ?_
        refine tpi (congrArg nI hFRf.1) ?_
        have ei : i = Fl f0 := by omega
        have hE : (rn (FB f0) (Fl f0) 1 F (Fl f0)) = (Fl f0, 0, F3) := by rw [ei] at hrn; exact hrn
        exact rMi S hr hlk hP hS ⟨_, _, _, _, _, (by rw [dnF_y hE]), (by rw [← hn3, hE]; exact hP3), (by rw [hE]; exact hUR3), (by rw [hE, ← hn3]; exact h114_2), h115_2, h116_2, h117_2, h118_2, h119_2, hfr_2⟩ dX10_goesBack_181
      · skip
        have c_14 := (not_congr (nI_leI (by omega) (by omega))).mp c_14
        obtain ⟨jj, hjj⟩ : ∃ jj, jj = Fl f0 - 1 - i := ⟨_, rfl⟩
        have hjl : jj < Fl f0 := by omega
        have hb9 := hFRf.2.2 jj (by omega)
        have hbt3 := hb9.2.2
        refine lv_sipush (v := nI (200)) hx hb dX10_goesBack_17 (by decide) ?_
        refine lv_iload_n hx hb dX10_goesBack_20 rfl (lv_at hl 2 rfl) ?_
        refine lv_imul hx hb dX10_goesBack_21 ?_
        refine tpi (pk_mul 200 f0) ?_
        refine lv_aload_n hx hb dX10_goesBack_22 rfl (lv_at hl 1 rfl) ?_
        refine mg S hK hP (by omega) h114_2 fd_X10_42 rfl dX10_goesBack_23 ?_
        refine lv_iload_n hx hb dX10_goesBack_26 rfl (lv_at hl 2 rfl) ?_
        refine mial S hK hP (by omega) h122_2 (vp_in_nI (by omega) (by omega)) dX10_goesBack_27 ?_
        refine tpi (congrArg ((fun x9 => nI (BY x9))) (nI_clamp (by omega))) ?_
        refine tpi (congrArg nI hFRf.1) ?_
        refine lv_iadd hx hb dX10_goesBack_28 ?_
        refine tpi (nI_add (200 * f0) (Fl f0)) ?_
        refine lv_iconst (v := nI (1)) hx hb dX10_goesBack_29 (by decide) ?_
        refine lv_isub hx hb dX10_goesBack_30 ?_
        refine tpi (pk_sub (a := (200 * f0) + Fl f0) (b := 1) (by omega)) ?_
        refine lv_iload_n hx hb dX10_goesBack_31 rfl (lv_at hl 0 rfl) ?_
        refine lv_isub hx hb dX10_goesBack_32 ?_
        refine tpi (pk_sub (a := ((200 * f0) + Fl f0) - 1) (b := i) (by omega)) ?_
        refine tpi (congrArg nI (show 200 * f0 + Fl f0 - 1 - i = 200 * f0 + jj by omega)) ?_
        refine lv_istore (lv' := [(4, .int (nI (200 * f0 + jj))), (3, .int (nI (i))), (0, .ref (ad 114)), (1, .int (nI (f0))), (2, .int (nI (1)))]) hx hb dX10_goesBack_33 hl (by decide) rfl (fun ls hl => ?_)
        refine lv_aload_n hx hb dX10_goesBack_35 rfl (lv_at hl 2 rfl) ?_
        refine mg S hK hP (by omega) h114_2 fd_X10_45 rfl dX10_goesBack_36 ?_
        refine lv_iload hx hb dX10_goesBack_39 (lv_at hl 0 rfl) ?_
        refine mial S hK hP (by omega) h123_2 (vp_in_nI (by omega) (by omega)) dX10_goesBack_41 ?_
        refine tpi (congrArg ((fun x9 => nI (BS x9))) (nI_clamp (by omega))) ?_
        refine tpi (congrArg nI hb9.1) ?_
        refine lv_istore (lv' := [(5, .int (nI (FB f0 jj / 8))), (4, .int (nI (200 * f0 + jj))), (3, .int (nI (i))), (0, .ref (ad 114)), (1, .int (nI (f0))), (2, .int (nI (1)))]) hx hb dX10_goesBack_42 hl (by decide) rfl (fun ls hl => ?_)
        have J76 : ∀ (z1 : Nat), (z1 = tbk (FB f0 jj / 8)) → ∀ (ls : Array Slot), lv_has ls 9 [(5, .int (nI (FB f0 jj / 8))), (4, .int (nI (200 * f0 + jj))), (3, .int (nI (i))), (0, .ref (ad 114)), (1, .int (nI (f0))), (2, .int (nI (1)))] → W p l e (rmF 5 129) s m [.ref (ad 114), .int (nI (f0)), .int (nI (1))].toArray below meth c H locs 0 0 (MQ below (QI (fun r g1 => ∃ (P2 : Nat → Nat), ∃ (OP2 : Nat → Nat), ∃ (OF2 : Nat → Nat), ∃ (OH2 : Nat → Nat), ∃ (OO2 : Nat → Int64), (r = dnF (rn (FB f0) (Fl f0) 1 F (Fl f0))) ∧ (∀ i, i < wn F.1 → P2 i = wp (rn (FB f0) (Fl f0) 1 F (Fl f0)).2.2.1 i) ∧ (UR (rn (FB f0) (Fl f0) 1 F (Fl f0)).2.2 OP2 OF2 OH2 OO2) ∧ g1 114 = mob ad (nI (wn F.1)) (nI (wf (rn (FB f0) (Fl f0) 1 F (Fl f0)).2.2.1)) (nI (wh (rn (FB f0) (Fl f0) 1 F (Fl f0)).2.2.1)) (lN (wo (rn (FB f0) (Fl f0) 1 F (Fl f0)).2.2.1)) (nI ((rn (FB f0) (Fl f0) 1 F (Fl f0)).2.2.2.2.2)) la bo (nI (tp)) ft (nI (wr0)) (nI (wa)) (nI (at0)) (nI (sp)) (nI (tk)) vl (nI (fi)) (nI (nm)) (nI (dp)) wy ((rn (FB f0) (Fl f0) 1 F (Fl f0)).2.1) (nI (aP)) (nI (aF)) (nI (aH)) (lN aO) (nI (ps)) (nI (mn)) go (nI (vi)) ∧ g1 115 = .inl (cy 1, 8, .inl (fun x9 => nI (P2 x9))) ∧ g1 116 = .inl (cy 1, 12, .inl (fun x9 => nI (OP2 x9))) ∧ g1 117 = .inl (cy 1, 12, .inl (fun x9 => nI (OF2 x9))) ∧ g1 118 = .inl (cy 1, 12, .inl (fun x9 => nI (OH2 x9))) ∧ g1 119 = .inl (cy 2, 12, .inr (.inl OO2)) ∧ (∀ j, j ≠ 114 → j ≠ 115 → j ≠ 116 → j ≠ 117 → j ≠ 118 → j ≠ 119 → g1 j = g j)) D ad N) [.ref (ad 114), .int (nI (f0)), .int (nI (1))].toArray s 0 0 (AA ad N)) (F0 m 76 ls [.int (nI (z1))]) := by
          intro z1 hz1 ls hl
          refine lv_istore (lv' := [(6, .int (nI (z1))), (5, .int (nI (FB f0 jj / 8))), (4, .int (nI (200 * f0 + jj))), (3, .int (nI (i))), (0, .ref (ad 114)), (1, .int (nI (f0))), (2, .int (nI (1)))]) hx hb dX10_goesBack_76 hl (by decide) rfl (fun ls hl => ?_)
          have J95 : ∀ (z2 : Nat), (z2 = if (FB f0 jj / 8 = 4 ∨ FB f0 jj / 8 = 5) then 1 else 0) → (z2 < 2) → ∀ (ls : Array Slot), lv_has ls 9 [(6, .int (nI (z1))), (5, .int (nI (FB f0 jj / 8))), (4, .int (nI (200 * f0 + jj))), (3, .int (nI (i))), (0, .ref (ad 114)), (1, .int (nI (f0))), (2, .int (nI (1)))] → W p l e (rmF 5 129) s m [.ref (ad 114), .int (nI (f0)), .int (nI (1))].toArray below meth c H locs 0 0 (MQ below (QI (fun r g1 => ∃ (P2 : Nat → Nat), ∃ (OP2 : Nat → Nat), ∃ (OF2 : Nat → Nat), ∃ (OH2 : Nat → Nat), ∃ (OO2 : Nat → Int64), (r = dnF (rn (FB f0) (Fl f0) 1 F (Fl f0))) ∧ (∀ i, i < wn F.1 → P2 i = wp (rn (FB f0) (Fl f0) 1 F (Fl f0)).2.2.1 i) ∧ (UR (rn (FB f0) (Fl f0) 1 F (Fl f0)).2.2 OP2 OF2 OH2 OO2) ∧ g1 114 = mob ad (nI (wn F.1)) (nI (wf (rn (FB f0) (Fl f0) 1 F (Fl f0)).2.2.1)) (nI (wh (rn (FB f0) (Fl f0) 1 F (Fl f0)).2.2.1)) (lN (wo (rn (FB f0) (Fl f0) 1 F (Fl f0)).2.2.1)) (nI ((rn (FB f0) (Fl f0) 1 F (Fl f0)).2.2.2.2.2)) la bo (nI (tp)) ft (nI (wr0)) (nI (wa)) (nI (at0)) (nI (sp)) (nI (tk)) vl (nI (fi)) (nI (nm)) (nI (dp)) wy ((rn (FB f0) (Fl f0) 1 F (Fl f0)).2.1) (nI (aP)) (nI (aF)) (nI (aH)) (lN aO) (nI (ps)) (nI (mn)) go (nI (vi)) ∧ g1 115 = .inl (cy 1, 8, .inl (fun x9 => nI (P2 x9))) ∧ g1 116 = .inl (cy 1, 12, .inl (fun x9 => nI (OP2 x9))) ∧ g1 117 = .inl (cy 1, 12, .inl (fun x9 => nI (OF2 x9))) ∧ g1 118 = .inl (cy 1, 12, .inl (fun x9 => nI (OH2 x9))) ∧ g1 119 = .inl (cy 2, 12, .inr (.inl OO2)) ∧ (∀ j, j ≠ 114 → j ≠ 115 → j ≠ 116 → j ≠ 117 → j ≠ 118 → j ≠ 119 → g1 j = g j)) D ad N) [.ref (ad 114), .int (nI (f0)), .int (nI (1))].toArray s 0 0 (AA ad N)) (F0 m 95 ls [.int (nI (z2))]) := by
            intro z2 hz2q hz2b ls hl
            refine lv_istore (lv' := [(7, .int (nI (z2))), (6, .int (nI (z1))), (5, .int (nI (FB f0 jj / 8))), (4, .int (nI (200 * f0 + jj))), (3, .int (nI (i))), (0, .ref (ad 114)), (1, .int (nI (f0))), (2, .int (nI (1)))]) hx hb dX10_goesBack_95 hl (by decide) rfl (fun ls hl => ?_)
            refine lv_iload hx hb dX10_goesBack_97 (lv_at hl 2 rfl) ?_
            refine lv_bipush (v := nI (6)) hx hb dX10_goesBack_99 (by decide) ?_
            have J151 : ∀ (a9 : Int32) (F4 : FS) (P4 : Nat → Nat) (OP4 OF4 OH4 : Nat → Nat) (OO4 : Nat → Int64), (beatF 1 (FB f0 jj) F3 = (a9, F4)) → (FOK F4) → (∀ j, j < wn F4.1 → P4 j = wp F4.1 j) → (UR F4 OP4 OF4 OH4 OO4) → (wn F4.1 = wn F3.1) → ∀ (g_3 : Nat → va_E) (H : Heap) (locs : List Loc), g_3 114 = mob ad (nI (wn F4.1)) (nI (wf F4.1)) (nI (wh F4.1)) (lN (wo F4.1)) (nI (F4.2.2.2)) la bo (nI (tp)) ft (nI (wr0)) (nI (wa)) (nI (at0)) (nI (sp)) (nI (tk)) vl (nI (fi)) (nI (nm)) (nI (dp)) wy (nI (0)) (nI (aP)) (nI (aF)) (nI (aH)) (lN aO) (nI (ps)) (nI (mn)) go (nI (vi)) → g_3 115 = .inl (cy 1, 8, .inl (fun x9 => nI (P4 x9))) → g_3 116 = .inl (cy 1, 12, .inl (fun x9 => nI (OP4 x9))) → g_3 117 = .inl (cy 1, 12, .inl (fun x9 => nI (OF4 x9))) → g_3 118 = .inl (cy 1, 12, .inl (fun x9 => nI (OH4 x9))) → g_3 119 = .inl (cy 2, 12, .inr (.inl OO4)) → (∀ j : Nat, j ≠ 114 → j ≠ 115 → j ≠ 116 → j ≠ 117 → j ≠ 118 → j ≠ 119 → g_3 j = g j) → MM D ad N g_3 H → va_S (AA ad N) s.heap H locs → ∀ (ls : Array Slot), lv_has ls 9 [(4, .int (nI (200 * f0 + jj))), (3, .int (nI (i))), (0, .ref (ad 114)), (1, .int (nI (f0))), (2, .int (nI (1)))] → W p l e (rmF 5 129) s m [.ref (ad 114), .int (nI (f0)), .int (nI (1))].toArray below meth c H locs 0 0 (MQ below (QI (fun r g1 => ∃ (P2 : Nat → Nat), ∃ (OP2 : Nat → Nat), ∃ (OF2 : Nat → Nat), ∃ (OH2 : Nat → Nat), ∃ (OO2 : Nat → Int64), (r = dnF (rn (FB f0) (Fl f0) 1 F (Fl f0))) ∧ (∀ i, i < wn F.1 → P2 i = wp (rn (FB f0) (Fl f0) 1 F (Fl f0)).2.2.1 i) ∧ (UR (rn (FB f0) (Fl f0) 1 F (Fl f0)).2.2 OP2 OF2 OH2 OO2) ∧ g1 114 = mob ad (nI (wn F.1)) (nI (wf (rn (FB f0) (Fl f0) 1 F (Fl f0)).2.2.1)) (nI (wh (rn (FB f0) (Fl f0) 1 F (Fl f0)).2.2.1)) (lN (wo (rn (FB f0) (Fl f0) 1 F (Fl f0)).2.2.1)) (nI ((rn (FB f0) (Fl f0) 1 F (Fl f0)).2.2.2.2.2)) la bo (nI (tp)) ft (nI (wr0)) (nI (wa)) (nI (at0)) (nI (sp)) (nI (tk)) vl (nI (fi)) (nI (nm)) (nI (dp)) wy ((rn (FB f0) (Fl f0) 1 F (Fl f0)).2.1) (nI (aP)) (nI (aF)) (nI (aH)) (lN aO) (nI (ps)) (nI (mn)) go (nI (vi)) ∧ g1 115 = .inl (cy 1, 8, .inl (fun x9 => nI (P2 x9))) ∧ g1 116 = .inl (cy 1, 12, .inl (fun x9 => nI (OP2 x9))) ∧ g1 117 = .inl (cy 1, 12, .inl (fun x9 => nI (OF2 x9))) ∧ g1 118 = .inl (cy 1, 12, .inl (fun x9 => nI (OH2 x9))) ∧ g1 119 = .inl (cy 2, 12, .inr (.inl OO2)) ∧ (∀ j, j ≠ 114 → j ≠ 115 → j ≠ 116 → j ≠ 117 → j ≠ 118 → j ≠ 119 → g1 j = g j)) D ad N) [.ref (ad 114), .int (nI (f0)), .int (nI (1))].toArray s 0 0 (AA ad N)) (F0 m 151 ls [.int a9]) := by
              intro a9 F4 P4 OP4 OF4 OH4 OO4 hbt hF4 hP4 hUR4 hn4 g_3 H locs h114_3 h115_3 h116_3 h117_3 h118_3 h119_3 hfr_3 hP hS ls hl
              have h122_3 : g_3 122 = .inl (cy 1, 8, .inl (fun x9 => nI (BY x9))) := (hfr_3 122 (by omega) (by omega) (by omega) (by omega) (by omega) (by omega)).trans hBY
              have h123_3 : g_3 123 = .inl (cy 1, 1600, .inl (fun x9 => nI (BS x9))) := (hfr_3 123 (by omega) (by omega) (by omega) (by omega) (by omega) (by omega)).trans hBS
              have h124_3 : g_3 124 = .inl (cy 1, 1600, .inl (fun x9 => nI (BN x9))) := (hfr_3 124 (by omega) (by omega) (by omega) (by omega) (by omega) (by omega)).trans hBN
              refine lv_istore (lv' := [(8, .int a9), (4, .int (nI (200 * f0 + jj))), (3, .int (nI (i))), (0, .ref (ad 114)), (1, .int (nI (f0))), (2, .int (nI (1)))]) hx hb dX10_goesBack_151 hl (by decide) rfl (fun ls hl => ?_)
              refine lv_iload hx hb dX10_goesBack_153 (lv_at hl 0 rfl) ?_
              refine lv_if_ge (tgt := 169) hx hb dX10_goesBack_155 (by decide) (fun c_155 => ?_) (fun c_155 => ?_)
              · skip
                refine lv_iinc (v := nI (i + 1)) (lv' := [(3, .int (nI (i + 1))), (8, .int a9), (4, .int (nI (200 * f0 + jj))), (0, .ref (ad 114)), (1, .int (nI (f0))), (2, .int (nI (1)))]) hx hb dX10_goesBack_169 hl (k := 2) rfl (by exact nI_add i 1) (by decide) rfl (fun ls hl => ?_)
                refine lv_goto (tgt := 7) hx hb dX10_goesBack_172 (by decide) ?_
                exact ih7 (i + 1) F4 P4 OP4 OF4 OH4 OO4 (by omega) (rn_go hrn (by unfold bix; rw [if_neg (by decide), ← hjj]; exact hbt) (bt_1 hF3 hbt c_155)) hF4 hP4 hUR4 (hn4.trans hn3) (by omega) g_3 _ _ h114_3 h115_3 h116_3 h117_3 h118_3 h119_3 hfr_3 hP hS _ (lv_sub hl [0, 3, 4, 5] rfl)
              · skip
                refine lv_aload_n hx hb dX10_goesBack_158 rfl (lv_at hl 3 rfl) ?_
                refine lv_iload hx hb dX10_goesBack_159 (lv_at hl 0 rfl) ?_
                refine mp S hK hP hI hS (by omega) h114_3 fd_X10_293 rfl rfl (Nat.le_of_ble_eq_true rfl) dX10_goesBack_161 (fun g_4 H locs eg_4 hP hS => ?_)
                have h114_4 : g_4 114 = mob ad (nI (wn F4.1)) (nI (wf F4.1)) (nI (wh F4.1)) (lN (wo F4.1)) (nI (F4.2.2.2)) la bo (nI (tp)) ft (nI (wr0)) (nI (wa)) (nI (at0)) (nI (sp)) (nI (tk)) vl (nI (fi)) (nI (nm)) (nI (dp)) wy a9 (nI (aP)) (nI (aF)) (nI (aH)) (lN aO) (nI (ps)) (nI (mn)) go (nI (vi)) := by rw [eg_4, va_up_self]; exact rfl
                have h115_4 : g_4 115 = .inl (cy 1, 8, .inl (fun x9 => nI (P4 x9))) := ((congrFun eg_4 _).trans (va_up_ne _ _ (by omega))).trans h115_3
                have h116_4 : g_4 116 = .inl (cy 1, 12, .inl (fun x9 => nI (OP4 x9))) := ((congrFun eg_4 _).trans (va_up_ne _ _ (by omega))).trans h116_3
                have h117_4 : g_4 117 = .inl (cy 1, 12, .inl (fun x9 => nI (OF4 x9))) := ((congrFun eg_4 _).trans (va_up_ne _ _ (by omega))).trans h117_3
                have h118_4 : g_4 118 = .inl (cy 1, 12, .inl (fun x9 => nI (OH4 x9))) := ((congrFun eg_4 _).trans (va_up_ne _ _ (by omega))).trans h118_3
                have h119_4 : g_4 119 = .inl (cy 2, 12, .inr (.inl OO4)) := ((congrFun eg_4 _).trans (va_up_ne _ _ (by omega))).trans h119_3
                have h122_4 : g_4 122 = .inl (cy 1, 8, .inl (fun x9 => nI (BY x9))) := ((congrFun eg_4 _).trans (va_up_ne _ _ (by omega))).trans h122_3
                have h123_4 : g_4 123 = .inl (cy 1, 1600, .inl (fun x9 => nI (BS x9))) := ((congrFun eg_4 _).trans (va_up_ne _ _ (by omega))).trans h123_3
                have h124_4 : g_4 124 = .inl (cy 1, 1600, .inl (fun x9 => nI (BN x9))) := ((congrFun eg_4 _).trans (va_up_ne _ _ (by omega))).trans h124_3
                have hfr_4 : ∀ j : Nat, j ≠ 114 → j ≠ 115 → j ≠ 116 → j ≠ 117 → j ≠ 118 → j ≠ 119 → g_4 j = g j := fun j n0 n1 n2 n3 n4 n5 => ((congrFun eg_4 _).trans (va_up_ne _ _ n0)).trans (hfr_3 j n0 n1 n2 n3 n4 n5)
                refine lv_bipush (v := (-100)) hx hb dX10_goesBack_164 (by decide) ?_
                refine lv_iload_n hx hb dX10_goesBack_166 rfl (lv_at hl 2 rfl) ?_
                refine lv_isub hx hb dX10_goesBack_167 ?_
                have hE := rn_end hrn (by unfold bix; rw [if_neg (by decide), ← hjj]; exact hbt) (bt_n hF3 hbt c_155) (by omega)
                have hnE := hn4.trans hn3
                exact rMi S hr hlk hP hS ⟨_, _, _, _, _, (by rw [dnF_n hE (bt_n hF3 hbt c_155).2]), (by rw [← hnE, hE]; exact hP4), (by rw [hE]; exact hUR4), (by rw [hE, ← hnE]; exact h114_4), h115_4, h116_4, h117_4, h118_4, h119_4, hfr_4⟩ dX10_goesBack_168
            refine lv_icmp_ne (tgt := 108) hx hb dX10_goesBack_101 (by decide) (fun c_101 => ?_) (fun c_101 => ?_)
            · skip
              have c_101 := (not_congr (nI_eq (by omega) (by omega))).mp c_101
              refine lv_iload hx hb dX10_goesBack_108 (lv_at hl 0 rfl) ?_
              refine lv_if_eq (tgt := 118) hx hb dX10_goesBack_110 (by decide) (fun c_110 => ?_) (fun c_110 => ?_)
              · skip
                have c_110 := (z_eq (by omega)).mp c_110
                have hz2 : ¬ (FB f0 jj / 8 = 4 ∨ FB f0 jj / 8 = 5) := fun q => by rw [hz2q, if_pos q] at c_110; exact absurd c_110 (by decide)
                refine lv_iload_n hx hb dX10_goesBack_118 rfl (lv_at hl 7 rfl) ?_
                refine lv_if_eq (tgt := 138) hx hb dX10_goesBack_119 (by decide) (fun c_119 => ?_) (fun c_119 => ?_)
                · skip
                  have c_119 := (z_eq (by omega)).mp c_119
                  exact absurd c_119 (by decide)
                · skip
                  have c_119 := (not_congr (z_eq (by omega))).mp c_119
                  refine lv_aload_n hx hb dX10_goesBack_122 rfl (lv_at hl 5 rfl) ?_
                  refine lv_iload hx hb dX10_goesBack_123 (lv_at hl 1 rfl) ?_
                  refine lv_aload_n hx hb dX10_goesBack_125 rfl (lv_at hl 5 rfl) ?_
                  refine mg S hK hP (by omega) h114_2 fd_X10_48 rfl dX10_goesBack_126 ?_
                  refine lv_iload hx hb dX10_goesBack_129 (lv_at hl 3 rfl) ?_
                  refine mial S hK hP (by omega) h124_2 (vp_in_nI (by omega) (by omega)) dX10_goesBack_131 ?_
                  refine tpi (congrArg ((fun x9 => nI (BN x9))) (nI_clamp (by omega))) ?_
                  refine tpi (congrArg nI hb9.2.1) ?_
                  refine kMi (As := [.int (nI (z1)), .int (nI (FB f0 jj % 8))]) (rest := []) S hK hP hS (fun _ h => h) (c_X10_doesAct l D cy ad N g_2 hinj (by omega) F3 la bo tp ft wr0 wa at0 sp tk vl fi nm dp wy (nI (0)) aP aF aH aO ps mn go vi h114_2 P3 h115_2 hF3 hP3 OP3 h116_2 OF3 h117_2 OH3 h118_2 OO3 h119_2 hUR3 z1 (by rw [hz1]; exact tbk_8 (by omega)) (FB f0 jj % 8) (by omega)) cv_X10_186 (by omega) h114_2 ⟨_, _, rfl⟩ ⟨rfl, rfl⟩ rfl hl.1 rfl (Nat.le_of_ble_eq_true rfl) ⟨Nat.zero_le _, Nat.zero_le _⟩ dX10_goesBack_132 (fun r_132 g_5 H locs q_5 hP hS => ?_)
                  obtain ⟨P2_5, OP2_5, OF2_5, OH2_5, OO2_5, q_132, hP2_5, hUR2_5, h114_5, h115_5, h116_5, h117_5, h118_5, h119_5, f_5⟩ := q_5
                  subst q_132
                  have h122_5 : g_5 122 = .inl (cy 1, 8, .inl (fun x9 => nI (BY x9))) := (f_5 122 (by omega) (by omega) (by omega) (by omega) (by omega) (by omega)).trans h122_2
                  have h123_5 : g_5 123 = .inl (cy 1, 1600, .inl (fun x9 => nI (BS x9))) := (f_5 123 (by omega) (by omega) (by omega) (by omega) (by omega) (by omega)).trans h123_2
                  have h124_5 : g_5 124 = .inl (cy 1, 1600, .inl (fun x9 => nI (BN x9))) := (f_5 124 (by omega) (by omega) (by omega) (by omega) (by omega) (by omega)).trans h124_2
                  have hfr_5 : ∀ j : Nat, j ≠ 114 → j ≠ 115 → j ≠ 116 → j ≠ 117 → j ≠ 118 → j ≠ 119 → g_5 j = g j := fun j n0 n1 n2 n3 n4 n5 => (f_5 j n0 n1 n2 n3 n4 n5).trans (hfr_2 j n0 n1 n2 n3 n4 n5)
                  refine lv_goto (tgt := 151) hx hb dX10_goesBack_135 (by decide) ?_
                  exact J151 ((atR F3 z1 (FB f0 jj % 8)).1) ((atR F3 z1 (FB f0 jj % 8)).2) P2_5 OP2_5 OF2_5 OH2_5 OO2_5 (by first | (rw [hz1, bt_bk (fun q => hz2 (Or.inl q)) (fun q => hz2 (Or.inr q)) c_101 hbt3]; done) | (rw [hz1, bt_bk (fun q => hz2 (Or.inl q)) (fun q => hz2 (Or.inr q)) c_101 hbt3]; rfl)) (atR_ok hF3).1 (by rw [(atR_ok (S := z1) (K := (FB f0 jj % 8)) hF3).2]; assumption) (by assumption) (atR_ok hF3).2 g_5 _ _ (by rw [(atR_ok (S := z1) (K := (FB f0 jj % 8)) hF3).2]; exact h114_5) h115_5 h116_5 h117_5 h118_5 h119_5 hfr_5 hP hS _ (lv_sub hl [3, 4, 5, 6, 7] rfl)
              · skip
                have c_110 := (not_congr (z_eq (by omega))).mp c_110
                refine lv_bipush (v := (-2)) hx hb dX10_goesBack_113 (by decide) ?_
                refine lv_goto (tgt := 151) hx hb dX10_goesBack_115 (by decide) ?_
                exact J151 (-2) F3 P3 OP3 OF3 OH3 OO3 (bt_b4 (by decide) (Decidable.not_not.mp (fun q => c_110 (by rw [hz2q, if_neg q])))) hF3 hP3 hUR3 rfl g_2 _ _ h114_2 h115_2 h116_2 h117_2 h118_2 h119_2 hfr_2 hP hS _ (lv_sub hl [3, 4, 5, 6, 7] rfl)
            · skip
              have c_101 := (nI_eq (by omega) (by omega)).mp c_101
              refine lv_iconst (v := nI (1)) hx hb dX10_goesBack_104 (by decide) ?_
              refine lv_goto (tgt := 151) hx hb dX10_goesBack_105 (by decide) ?_
              exact J151 (nI 1) F3 P3 OP3 OF3 OH3 OO3 (bt_b6 (by decide) c_101) hF3 hP3 hUR3 rfl g_2 _ _ h114_2 h115_2 h116_2 h117_2 h118_2 h119_2 hfr_2 hP hS _ (lv_sub hl [3, 4, 5, 6, 7] rfl)
          refine lv_iload hx hb dX10_goesBack_78 (lv_at hl 1 rfl) ?_
          refine lv_iconst (v := nI (4)) hx hb dX10_goesBack_80 (by decide) ?_
          refine lv_icmp_eq (tgt := 90) hx hb dX10_goesBack_81 (by decide) (fun c_81 => ?_) (fun c_81 => ?_)
          · skip
            have c_81 := (nI_eq (by omega) (by omega)).mp c_81
            refine lv_iconst (v := nI (1)) hx hb dX10_goesBack_90 (by decide) ?_
            refine lv_goto (tgt := 95) hx hb dX10_goesBack_91 (by decide) ?_
            exact J95 1 (by first | rw [if_pos (Or.inl c_81)] | rw [if_pos (Or.inr c_87)]) (by omega) _ (lv_sub hl [0, 1, 2, 3, 4, 5, 6] rfl)
          · skip
            have c_81 := (not_congr (nI_eq (by omega) (by omega))).mp c_81
            refine lv_iload hx hb dX10_goesBack_84 (lv_at hl 1 rfl) ?_
            refine lv_iconst (v := nI (5)) hx hb dX10_goesBack_86 (by decide) ?_
            refine lv_icmp_ne (tgt := 94) hx hb dX10_goesBack_87 (by decide) (fun c_87 => ?_) (fun c_87 => ?_)
            · skip
              have c_87 := (not_congr (nI_eq (by omega) (by omega))).mp c_87
              refine lv_iconst (v := nI (0)) hx hb dX10_goesBack_94 (by decide) ?_
              exact J95 0 (by rw [if_neg (fun q => q.elim c_81 c_87)]) (by omega) _ (lv_sub hl [0, 1, 2, 3, 4, 5, 6] rfl)
            · skip
              have c_87 := (nI_eq (by omega) (by omega)).mp c_87
              refine lv_iconst (v := nI (1)) hx hb dX10_goesBack_90 (by decide) ?_
              refine lv_goto (tgt := 95) hx hb dX10_goesBack_91 (by decide) ?_
              exact J95 1 (by first | rw [if_pos (Or.inl c_81)] | rw [if_pos (Or.inr c_87)]) (by omega) _ (lv_sub hl [0, 1, 2, 3, 4, 5, 6] rfl)
        refine lv_iload hx hb dX10_goesBack_44 (lv_at hl 0 rfl) ?_
        refine lv_if_ne (tgt := 53) hx hb dX10_goesBack_46 (by decide) (fun c_46 => ?_) (fun c_46 => ?_)
        · skip
          have c_46 := (not_congr (z_eq (by omega))).mp c_46
          refine lv_iload hx hb dX10_goesBack_53 (lv_at hl 0 rfl) ?_
          refine lv_iconst (v := nI (1)) hx hb dX10_goesBack_55 (by decide) ?_
          refine lv_icmp_ne (tgt := 63) hx hb dX10_goesBack_56 (by decide) (fun c_56 => ?_) (fun c_56 => ?_)
          · skip
            have c_56 := (not_congr (nI_eq (by omega) (by omega))).mp c_56
            refine lv_iload hx hb dX10_goesBack_63 (lv_at hl 0 rfl) ?_
            refine lv_iconst (v := nI (3)) hx hb dX10_goesBack_65 (by decide) ?_
            refine lv_icmp_ne (tgt := 74) hx hb dX10_goesBack_66 (by decide) (fun c_66 => ?_) (fun c_66 => ?_)
            · skip
              have c_66 := (not_congr (nI_eq (by omega) (by omega))).mp c_66
              refine lv_iload hx hb dX10_goesBack_74 (lv_at hl 0 rfl) ?_
              exact J76 (FB f0 jj / 8) (by unfold tbk; rw [if_neg c_46, if_neg c_56, if_neg c_66]) _ (lv_sub hl [0, 1, 2, 3, 4, 5] rfl)
            · skip
              have c_66 := (nI_eq (by omega) (by omega)).mp c_66
              refine lv_bipush (v := nI (7)) hx hb dX10_goesBack_69 (by decide) ?_
              refine lv_goto (tgt := 76) hx hb dX10_goesBack_71 (by decide) ?_
              exact J76 7 (by unfold tbk; rw [if_neg c_46, if_neg c_56, if_pos c_66]) _ (lv_sub hl [0, 1, 2, 3, 4, 5] rfl)
          · skip
            have c_56 := (nI_eq (by omega) (by omega)).mp c_56
            refine lv_iconst (v := nI (0)) hx hb dX10_goesBack_59 (by decide) ?_
            refine lv_goto (tgt := 76) hx hb dX10_goesBack_60 (by decide) ?_
            exact J76 0 (by unfold tbk; rw [if_neg c_46, if_pos c_56]) _ (lv_sub hl [0, 1, 2, 3, 4, 5] rfl)
        · skip
          have c_46 := (z_eq (by omega)).mp c_46
          refine lv_iconst (v := nI (1)) hx hb dX10_goesBack_49 (by decide) ?_
          refine lv_goto (tgt := 76) hx hb dX10_goesBack_50 (by decide) ?_
          exact J76 1 (by unfold tbk; rw [if_pos c_46]) _ (lv_sub hl [0, 1, 2, 3, 4, 5] rfl)
  exact L7 ((Fl f0 - 0) + 1) 0 F P OP OF OH OO (by omega) rfl hF hPw hUR rfl (Nat.lt_succ_self _) g_1 _ _ h114_1 h115_1 h116_1 h117_1 h118_1 h119_1 (fun j n0 n1 n2 n3 n4 n5 => hfr_1 j (by omega)) hP hS _ (lv_sub hl [0, 1, 2, 3] rfl)
set_option maxHeartbeats 4000000 in
set_option maxRecDepth 100000 in
theorem c_X10_goesBack0 (l : Launch) (D : va_G) (cy : Nat → ClassId) (ad : Nat → Nat) (N : Nat) (g : Nat → va_E) (hinj : ∀ i j : Nat, i < N → j < N → ad i = ad j → i = j) (hN : 145 ≤ N) (F : FS) (un : Nat) (la : Int32) (bo : Int32) (tp : Nat) (ft : Int32) (wr0 : Nat) (wa : Nat) (at0 : Nat) (sp : Nat) (tk : Nat) (vl : Int32) (fi : Nat) (nm : Nat) (dp : Nat) (wy : Int32) (st : Int32) (aP : Nat) (aF : Nat) (aH : Nat) (aO : Nat) (ps : Nat) (mn : Nat) (go : Int32) (vi : Nat) (hM : g 114 = mob ad (nI (wn F.1)) (nI (wf F.1)) (nI (wh F.1)) (lN (wo F.1)) (nI (un)) la bo (nI (tp)) ft (nI (wr0)) (nI (wa)) (nI (at0)) (nI (sp)) (nI (tk)) vl (nI (fi)) (nI (nm)) (nI (dp)) wy st (nI (aP)) (nI (aF)) (nI (aH)) (lN aO) (nI (ps)) (nI (mn)) go (nI (vi))) (P : Nat → Nat) (hP9 : g 115 = .inl (cy 1, 8, .inl (fun x9 => nI (P x9)))) (hF : FOK F) (hPw : ∀ i, i < wn F.1 → P i = wp F.1 i) (BY : Nat → Nat) (hBY : g 122 = .inl (cy 1, 8, .inl (fun x9 => nI (BY x9)))) (BS : Nat → Nat) (hBS : g 123 = .inl (cy 1, 1600, .inl (fun x9 => nI (BS x9)))) (BN : Nat → Nat) (hBN : g 124 = .inl (cy 1, 1600, .inl (fun x9 => nI (BN x9)))) (Fl : Nat → Nat) (FB : Nat → Nat → Nat) (hfi : fi ≤ 8) (hFR : FR fi BY BS BN Fl FB) (f0 : Nat) (hf0 : f0 < fi) : Met l yX10_goesBack (WS yX10_goesBack cX10_goesBack 9 (some .int)) (rmF 4 96) (PP [.ref (ad 114), .int (nI (f0)), .int (nI (0))] D cy ad N g) (QI (fun r g1 => ∃ (P2 : Nat → Nat), (r = dnF (rn (FB f0) (Fl f0) 1 F (Fl f0))) ∧ (∀ i, i < wn F.1 → P2 i = wp (rn (FB f0) (Fl f0) 1 F (Fl f0)).2.2.1 i) ∧ g1 114 = mob ad (nI (wn F.1)) (nI (wf (rn (FB f0) (Fl f0) 1 F (Fl f0)).2.2.1)) (nI (wh (rn (FB f0) (Fl f0) 1 F (Fl f0)).2.2.1)) (lN (wo (rn (FB f0) (Fl f0) 1 F (Fl f0)).2.2.1)) (nI (un)) la bo (nI (tp)) ft (nI (wr0)) (nI (wa)) (nI (at0)) (nI (sp)) (nI (tk)) vl (nI (fi)) (nI (nm)) (nI (dp)) wy ((rn (FB f0) (Fl f0) 1 F (Fl f0)).2.1) (nI (aP)) (nI (aF)) (nI (aH)) (lN aO) (nI (ps)) (nI (mn)) go (nI (vi)) ∧ g1 115 = .inl (cy 1, 8, .inl (fun x9 => nI (P2 x9))) ∧ (∀ j, j ≠ 114 → j ≠ 115 → g1 j = g j)) D ad N) 0 0 (AA ad N) := by
  refine mentry (by decide) (Nat.le_of_ble_eq_true rfl) (fun p e s m below meth c ls S hr hlk hnm hP hK hl => ?_)
  have S : CallFix p m c cX10_goesBack 9 s _ wsL_law RX10 := S
  have hx := S.1
  have hb := S.2.1
  have hl : lv_has ls 9 [(0, .ref (ad 114)), (1, .int (nI (f0))), (2, .int (nI (0)))] := hl
  have hI : MD (AA ad N) ad N := MD.in hinj
  have hS : va_S (AA ad N) s.heap s.heap [] := va_S.rf
  have hfr : ∀ j : Nat, g j = g j := fun _ => rfl
  have hFRf := hFR f0 hf0
  refine lv_aload_n hx hb dX10_goesBack_0 rfl (lv_at hl 0 rfl) ?_
  refine lv_iconst (v := nI (0)) hx hb dX10_goesBack_1 (by decide) ?_
  refine mp S hK hP hI hS (by omega) hM fd_X10_293 rfl rfl (Nat.le_of_ble_eq_true rfl) dX10_goesBack_2 (fun g_1 H locs eg_1 hP hS => ?_)
  have h114_1 : g_1 114 = mob ad (nI (wn F.1)) (nI (wf F.1)) (nI (wh F.1)) (lN (wo F.1)) (nI (un)) la bo (nI (tp)) ft (nI (wr0)) (nI (wa)) (nI (at0)) (nI (sp)) (nI (tk)) vl (nI (fi)) (nI (nm)) (nI (dp)) wy (nI (0)) (nI (aP)) (nI (aF)) (nI (aH)) (lN aO) (nI (ps)) (nI (mn)) go (nI (vi)) := by rw [eg_1, va_up_self]; exact rfl
  have h115_1 : g_1 115 = .inl (cy 1, 8, .inl (fun x9 => nI (P x9))) := ((congrFun eg_1 _).trans (va_up_ne _ _ (by omega))).trans hP9
  have h122_1 : g_1 122 = .inl (cy 1, 8, .inl (fun x9 => nI (BY x9))) := ((congrFun eg_1 _).trans (va_up_ne _ _ (by omega))).trans hBY
  have h123_1 : g_1 123 = .inl (cy 1, 1600, .inl (fun x9 => nI (BS x9))) := ((congrFun eg_1 _).trans (va_up_ne _ _ (by omega))).trans hBS
  have h124_1 : g_1 124 = .inl (cy 1, 1600, .inl (fun x9 => nI (BN x9))) := ((congrFun eg_1 _).trans (va_up_ne _ _ (by omega))).trans hBN
  have hfr_1 : ∀ j : Nat, j ≠ 114 → g_1 j = g j := fun j n0 => ((congrFun eg_1 _).trans (va_up_ne _ _ n0)).trans (hfr j )
  refine lv_iconst (v := nI (0)) hx hb dX10_goesBack_5 (by decide) ?_
  refine lv_istore_n (lv' := [(3, .int (nI (0))), (0, .ref (ad 114)), (1, .int (nI (f0))), (2, .int (nI (0)))]) hx hb dX10_goesBack_6 rfl hl (by decide) rfl (fun ls hl => ?_)
  have L7 : ∀ (fu : Nat) (i : Nat) (F3 : FS) (P3 : Nat → Nat), (i ≤ Fl f0) → (rn (FB f0) (Fl f0) 1 F i = (i, 0, F3)) → (FOK F3) → (∀ j, j < wn F3.1 → P3 j = wp F3.1 j) → (wn F3.1 = wn F.1) → (Fl f0 - i) < fu → ∀ (g_2 : Nat → va_E) (H : Heap) (locs : List Loc), g_2 114 = mob ad (nI (wn F3.1)) (nI (wf F3.1)) (nI (wh F3.1)) (lN (wo F3.1)) (nI (un)) la bo (nI (tp)) ft (nI (wr0)) (nI (wa)) (nI (at0)) (nI (sp)) (nI (tk)) vl (nI (fi)) (nI (nm)) (nI (dp)) wy (nI (0)) (nI (aP)) (nI (aF)) (nI (aH)) (lN aO) (nI (ps)) (nI (mn)) go (nI (vi)) → g_2 115 = .inl (cy 1, 8, .inl (fun x9 => nI (P3 x9))) → (∀ j : Nat, j ≠ 114 → j ≠ 115 → g_2 j = g j) → MM D ad N g_2 H → va_S (AA ad N) s.heap H locs → ∀ (ls : Array Slot), lv_has ls 9 [(3, .int (nI (i))), (0, .ref (ad 114)), (1, .int (nI (f0))), (2, .int (nI (0)))] → W p l e (rmF 4 96) s m [.ref (ad 114), .int (nI (f0)), .int (nI (0))].toArray below meth c H locs 0 0 (MQ below (QI (fun r g1 => ∃ (P2 : Nat → Nat), (r = dnF (rn (FB f0) (Fl f0) 1 F (Fl f0))) ∧ (∀ i, i < wn F.1 → P2 i = wp (rn (FB f0) (Fl f0) 1 F (Fl f0)).2.2.1 i) ∧ g1 114 = mob ad (nI (wn F.1)) (nI (wf (rn (FB f0) (Fl f0) 1 F (Fl f0)).2.2.1)) (nI (wh (rn (FB f0) (Fl f0) 1 F (Fl f0)).2.2.1)) (lN (wo (rn (FB f0) (Fl f0) 1 F (Fl f0)).2.2.1)) (nI (un)) la bo (nI (tp)) ft (nI (wr0)) (nI (wa)) (nI (at0)) (nI (sp)) (nI (tk)) vl (nI (fi)) (nI (nm)) (nI (dp)) wy ((rn (FB f0) (Fl f0) 1 F (Fl f0)).2.1) (nI (aP)) (nI (aF)) (nI (aH)) (lN aO) (nI (ps)) (nI (mn)) go (nI (vi)) ∧ g1 115 = .inl (cy 1, 8, .inl (fun x9 => nI (P2 x9))) ∧ (∀ j, j ≠ 114 → j ≠ 115 → g1 j = g j)) D ad N) [.ref (ad 114), .int (nI (f0)), .int (nI (0))].toArray s 0 0 (AA ad N)) (F0 m 7 ls []) := by
    intro fu
    induction fu with
    | zero => intro i F3 P3 hi hrn hF3 hP3 hn3 hms g_2 H locs h114_2 h115_2 hfr_2 hP hS ls hl; exact absurd hms (Nat.not_lt_zero _)
    | succ fu ih7 =>
      intro i F3 P3 hi hrn hF3 hP3 hn3 hms g_2 H locs h114_2 h115_2 hfr_2 hP hS ls hl
      have h122_2 : g_2 122 = .inl (cy 1, 8, .inl (fun x9 => nI (BY x9))) := (hfr_2 122 (by omega) (by omega)).trans hBY
      have h123_2 : g_2 123 = .inl (cy 1, 1600, .inl (fun x9 => nI (BS x9))) := (hfr_2 123 (by omega) (by omega)).trans hBS
      have h124_2 : g_2 124 = .inl (cy 1, 1600, .inl (fun x9 => nI (BN x9))) := (hfr_2 124 (by omega) (by omega)).trans hBN
      refine lv_iload_n hx hb dX10_goesBack_7 rfl (lv_at hl 0 rfl) ?_
      refine lv_aload_n hx hb dX10_goesBack_8 rfl (lv_at hl 1 rfl) ?_
      refine mg S hK hP (by omega) h114_2 fd_X10_42 rfl dX10_goesBack_9 ?_
      refine lv_iload_n hx hb dX10_goesBack_12 rfl (lv_at hl 2 rfl) ?_
      refine mial S hK hP (by omega) h122_2 (vp_in_nI (by omega) (by omega)) dX10_goesBack_13 ?_
      refine tpi (congrArg ((fun x9 => nI (BY x9))) (nI_clamp (by omega))) ?_
      refine tpi (congrArg nI hFRf.1) ?_
      refine lv_icmp_ge (tgt := 175) hx hb dX10_goesBack_14 (by decide) (fun c_14 => ?_) (fun c_14 => ?_)
      · skip
        have c_14 := (nI_leI (by omega) (by omega)).mp c_14
        refine lv_aload_n hx hb dX10_goesBack_175 rfl (lv_at hl 1 rfl) ?_
        refine mg S hK hP (by omega) h114_2 fd_X10_42 rfl dX10_goesBack_176 ?_
        refine lv_iload_n hx hb dX10_goesBack_179 rfl (lv_at hl 2 rfl) ?_
        refine mial S hK hP (by omega) h122_2 (vp_in_nI (by omega) (by omega)) dX10_goesBack_180 ?_
        refine tpi (congrArg ((fun x9 => nI (BY x9))) (nI_clamp (by omega))) ?_
        refine tpi (congrArg nI hFRf.1) ?_
        have ei : i = Fl f0 := by omega
        have hE : (rn (FB f0) (Fl f0) 1 F (Fl f0)) = (Fl f0, 0, F3) := by rw [ei] at hrn; exact hrn
        exact rMi S hr hlk hP hS ⟨_, (by rw [dnF_y hE]), (by rw [← hn3, hE]; exact hP3), (by rw [hE, ← hn3]; exact h114_2), h115_2, hfr_2⟩ dX10_goesBack_181
      · skip
        have c_14 := (not_congr (nI_leI (by omega) (by omega))).mp c_14
        obtain ⟨jj, hjj⟩ : ∃ jj, jj = Fl f0 - 1 - i := ⟨_, rfl⟩
        have hjl : jj < Fl f0 := by omega
        have hb9 := hFRf.2.2 jj (by omega)
        have hbt3 := hb9.2.2
        refine lv_sipush (v := nI (200)) hx hb dX10_goesBack_17 (by decide) ?_
        refine lv_iload_n hx hb dX10_goesBack_20 rfl (lv_at hl 2 rfl) ?_
        refine lv_imul hx hb dX10_goesBack_21 ?_
        refine tpi (pk_mul 200 f0) ?_
        refine lv_aload_n hx hb dX10_goesBack_22 rfl (lv_at hl 1 rfl) ?_
        refine mg S hK hP (by omega) h114_2 fd_X10_42 rfl dX10_goesBack_23 ?_
        refine lv_iload_n hx hb dX10_goesBack_26 rfl (lv_at hl 2 rfl) ?_
        refine mial S hK hP (by omega) h122_2 (vp_in_nI (by omega) (by omega)) dX10_goesBack_27 ?_
        refine tpi (congrArg ((fun x9 => nI (BY x9))) (nI_clamp (by omega))) ?_
        refine tpi (congrArg nI hFRf.1) ?_
        refine lv_iadd hx hb dX10_goesBack_28 ?_
        refine tpi (nI_add (200 * f0) (Fl f0)) ?_
        refine lv_iconst (v := nI (1)) hx hb dX10_goesBack_29 (by decide) ?_
        refine lv_isub hx hb dX10_goesBack_30 ?_
        refine tpi (pk_sub (a := (200 * f0) + Fl f0) (b := 1) (by omega)) ?_
        refine lv_iload_n hx hb dX10_goesBack_31 rfl (lv_at hl 0 rfl) ?_
        refine lv_isub hx hb dX10_goesBack_32 ?_
        refine tpi (pk_sub (a := ((200 * f0) + Fl f0) - 1) (b := i) (by omega)) ?_
        refine tpi (congrArg nI (show 200 * f0 + Fl f0 - 1 - i = 200 * f0 + jj by omega)) ?_
        refine lv_istore (lv' := [(4, .int (nI (200 * f0 + jj))), (3, .int (nI (i))), (0, .ref (ad 114)), (1, .int (nI (f0))), (2, .int (nI (0)))]) hx hb dX10_goesBack_33 hl (by decide) rfl (fun ls hl => ?_)
        refine lv_aload_n hx hb dX10_goesBack_35 rfl (lv_at hl 2 rfl) ?_
        refine mg S hK hP (by omega) h114_2 fd_X10_45 rfl dX10_goesBack_36 ?_
        refine lv_iload hx hb dX10_goesBack_39 (lv_at hl 0 rfl) ?_
        refine mial S hK hP (by omega) h123_2 (vp_in_nI (by omega) (by omega)) dX10_goesBack_41 ?_
        refine tpi (congrArg ((fun x9 => nI (BS x9))) (nI_clamp (by omega))) ?_
        refine tpi (congrArg nI hb9.1) ?_
        refine lv_istore (lv' := [(5, .int (nI (FB f0 jj / 8))), (4, .int (nI (200 * f0 + jj))), (3, .int (nI (i))), (0, .ref (ad 114)), (1, .int (nI (f0))), (2, .int (nI (0)))]) hx hb dX10_goesBack_42 hl (by decide) rfl (fun ls hl => ?_)
        have J76 : ∀ (z1 : Nat), (z1 = tbk (FB f0 jj / 8)) → ∀ (ls : Array Slot), lv_has ls 9 [(5, .int (nI (FB f0 jj / 8))), (4, .int (nI (200 * f0 + jj))), (3, .int (nI (i))), (0, .ref (ad 114)), (1, .int (nI (f0))), (2, .int (nI (0)))] → W p l e (rmF 4 96) s m [.ref (ad 114), .int (nI (f0)), .int (nI (0))].toArray below meth c H locs 0 0 (MQ below (QI (fun r g1 => ∃ (P2 : Nat → Nat), (r = dnF (rn (FB f0) (Fl f0) 1 F (Fl f0))) ∧ (∀ i, i < wn F.1 → P2 i = wp (rn (FB f0) (Fl f0) 1 F (Fl f0)).2.2.1 i) ∧ g1 114 = mob ad (nI (wn F.1)) (nI (wf (rn (FB f0) (Fl f0) 1 F (Fl f0)).2.2.1)) (nI (wh (rn (FB f0) (Fl f0) 1 F (Fl f0)).2.2.1)) (lN (wo (rn (FB f0) (Fl f0) 1 F (Fl f0)).2.2.1)) (nI (un)) la bo (nI (tp)) ft (nI (wr0)) (nI (wa)) (nI (at0)) (nI (sp)) (nI (tk)) vl (nI (fi)) (nI (nm)) (nI (dp)) wy ((rn (FB f0) (Fl f0) 1 F (Fl f0)).2.1) (nI (aP)) (nI (aF)) (nI (aH)) (lN aO) (nI (ps)) (nI (mn)) go (nI (vi)) ∧ g1 115 = .inl (cy 1, 8, .inl (fun x9 => nI (P2 x9))) ∧ (∀ j, j ≠ 114 → j ≠ 115 → g1 j = g j)) D ad N) [.ref (ad 114), .int (nI (f0)), .int (nI (0))].toArray s 0 0 (AA ad N)) (F0 m 76 ls [.int (nI (z1))]) := by
          intro z1 hz1 ls hl
          refine lv_istore (lv' := [(6, .int (nI (z1))), (5, .int (nI (FB f0 jj / 8))), (4, .int (nI (200 * f0 + jj))), (3, .int (nI (i))), (0, .ref (ad 114)), (1, .int (nI (f0))), (2, .int (nI (0)))]) hx hb dX10_goesBack_76 hl (by decide) rfl (fun ls hl => ?_)
          have J95 : ∀ (z2 : Nat), (z2 = if (FB f0 jj / 8 = 4 ∨ FB f0 jj / 8 = 5) then 1 else 0) → (z2 < 2) → ∀ (ls : Array Slot), lv_has ls 9 [(6, .int (nI (z1))), (5, .int (nI (FB f0 jj / 8))), (4, .int (nI (200 * f0 + jj))), (3, .int (nI (i))), (0, .ref (ad 114)), (1, .int (nI (f0))), (2, .int (nI (0)))] → W p l e (rmF 4 96) s m [.ref (ad 114), .int (nI (f0)), .int (nI (0))].toArray below meth c H locs 0 0 (MQ below (QI (fun r g1 => ∃ (P2 : Nat → Nat), (r = dnF (rn (FB f0) (Fl f0) 1 F (Fl f0))) ∧ (∀ i, i < wn F.1 → P2 i = wp (rn (FB f0) (Fl f0) 1 F (Fl f0)).2.2.1 i) ∧ g1 114 = mob ad (nI (wn F.1)) (nI (wf (rn (FB f0) (Fl f0) 1 F (Fl f0)).2.2.1)) (nI (wh (rn (FB f0) (Fl f0) 1 F (Fl f0)).2.2.1)) (lN (wo (rn (FB f0) (Fl f0) 1 F (Fl f0)).2.2.1)) (nI (un)) la bo (nI (tp)) ft (nI (wr0)) (nI (wa)) (nI (at0)) (nI (sp)) (nI (tk)) vl (nI (fi)) (nI (nm)) (nI (dp)) wy ((rn (FB f0) (Fl f0) 1 F (Fl f0)).2.1) (nI (aP)) (nI (aF)) (nI (aH)) (lN aO) (nI (ps)) (nI (mn)) go (nI (vi)) ∧ g1 115 = .inl (cy 1, 8, .inl (fun x9 => nI (P2 x9))) ∧ (∀ j, j ≠ 114 → j ≠ 115 → g1 j = g j)) D ad N) [.ref (ad 114), .int (nI (f0)), .int (nI (0))].toArray s 0 0 (AA ad N)) (F0 m 95 ls [.int (nI (z2))]) := by
            intro z2 hz2q hz2b ls hl
            refine lv_istore (lv' := [(7, .int (nI (z2))), (6, .int (nI (z1))), (5, .int (nI (FB f0 jj / 8))), (4, .int (nI (200 * f0 + jj))), (3, .int (nI (i))), (0, .ref (ad 114)), (1, .int (nI (f0))), (2, .int (nI (0)))]) hx hb dX10_goesBack_95 hl (by decide) rfl (fun ls hl => ?_)
            refine lv_iload hx hb dX10_goesBack_97 (lv_at hl 2 rfl) ?_
            refine lv_bipush (v := nI (6)) hx hb dX10_goesBack_99 (by decide) ?_
            have J151 : ∀ (a9 : Int32) (F4 : FS) (P4 : Nat → Nat), (beatF 1 (FB f0 jj) F3 = (a9, F4)) → (FOK F4) → (∀ j, j < wn F4.1 → P4 j = wp F4.1 j) → (wn F4.1 = wn F3.1) → ∀ (g_3 : Nat → va_E) (H : Heap) (locs : List Loc), g_3 114 = mob ad (nI (wn F4.1)) (nI (wf F4.1)) (nI (wh F4.1)) (lN (wo F4.1)) (nI (un)) la bo (nI (tp)) ft (nI (wr0)) (nI (wa)) (nI (at0)) (nI (sp)) (nI (tk)) vl (nI (fi)) (nI (nm)) (nI (dp)) wy (nI (0)) (nI (aP)) (nI (aF)) (nI (aH)) (lN aO) (nI (ps)) (nI (mn)) go (nI (vi)) → g_3 115 = .inl (cy 1, 8, .inl (fun x9 => nI (P4 x9))) → (∀ j : Nat, j ≠ 114 → j ≠ 115 → g_3 j = g j) → MM D ad N g_3 H → va_S (AA ad N) s.heap H locs → ∀ (ls : Array Slot), lv_has ls 9 [(4, .int (nI (200 * f0 + jj))), (3, .int (nI (i))), (0, .ref (ad 114)), (1, .int (nI (f0))), (2, .int (nI (0)))] → W p l e (rmF 4 96) s m [.ref (ad 114), .int (nI (f0)), .int (nI (0))].toArray below meth c H locs 0 0 (MQ below (QI (fun r g1 => ∃ (P2 : Nat → Nat), (r = dnF (rn (FB f0) (Fl f0) 1 F (Fl f0))) ∧ (∀ i, i < wn F.1 → P2 i = wp (rn (FB f0) (Fl f0) 1 F (Fl f0)).2.2.1 i) ∧ g1 114 = mob ad (nI (wn F.1)) (nI (wf (rn (FB f0) (Fl f0) 1 F (Fl f0)).2.2.1)) (nI (wh (rn (FB f0) (Fl f0) 1 F (Fl f0)).2.2.1)) (lN (wo (rn (FB f0) (Fl f0) 1 F (Fl f0)).2.2.1)) (nI (un)) la bo (nI (tp)) ft (nI (wr0)) (nI (wa)) (nI (at0)) (nI (sp)) (nI (tk)) vl (nI (fi)) (nI (nm)) (nI (dp)) wy ((rn (FB f0) (Fl f0) 1 F (Fl f0)).2.1) (nI (aP)) (nI (aF)) (nI (aH)) (lN aO) (nI (ps)) (nI (mn)) go (nI (vi)) ∧ g1 115 = .inl (cy 1, 8, .inl (fun x9 => nI (P2 x9))) ∧ (∀ j, j ≠ 114 → j ≠ 115 → g1 j = g j)) D ad N) [.ref (ad 114), .int (nI (f0)), .int (nI (0))].toArray s 0 0 (AA ad N)) (F0 m 151 ls [.int a9]) := by
              intro a9 F4 P4 hbt hF4 hP4 hn4 g_3 H locs h114_3 h115_3 hfr_3 hP hS ls hl
              have h122_3 : g_3 122 = .inl (cy 1, 8, .inl (fun x9 => nI (BY x9))) := (hfr_3 122 (by omega) (by omega)).trans hBY
              have h123_3 : g_3 123 = .inl (cy 1, 1600, .inl (fun x9 => nI (BS x9))) := (hfr_3 123 (by omega) (by omega)).trans hBS
              have h124_3 : g_3 124 = .inl (cy 1, 1600, .inl (fun x9 => nI (BN x9))) := (hfr_3 124 (by omega) (by omega)).trans hBN
              refine lv_istore (lv' := [(8, .int a9), (4, .int (nI (200 * f0 + jj))), (3, .int (nI (i))), (0, .ref (ad 114)), (1, .int (nI (f0))), (2, .int (nI (0)))]) hx hb dX10_goesBack_151 hl (by decide) rfl (fun ls hl => ?_)
              refine lv_iload hx hb dX10_goesBack_153 (lv_at hl 0 rfl) ?_
              refine lv_if_ge (tgt := 169) hx hb dX10_goesBack_155 (by decide) (fun c_155 => ?_) (fun c_155 => ?_)
              · skip
                refine lv_iinc (v := nI (i + 1)) (lv' := [(3, .int (nI (i + 1))), (8, .int a9), (4, .int (nI (200 * f0 + jj))), (0, .ref (ad 114)), (1, .int (nI (f0))), (2, .int (nI (0)))]) hx hb dX10_goesBack_169 hl (k := 2) rfl (by exact nI_add i 1) (by decide) rfl (fun ls hl => ?_)
                refine lv_goto (tgt := 7) hx hb dX10_goesBack_172 (by decide) ?_
                exact ih7 (i + 1) F4 P4 (by omega) (rn_go hrn (by unfold bix; rw [if_neg (by decide), ← hjj]; exact hbt) (bt_1 hF3 hbt c_155)) hF4 hP4 (hn4.trans hn3) (by omega) g_3 _ _ h114_3 h115_3 hfr_3 hP hS _ (lv_sub hl [0, 3, 4, 5] rfl)
              · skip
                refine lv_aload_n hx hb dX10_goesBack_158 rfl (lv_at hl 3 rfl) ?_
                refine lv_iload hx hb dX10_goesBack_159 (lv_at hl 0 rfl) ?_
                refine mp S hK hP hI hS (by omega) h114_3 fd_X10_293 rfl rfl (Nat.le_of_ble_eq_true rfl) dX10_goesBack_161 (fun g_4 H locs eg_4 hP hS => ?_)
                have h114_4 : g_4 114 = mob ad (nI (wn F4.1)) (nI (wf F4.1)) (nI (wh F4.1)) (lN (wo F4.1)) (nI (un)) la bo (nI (tp)) ft (nI (wr0)) (nI (wa)) (nI (at0)) (nI (sp)) (nI (tk)) vl (nI (fi)) (nI (nm)) (nI (dp)) wy a9 (nI (aP)) (nI (aF)) (nI (aH)) (lN aO) (nI (ps)) (nI (mn)) go (nI (vi)) := by rw [eg_4, va_up_self]; exact rfl
                have h115_4 : g_4 115 = .inl (cy 1, 8, .inl (fun x9 => nI (P4 x9))) := ((congrFun eg_4 _).trans (va_up_ne _ _ (by omega))).trans h115_3
                have h122_4 : g_4 122 = .inl (cy 1, 8, .inl (fun x9 => nI (BY x9))) := ((congrFun eg_4 _).trans (va_up_ne _ _ (by omega))).trans h122_3
                have h123_4 : g_4 123 = .inl (cy 1, 1600, .inl (fun x9 => nI (BS x9))) := ((congrFun eg_4 _).trans (va_up_ne _ _ (by omega))).trans h123_3
                have h124_4 : g_4 124 = .inl (cy 1, 1600, .inl (fun x9 => nI (BN x9))) := ((congrFun eg_4 _).trans (va_up_ne _ _ (by omega))).trans h124_3
                have hfr_4 : ∀ j : Nat, j ≠ 114 → j ≠ 115 → g_4 j = g j := fun j n0 n1 => ((congrFun eg_4 _).trans (va_up_ne _ _ n0)).trans (hfr_3 j n0 n1)
                refine lv_bipush (v := (-100)) hx hb dX10_goesBack_164 (by decide) ?_
                refine lv_iload_n hx hb dX10_goesBack_166 rfl (lv_at hl 2 rfl) ?_
                refine lv_isub hx hb dX10_goesBack_167 ?_
                have hE := rn_end hrn (by unfold bix; rw [if_neg (by decide), ← hjj]; exact hbt) (bt_n hF3 hbt c_155) (by omega)
                have hnE := hn4.trans hn3
                exact rMi S hr hlk hP hS ⟨_, (by rw [dnF_n hE (bt_n hF3 hbt c_155).2]), (by rw [← hnE, hE]; exact hP4), (by rw [hE, ← hnE]; exact h114_4), h115_4, hfr_4⟩ dX10_goesBack_168
            refine lv_icmp_ne (tgt := 108) hx hb dX10_goesBack_101 (by decide) (fun c_101 => ?_) (fun c_101 => ?_)
            · skip
              have c_101 := (not_congr (nI_eq (by omega) (by omega))).mp c_101
              refine lv_iload hx hb dX10_goesBack_108 (lv_at hl 0 rfl) ?_
              refine lv_if_eq (tgt := 118) hx hb dX10_goesBack_110 (by decide) (fun c_110 => ?_) (fun c_110 => ?_)
              · skip
                have c_110 := (z_eq (by omega)).mp c_110
                have hz2 : ¬ (FB f0 jj / 8 = 4 ∨ FB f0 jj / 8 = 5) := fun q => by rw [hz2q, if_pos q] at c_110; exact absurd c_110 (by decide)
                refine lv_iload_n hx hb dX10_goesBack_118 rfl (lv_at hl 7 rfl) ?_
                refine lv_if_eq (tgt := 138) hx hb dX10_goesBack_119 (by decide) (fun c_119 => ?_) (fun c_119 => ?_)
                · skip
                  have c_119 := (z_eq (by omega)).mp c_119
                  refine lv_aload_n hx hb dX10_goesBack_138 rfl (lv_at hl 5 rfl) ?_
                  refine lv_iload hx hb dX10_goesBack_139 (lv_at hl 1 rfl) ?_
                  refine lv_aload_n hx hb dX10_goesBack_141 rfl (lv_at hl 5 rfl) ?_
                  refine mg S hK hP (by omega) h114_2 fd_X10_48 rfl dX10_goesBack_142 ?_
                  refine lv_iload hx hb dX10_goesBack_145 (lv_at hl 3 rfl) ?_
                  refine mial S hK hP (by omega) h124_2 (vp_in_nI (by omega) (by omega)) dX10_goesBack_147 ?_
                  refine tpi (congrArg ((fun x9 => nI (BN x9))) (nI_clamp (by omega))) ?_
                  refine tpi (congrArg nI hb9.2.1) ?_
                  refine kMi (As := [.int (nI (z1)), .int (nI (FB f0 jj % 8))]) (rest := []) S hK hP hS (fun _ h => h) (c_X10_does l D cy ad N g_2 hinj (by omega) F3.1 un la bo tp ft wr0 wa at0 sp tk vl fi nm dp wy (nI (0)) aP aF aH aO ps mn go vi h114_2 P3 h115_2 hF3.1 hP3 z1 (by rw [hz1]; exact tbk_8 (by omega)) (FB f0 jj % 8) (by omega)) cv_X10_176 (by omega) h114_2 ⟨_, _, rfl⟩ ⟨rfl, rfl⟩ rfl hl.1 rfl (Nat.le_of_ble_eq_true rfl) ⟨Nat.zero_le _, Nat.zero_le _⟩ dX10_goesBack_148 (fun r_148 g_5 H locs q_5 hP hS => ?_)
                  obtain ⟨P2_5, q_148, hP2_5, h114_5, h115_5, f_5⟩ := q_5
                  subst q_148
                  have h122_5 : g_5 122 = .inl (cy 1, 8, .inl (fun x9 => nI (BY x9))) := (f_5 122 (by omega) (by omega)).trans h122_2
                  have h123_5 : g_5 123 = .inl (cy 1, 1600, .inl (fun x9 => nI (BS x9))) := (f_5 123 (by omega) (by omega)).trans h123_2
                  have h124_5 : g_5 124 = .inl (cy 1, 1600, .inl (fun x9 => nI (BN x9))) := (f_5 124 (by omega) (by omega)).trans h124_2
                  have hfr_5 : ∀ j : Nat, j ≠ 114 → j ≠ 115 → g_5 j = g j := fun j n0 n1 => (f_5 j n0 n1).trans (hfr_2 j n0 n1)
                  exact J151 ((dsR F3.1 z1 (FB f0 jj % 8)).1) ((atR F3 z1 (FB f0 jj % 8)).2) P2_5 (by first | (rw [hz1, bt_bk (fun q => hz2 (Or.inl q)) (fun q => hz2 (Or.inr q)) c_101 hbt3]; done) | (rw [hz1, bt_bk (fun q => hz2 (Or.inl q)) (fun q => hz2 (Or.inr q)) c_101 hbt3]; rfl)) (atR_ok hF3).1 (by rw [(atR_ok (S := z1) (K := (FB f0 jj % 8)) hF3).2]; assumption) (atR_ok hF3).2 g_5 _ _ (by rw [(atR_ok (S := z1) (K := (FB f0 jj % 8)) hF3).2]; exact h114_5) h115_5 hfr_5 hP hS _ (lv_sub hl [3, 4, 5, 6, 7] rfl)
                · skip
                  have c_119 := (not_congr (z_eq (by omega))).mp c_119
                  exact absurd c_119 (by decide)
              · skip
                have c_110 := (not_congr (z_eq (by omega))).mp c_110
                refine lv_bipush (v := (-2)) hx hb dX10_goesBack_113 (by decide) ?_
                refine lv_goto (tgt := 151) hx hb dX10_goesBack_115 (by decide) ?_
                exact J151 (-2) F3 P3 (bt_b4 (by decide) (Decidable.not_not.mp (fun q => c_110 (by rw [hz2q, if_neg q])))) hF3 hP3 rfl g_2 _ _ h114_2 h115_2 hfr_2 hP hS _ (lv_sub hl [3, 4, 5, 6, 7] rfl)
            · skip
              have c_101 := (nI_eq (by omega) (by omega)).mp c_101
              refine lv_iconst (v := nI (1)) hx hb dX10_goesBack_104 (by decide) ?_
              refine lv_goto (tgt := 151) hx hb dX10_goesBack_105 (by decide) ?_
              exact J151 (nI 1) F3 P3 (bt_b6 (by decide) c_101) hF3 hP3 rfl g_2 _ _ h114_2 h115_2 hfr_2 hP hS _ (lv_sub hl [3, 4, 5, 6, 7] rfl)
          refine lv_iload hx hb dX10_goesBack_78 (lv_at hl 1 rfl) ?_
          refine lv_iconst (v := nI (4)) hx hb dX10_goesBack_80 (by decide) ?_
          refine lv_icmp_eq (tgt := 90) hx hb dX10_goesBack_81 (by decide) (fun c_81 => ?_) (fun c_81 => ?_)
          · skip
            have c_81 := (nI_eq (by omega) (by omega)).mp c_81
            refine lv_iconst (v := nI (1)) hx hb dX10_goesBack_90 (by decide) ?_
            refine lv_goto (tgt := 95) hx hb dX10_goesBack_91 (by decide) ?_
            exact J95 1 (by first | rw [if_pos (Or.inl c_81)] | rw [if_pos (Or.inr c_87)]) (by omega) _ (lv_sub hl [0, 1, 2, 3, 4, 5, 6] rfl)
          · skip
            have c_81 := (not_congr (nI_eq (by omega) (by omega))).mp c_81
            refine lv_iload hx hb dX10_goesBack_84 (lv_at hl 1 rfl) ?_
            refine lv_iconst (v := nI (5)) hx hb dX10_goesBack_86 (by decide) ?_
            refine lv_icmp_ne (tgt := 94) hx hb dX10_goesBack_87 (by decide) (fun c_87 => ?_) (fun c_87 => ?_)
            · skip
              have c_87 := (not_congr (nI_eq (by omega) (by omega))).mp c_87
              refine lv_iconst (v := nI (0)) hx hb dX10_goesBack_94 (by decide) ?_
              exact J95 0 (by rw [if_neg (fun q => q.elim c_81 c_87)]) (by omega) _ (lv_sub hl [0, 1, 2, 3, 4, 5, 6] rfl)
            · skip
              have c_87 := (nI_eq (by omega) (by omega)).mp c_87
              refine lv_iconst (v := nI (1)) hx hb dX10_goesBack_90 (by decide) ?_
              refine lv_goto (tgt := 95) hx hb dX10_goesBack_91 (by decide) ?_
              exact J95 1 (by first | rw [if_pos (Or.inl c_81)] | rw [if_pos (Or.inr c_87)]) (by omega) _ (lv_sub hl [0, 1, 2, 3, 4, 5, 6] rfl)
        refine lv_iload hx hb dX10_goesBack_44 (lv_at hl 0 rfl) ?_
        refine lv_if_ne (tgt := 53) hx hb dX10_goesBack_46 (by decide) (fun c_46 => ?_) (fun c_46 => ?_)
        · skip
          have c_46 := (not_congr (z_eq (by omega))).mp c_46
          refine lv_iload hx hb dX10_goesBack_53 (lv_at hl 0 rfl) ?_
          refine lv_iconst (v := nI (1)) hx hb dX10_goesBack_55 (by decide) ?_
          refine lv_icmp_ne (tgt := 63) hx hb dX10_goesBack_56 (by decide) (fun c_56 => ?_) (fun c_56 => ?_)
          · skip
            have c_56 := (not_congr (nI_eq (by omega) (by omega))).mp c_56
            refine lv_iload hx hb dX10_goesBack_63 (lv_at hl 0 rfl) ?_
            refine lv_iconst (v := nI (3)) hx hb dX10_goesBack_65 (by decide) ?_
            refine lv_icmp_ne (tgt := 74) hx hb dX10_goesBack_66 (by decide) (fun c_66 => ?_) (fun c_66 => ?_)
            · skip
              have c_66 := (not_congr (nI_eq (by omega) (by omega))).mp c_66
              refine lv_iload hx hb dX10_goesBack_74 (lv_at hl 0 rfl) ?_
              exact J76 (FB f0 jj / 8) (by unfold tbk; rw [if_neg c_46, if_neg c_56, if_neg c_66]) _ (lv_sub hl [0, 1, 2, 3, 4, 5] rfl)
            · skip
              have c_66 := (nI_eq (by omega) (by omega)).mp c_66
              refine lv_bipush (v := nI (7)) hx hb dX10_goesBack_69 (by decide) ?_
              refine lv_goto (tgt := 76) hx hb dX10_goesBack_71 (by decide) ?_
              exact J76 7 (by unfold tbk; rw [if_neg c_46, if_neg c_56, if_pos c_66]) _ (lv_sub hl [0, 1, 2, 3, 4, 5] rfl)
          · skip
            have c_56 := (nI_eq (by omega) (by omega)).mp c_56
            refine lv_iconst (v := nI (0)) hx hb dX10_goesBack_59 (by decide) ?_
            refine lv_goto (tgt := 76) hx hb dX10_goesBack_60 (by decide) ?_
            exact J76 0 (by unfold tbk; rw [if_neg c_46, if_pos c_56]) _ (lv_sub hl [0, 1, 2, 3, 4, 5] rfl)
        · skip
          have c_46 := (z_eq (by omega)).mp c_46
          refine lv_iconst (v := nI (1)) hx hb dX10_goesBack_49 (by decide) ?_
          refine lv_goto (tgt := 76) hx hb dX10_goesBack_50 (by decide) ?_
          exact J76 1 (by unfold tbk; rw [if_pos c_46]) _ (lv_sub hl [0, 1, 2, 3, 4, 5] rfl)
  exact L7 ((Fl f0 - 0) + 1) 0 F P (by omega) rfl hF hPw rfl (Nat.lt_succ_self _) g_1 _ _ h114_1 h115_1 (fun j n0 n1 => hfr_1 j (by omega)) hP hS _ (lv_sub hl [0, 1, 2, 3] rfl)

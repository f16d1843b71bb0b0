set_option maxHeartbeats 4000000 in
set_option maxRecDepth 100000 in
theorem c_X10_record (l : Launch) (D : va_G) (cy : Nat → ClassId) (ad : Nat → Nat) (N : Nat) (g : Nat → va_E) (hinj : ∀ i j : Nat, i < N → j < N → ad i = ad j → i = j) (hN : 145 ≤ N) (n : Nat) (fa : Nat) (he : Nat) (ov : Nat) (un : Nat) (la : Int32) (bo : Int32) (tp : Nat) (ft : Int32) (wr0 : Nat) (wa : Nat) (at0 : Nat) (sp : Nat) (tk : Nat) (vl : Int32) (fi : Nat) (nm : Nat) (dp : Nat) (wy : Int32) (st : Int32) (aP : Nat) (aF : Nat) (aH : Nat) (aO : Nat) (ps : Nat) (mn : Nat) (go : Int32) (vi : Nat) (hM : g 114 = mob ad (nI (n)) (nI (fa)) (nI (he)) (lN ov) (nI (un)) la bo (nI (tp)) ft (nI (wr0)) (nI (wa)) (nI (at0)) (nI (sp)) (nI (tk)) vl (nI (fi)) (nI (nm)) (nI (dp)) wy st (nI (aP)) (nI (aF)) (nI (aH)) (lN aO) (nI (ps)) (nI (mn)) go (nI (vi))) (hn4 : 4 ≤ n) (hn8 : n ≤ 8) (P : Nat → Nat) (hP9 : g 115 = .inl (cy 1, 8, .inl (fun x9 => nI (P x9)))) (OP : Nat → Nat) (hO1 : g 116 = .inl (cy 1, 12, .inl (fun x9 => nI (OP x9)))) (OF : Nat → Nat) (hO2 : g 117 = .inl (cy 1, 12, .inl (fun x9 => nI (OF x9)))) (OH : Nat → Nat) (hO3 : g 118 = .inl (cy 1, 12, .inl (fun x9 => nI (OH x9)))) (OO : Nat → Int64) (hO4 : g 119 = .inl (cy 2, 12, .inr (.inl OO))) (hun : un ≤ 12) : Met l yX10_record (WS yX10_record cX10_record 2 none) (rmF 1 22) (PP [.ref (ad 114)] D cy ad N g) (QV (fun g1 => g1 114 = mob ad (nI (n)) (nI (fa)) (nI (he)) (lN ov) (nI (if un + 1 < 12 then un + 1 else 12)) la bo (nI (tp)) ft (nI (wr0)) (nI (wa)) (nI (at0)) (nI (sp)) (nI (tk)) vl (nI (fi)) (nI (nm)) (nI (dp)) wy st (nI (aP)) (nI (aF)) (nI (aH)) (lN aO) (nI (ps)) (nI (mn)) go (nI (vi)) ∧ g1 116 = .inl (cy 1, 12, .inl (fun x9 => nI ((psh un OP (pk P n)) x9))) ∧ g1 117 = .inl (cy 1, 12, .inl (fun x9 => nI ((psh un OF fa) x9))) ∧ g1 118 = .inl (cy 1, 12, .inl (fun x9 => nI ((psh un OH he) x9))) ∧ g1 119 = .inl (cy 2, 12, .inr (.inl (psh un OO (lN ov)))) ∧ (∀ j, j ≠ 114 → j ≠ 116 → j ≠ 117 → j ≠ 118 → j ≠ 119 → g1 j = g j)) D ad N) 0 0 (AA ad N) := by
  refine mentry (by decide) (Nat.le_of_ble_eq_true rfl) (fun p e s m below meth c ls S hr hlk hnm hP hK hl => ?_)
  have S : CallFix p m c cX10_record 2 s _ wsL_law RX10 := S
  have hx := S.1
  have hb := S.2.1
  have hl : lv_has ls 2 [(0, .ref (ad 114))] := hl
  have hI : MD (AA ad N) ad N := MD.in hinj
  have hS : va_S (AA ad N) s.heap s.heap [] := va_S.rf
  have hfr : ∀ j : Nat, g j = g j := fun _ => rfl
  refine lv_aload_n hx hb dX10_record_0 rfl (lv_at hl 0 rfl) ?_
  refine mg S hK hP (by omega) hM fd_X10_123 rfl dX10_record_1 ?_
  refine lv_bipush (v := nI (12)) hx hb dX10_record_4 (by decide) ?_
  have J89 : ∀ (u1 : Nat) (A1 A2 A3 : Nat → Nat) (A4 : Nat → Int64), (u1 = if un = 12 then 11 else un) → (A1 = if un = 12 then shf 11 OP else OP) → (A2 = if un = 12 then shf 11 OF else OF) → (A3 = if un = 12 then shf 11 OH else OH) → (A4 = if un = 12 then shf 11 OO else OO) → ∀ (g_1 : Nat → va_E) (H : Heap) (locs : List Loc), g_1 114 = mob ad (nI (n)) (nI (fa)) (nI (he)) (lN ov) (nI (u1)) la bo (nI (tp)) ft (nI (wr0)) (nI (wa)) (nI (at0)) (nI (sp)) (nI (tk)) vl (nI (fi)) (nI (nm)) (nI (dp)) wy st (nI (aP)) (nI (aF)) (nI (aH)) (lN aO) (nI (ps)) (nI (mn)) go (nI (vi)) → g_1 116 = .inl (cy 1, 12, .inl (fun x9 => nI (A1 x9))) → g_1 117 = .inl (cy 1, 12, .inl (fun x9 => nI (A2 x9))) → g_1 118 = .inl (cy 1, 12, .inl (fun x9 => nI (A3 x9))) → g_1 119 = .inl (cy 2, 12, .inr (.inl A4)) → (∀ j : Nat, j ≠ 114 → j ≠ 116 → j ≠ 117 → j ≠ 118 → j ≠ 119 → g_1 j = g j) → MM D ad N g_1 H → va_S (AA ad N) s.heap H locs → ∀ (ls : Array Slot), lv_has ls 2 [(0, .ref (ad 114))] → W p l e (rmF 1 22) s m [.ref (ad 114)].toArray below meth c H locs 0 0 (MQ below (QV (fun g1 => g1 114 = mob ad (nI (n)) (nI (fa)) (nI (he)) (lN ov) (nI (if un + 1 < 12 then un + 1 else 12)) la bo (nI (tp)) ft (nI (wr0)) (nI (wa)) (nI (at0)) (nI (sp)) (nI (tk)) vl (nI (fi)) (nI (nm)) (nI (dp)) wy st (nI (aP)) (nI (aF)) (nI (aH)) (lN aO) (nI (ps)) (nI (mn)) go (nI (vi)) ∧ g1 116 = .inl (cy 1, 12, .inl (fun x9 => nI ((psh un OP (pk P n)) x9))) ∧ g1 117 = .inl (cy 1, 12, .inl (fun x9 => nI ((psh un OF fa) x9))) ∧ g1 118 = .inl (cy 1, 12, .inl (fun x9 => nI ((psh un OH he) x9))) ∧ g1 119 = .inl (cy 2, 12, .inr (.inl (psh un OO (lN ov)))) ∧ (∀ j, j ≠ 114 → j ≠ 116 → j ≠ 117 → j ≠ 118 → j ≠ 119 → g1 j = g j)) D ad N) [.ref (ad 114)].toArray s 0 0 (AA ad N)) (F0 m 89 ls []) := by
    intro u1 A1 A2 A3 A4 hu1 hA1 hA2 hA3 hA4 g_1 H locs h114_1 h116_1 h117_1 h118_1 h119_1 hfr_1 hP hS ls hl
    have h115_1 : g_1 115 = .inl (cy 1, 8, .inl (fun x9 => nI (P x9))) := (hfr_1 115 (by omega) (by omega) (by omega) (by omega) (by omega)).trans hP9
    have hu2 : u1 ≤ 11 := by rw [hu1]; split <;> omega
    refine lv_aload_n hx hb dX10_record_89 rfl (lv_at hl 0 rfl) ?_
    refine mg S hK hP (by omega) h114_1 fd_X10_23 rfl dX10_record_90 ?_
    refine lv_aload_n hx hb dX10_record_93 rfl (lv_at hl 0 rfl) ?_
    refine mg S hK hP (by omega) h114_1 fd_X10_123 rfl dX10_record_94 ?_
    refine lv_aload_n hx hb dX10_record_97 rfl (lv_at hl 0 rfl) ?_
    refine kVi (As := []) (rest := [.int (nI (u1)), .ref (ad 116)]) S hK hP (c_X10_packed l D cy ad N g_1 (by omega) n fa he ov u1 la bo tp ft wr0 wa at0 sp tk vl fi nm dp wy st aP aF aH aO ps mn go vi h114_1 hn4 hn8 P h115_1) cv_X10_153 (by omega) h114_1 ⟨_, _, rfl⟩ ⟨rfl, rfl⟩ rfl hl.1 rfl (Nat.le_of_ble_eq_true rfl) ⟨Nat.zero_le _, Nat.zero_le _⟩ dX10_record_98 (fun r_98 q_98 => ?_)
    subst q_98
    refine mias S hK hP hI hS (by omega) h116_1 (vp_in_nI (by omega) (by omega)) dX10_record_101 (fun g_2 H locs eg_2 hP hS => ?_)
    have h116_2 : g_2 116 = .inl (cy 1, 12, .inl (fun x9 => nI ((va_up A1 u1 (pk P n)) x9))) := by rw [eg_2, va_up_self]; exact (arrN_up (by omega))
    have h114_2 : g_2 114 = mob ad (nI (n)) (nI (fa)) (nI (he)) (lN ov) (nI (u1)) la bo (nI (tp)) ft (nI (wr0)) (nI (wa)) (nI (at0)) (nI (sp)) (nI (tk)) vl (nI (fi)) (nI (nm)) (nI (dp)) wy st (nI (aP)) (nI (aF)) (nI (aH)) (lN aO) (nI (ps)) (nI (mn)) go (nI (vi)) := ((congrFun eg_2 _).trans (va_up_ne _ _ (by omega))).trans h114_1
    have h115_2 : g_2 115 = .inl (cy 1, 8, .inl (fun x9 => nI (P x9))) := ((congrFun eg_2 _).trans (va_up_ne _ _ (by omega))).trans h115_1
    have h117_2 : g_2 117 = .inl (cy 1, 12, .inl (fun x9 => nI (A2 x9))) := ((congrFun eg_2 _).trans (va_up_ne _ _ (by omega))).trans h117_1
    have h118_2 : g_2 118 = .inl (cy 1, 12, .inl (fun x9 => nI (A3 x9))) := ((congrFun eg_2 _).trans (va_up_ne _ _ (by omega))).trans h118_1
    have h119_2 : g_2 119 = .inl (cy 2, 12, .inr (.inl A4)) := ((congrFun eg_2 _).trans (va_up_ne _ _ (by omega))).trans h119_1
    have hfr_2 : ∀ j : Nat, j ≠ 114 → j ≠ 116 → j ≠ 117 → j ≠ 118 → j ≠ 119 → g_2 j = g j := fun j n0 n1 n2 n3 n4 => ((congrFun eg_2 _).trans (va_up_ne _ _ n1)).trans (hfr_1 j n0 n1 n2 n3 n4)
    refine lv_aload_n hx hb dX10_record_102 rfl (lv_at hl 0 rfl) ?_
    refine mg S hK hP (by omega) h114_2 fd_X10_26 rfl dX10_record_103 ?_
    refine lv_aload_n hx hb dX10_record_106 rfl (lv_at hl 0 rfl) ?_
    refine mg S hK hP (by omega) h114_2 fd_X10_123 rfl dX10_record_107 ?_
    refine lv_aload_n hx hb dX10_record_110 rfl (lv_at hl 0 rfl) ?_
    refine mg S hK hP (by omega) h114_2 fd_X10_17 rfl dX10_record_111 ?_
    refine mias S hK hP hI hS (by omega) h117_2 (vp_in_nI (by omega) (by omega)) dX10_record_114 (fun g_3 H locs eg_3 hP hS => ?_)
    have h117_3 : g_3 117 = .inl (cy 1, 12, .inl (fun x9 => nI ((va_up A2 u1 fa) x9))) := by rw [eg_3, va_up_self]; exact (arrN_up (by omega))
    have h114_3 : g_3 114 = mob ad (nI (n)) (nI (fa)) (nI (he)) (lN ov) (nI (u1)) la bo (nI (tp)) ft (nI (wr0)) (nI (wa)) (nI (at0)) (nI (sp)) (nI (tk)) vl (nI (fi)) (nI (nm)) (nI (dp)) wy st (nI (aP)) (nI (aF)) (nI (aH)) (lN aO) (nI (ps)) (nI (mn)) go (nI (vi)) := ((congrFun eg_3 _).trans (va_up_ne _ _ (by omega))).trans h114_2
    have h115_3 : g_3 115 = .inl (cy 1, 8, .inl (fun x9 => nI (P x9))) := ((congrFun eg_3 _).trans (va_up_ne _ _ (by omega))).trans h115_2
    have h116_3 : g_3 116 = .inl (cy 1, 12, .inl (fun x9 => nI ((va_up A1 u1 (pk P n)) x9))) := ((congrFun eg_3 _).trans (va_up_ne _ _ (by omega))).trans h116_2
    have h118_3 : g_3 118 = .inl (cy 1, 12, .inl (fun x9 => nI (A3 x9))) := ((congrFun eg_3 _).trans (va_up_ne _ _ (by omega))).trans h118_2
    have h119_3 : g_3 119 = .inl (cy 2, 12, .inr (.inl A4)) := ((congrFun eg_3 _).trans (va_up_ne _ _ (by omega))).trans h119_2
    have hfr_3 : ∀ j : Nat, j ≠ 114 → j ≠ 116 → j ≠ 117 → j ≠ 118 → j ≠ 119 → g_3 j = g j := fun j n0 n1 n2 n3 n4 => ((congrFun eg_3 _).trans (va_up_ne _ _ n2)).trans (hfr_2 j n0 n1 n2 n3 n4)
    refine lv_aload_n hx hb dX10_record_115 rfl (lv_at hl 0 rfl) ?_
    refine mg S hK hP (by omega) h114_3 fd_X10_29 rfl dX10_record_116 ?_
    refine lv_aload_n hx hb dX10_record_119 rfl (lv_at hl 0 rfl) ?_
    refine mg S hK hP (by omega) h114_3 fd_X10_123 rfl dX10_record_120 ?_
    refine lv_aload_n hx hb dX10_record_123 rfl (lv_at hl 0 rfl) ?_
    refine mg S hK hP (by omega) h114_3 fd_X10_20 rfl dX10_record_124 ?_
    refine mias S hK hP hI hS (by omega) h118_3 (vp_in_nI (by omega) (by omega)) dX10_record_127 (fun g_4 H locs eg_4 hP hS => ?_)
    have h118_4 : g_4 118 = .inl (cy 1, 12, .inl (fun x9 => nI ((va_up A3 u1 he) x9))) := by rw [eg_4, va_up_self]; exact (arrN_up (by omega))
    have h114_4 : g_4 114 = mob ad (nI (n)) (nI (fa)) (nI (he)) (lN ov) (nI (u1)) la bo (nI (tp)) ft (nI (wr0)) (nI (wa)) (nI (at0)) (nI (sp)) (nI (tk)) vl (nI (fi)) (nI (nm)) (nI (dp)) wy st (nI (aP)) (nI (aF)) (nI (aH)) (lN aO) (nI (ps)) (nI (mn)) go (nI (vi)) := ((congrFun eg_4 _).trans (va_up_ne _ _ (by omega))).trans h114_3
    have h115_4 : g_4 115 = .inl (cy 1, 8, .inl (fun x9 => nI (P x9))) := ((congrFun eg_4 _).trans (va_up_ne _ _ (by omega))).trans h115_3
    have h116_4 : g_4 116 = .inl (cy 1, 12, .inl (fun x9 => nI ((va_up A1 u1 (pk P n)) x9))) := ((congrFun eg_4 _).trans (va_up_ne _ _ (by omega))).trans h116_3
    have h117_4 : g_4 117 = .inl (cy 1, 12, .inl (fun x9 => nI ((va_up A2 u1 fa) x9))) := ((congrFun eg_4 _).trans (va_up_ne _ _ (by omega))).trans h117_3
    have h119_4 : g_4 119 = .inl (cy 2, 12, .inr (.inl A4)) := ((congrFun eg_4 _).trans (va_up_ne _ _ (by omega))).trans h119_3
    have hfr_4 : ∀ j : Nat, j ≠ 114 → j ≠ 116 → j ≠ 117 → j ≠ 118 → j ≠ 119 → g_4 j = g j := fun j n0 n1 n2 n3 n4 => ((congrFun eg_4 _).trans (va_up_ne _ _ n3)).trans (hfr_3 j n0 n1 n2 n3 n4)
    refine lv_aload_n hx hb dX10_record_128 rfl (lv_at hl 0 rfl) ?_
    refine mg S hK hP (by omega) h114_4 fd_X10_32 rfl dX10_record_129 ?_
    refine lv_aload_n hx hb dX10_record_132 rfl (lv_at hl 0 rfl) ?_
    refine mg S hK hP (by omega) h114_4 fd_X10_123 rfl dX10_record_133 ?_
    refine lv_aload_n hx hb dX10_record_136 rfl (lv_at hl 0 rfl) ?_
    refine mg S hK hP (by omega) h114_4 fd_X10_119 rfl dX10_record_137 ?_
    refine mlas S hK hP hI hS (by omega) h119_4 (vp_in_nI (by omega) (by omega)) dX10_record_140 (fun g_5 H locs eg_5 hP hS => ?_)
    have h119_5 : g_5 119 = .inl (cy 2, 12, .inr (.inl (vp_updL A4 u1 (lN ov)))) := by rw [eg_5, va_up_self]; exact (arrL_up (by omega))
    have h114_5 : g_5 114 = mob ad (nI (n)) (nI (fa)) (nI (he)) (lN ov) (nI (u1)) la bo (nI (tp)) ft (nI (wr0)) (nI (wa)) (nI (at0)) (nI (sp)) (nI (tk)) vl (nI (fi)) (nI (nm)) (nI (dp)) wy st (nI (aP)) (nI (aF)) (nI (aH)) (lN aO) (nI (ps)) (nI (mn)) go (nI (vi)) := ((congrFun eg_5 _).trans (va_up_ne _ _ (by omega))).trans h114_4
    have h115_5 : g_5 115 = .inl (cy 1, 8, .inl (fun x9 => nI (P x9))) := ((congrFun eg_5 _).trans (va_up_ne _ _ (by omega))).trans h115_4
    have h116_5 : g_5 116 = .inl (cy 1, 12, .inl (fun x9 => nI ((va_up A1 u1 (pk P n)) x9))) := ((congrFun eg_5 _).trans (va_up_ne _ _ (by omega))).trans h116_4
    have h117_5 : g_5 117 = .inl (cy 1, 12, .inl (fun x9 => nI ((va_up A2 u1 fa) x9))) := ((congrFun eg_5 _).trans (va_up_ne _ _ (by omega))).trans h117_4
    have h118_5 : g_5 118 = .inl (cy 1, 12, .inl (fun x9 => nI ((va_up A3 u1 he) x9))) := ((congrFun eg_5 _).trans (va_up_ne _ _ (by omega))).trans h118_4
    have hfr_5 : ∀ j : Nat, j ≠ 114 → j ≠ 116 → j ≠ 117 → j ≠ 118 → j ≠ 119 → g_5 j = g j := fun j n0 n1 n2 n3 n4 => ((congrFun eg_5 _).trans (va_up_ne _ _ n4)).trans (hfr_4 j n0 n1 n2 n3 n4)
    refine lv_aload_n hx hb dX10_record_141 rfl (lv_at hl 0 rfl) ?_
    refine lv_dup hx hb dX10_record_142 rfl ?_
    refine mg S hK hP (by omega) h114_5 fd_X10_123 rfl dX10_record_143 ?_
    refine lv_iconst (v := nI (1)) hx hb dX10_record_146 (by decide) ?_
    refine lv_iadd hx hb dX10_record_147 ?_
    refine tpi (nI_add u1 1) ?_
    refine mp S hK hP hI hS (by omega) h114_5 fd_X10_123 rfl rfl (Nat.le_of_ble_eq_true rfl) dX10_record_148 (fun g_6 H locs eg_6 hP hS => ?_)
    have h114_6 : g_6 114 = mob ad (nI (n)) (nI (fa)) (nI (he)) (lN ov) (nI (u1 + 1)) la bo (nI (tp)) ft (nI (wr0)) (nI (wa)) (nI (at0)) (nI (sp)) (nI (tk)) vl (nI (fi)) (nI (nm)) (nI (dp)) wy st (nI (aP)) (nI (aF)) (nI (aH)) (lN aO) (nI (ps)) (nI (mn)) go (nI (vi)) := by rw [eg_6, va_up_self]; exact rfl
    have h115_6 : g_6 115 = .inl (cy 1, 8, .inl (fun x9 => nI (P x9))) := ((congrFun eg_6 _).trans (va_up_ne _ _ (by omega))).trans h115_5
    have h116_6 : g_6 116 = .inl (cy 1, 12, .inl (fun x9 => nI ((va_up A1 u1 (pk P n)) x9))) := ((congrFun eg_6 _).trans (va_up_ne _ _ (by omega))).trans h116_5
    have h117_6 : g_6 117 = .inl (cy 1, 12, .inl (fun x9 => nI ((va_up A2 u1 fa) x9))) := ((congrFun eg_6 _).trans (va_up_ne _ _ (by omega))).trans h117_5
    have h118_6 : g_6 118 = .inl (cy 1, 12, .inl (fun x9 => nI ((va_up A3 u1 he) x9))) := ((congrFun eg_6 _).trans (va_up_ne _ _ (by omega))).trans h118_5
    have h119_6 : g_6 119 = .inl (cy 2, 12, .inr (.inl (vp_updL A4 u1 (lN ov)))) := ((congrFun eg_6 _).trans (va_up_ne _ _ (by omega))).trans h119_5
    have hfr_6 : ∀ j : Nat, j ≠ 114 → j ≠ 116 → j ≠ 117 → j ≠ 118 → j ≠ 119 → g_6 j = g j := fun j n0 n1 n2 n3 n4 => ((congrFun eg_6 _).trans (va_up_ne _ _ n0)).trans (hfr_5 j n0 n1 n2 n3 n4)
    have hu2 : u1 ≤ 11 := by rw [hu1]; split <;> omega
    have eu : (if un + 1 < 12 then un + 1 else 12) = u1 + 1 := by rw [hu1]; split <;> split <;> omega
    exact rMv S hr hlk hP hS ⟨(by rw [eu]; exact h114_6), (by unfold psh; rw [← hA1, ← hu1]; exact h116_6), (by unfold psh; rw [← hA2, ← hu1]; exact h117_6), (by unfold psh; rw [← hA3, ← hu1]; exact h118_6), (by unfold psh; rw [← hA4, ← hu1, ← updL_va]; exact h119_6), hfr_6⟩ dX10_record_151
  refine lv_icmp_ne (tgt := 89) hx hb dX10_record_6 (by decide) (fun c_6 => ?_) (fun c_6 => ?_)
  · skip
    have c_6 := (not_congr (nI_eq (by omega) (by omega))).mp c_6
    exact J89 un OP OF OH OO (if_neg c_6).symm (if_neg c_6).symm (if_neg c_6).symm (if_neg c_6).symm (if_neg c_6).symm g _ _ hM hO1 hO2 hO3 hO4 (fun j n0 n1 n2 n3 n4 => hfr j ) hP hS _ (lv_sub hl [0] rfl)
  · skip
    have c_6 := (nI_eq (by omega) (by omega)).mp c_6
    refine lv_iconst (v := nI (1)) hx hb dX10_record_9 (by decide) ?_
    refine lv_istore_n (lv' := [(1, .int (nI (1))), (0, .ref (ad 114))]) hx hb dX10_record_10 rfl hl (by decide) rfl (fun ls hl => ?_)
    have L11 : ∀ (fu : Nat) (j : Nat), (j ≤ 11) → (11 - j) < fu → ∀ (g_7 : Nat → va_E) (H : Heap) (locs : List Loc), g_7 116 = .inl (cy 1, 12, .inl (fun x9 => nI ((shf j OP) x9))) → g_7 117 = .inl (cy 1, 12, .inl (fun x9 => nI ((shf j OF) x9))) → g_7 118 = .inl (cy 1, 12, .inl (fun x9 => nI ((shf j OH) x9))) → g_7 119 = .inl (cy 2, 12, .inr (.inl (shf j OO))) → (∀ j : Nat, j ≠ 116 → j ≠ 117 → j ≠ 118 → j ≠ 119 → g_7 j = g j) → MM D ad N g_7 H → va_S (AA ad N) s.heap H locs → ∀ (ls : Array Slot), lv_has ls 2 [(1, .int (nI (j + 1))), (0, .ref (ad 114))] → W p l e (rmF 1 22) s m [.ref (ad 114)].toArray below meth c H locs 0 0 (MQ below (QV (fun g1 => g1 114 = mob ad (nI (n)) (nI (fa)) (nI (he)) (lN ov) (nI (if un + 1 < 12 then un + 1 else 12)) la bo (nI (tp)) ft (nI (wr0)) (nI (wa)) (nI (at0)) (nI (sp)) (nI (tk)) vl (nI (fi)) (nI (nm)) (nI (dp)) wy st (nI (aP)) (nI (aF)) (nI (aH)) (lN aO) (nI (ps)) (nI (mn)) go (nI (vi)) ∧ g1 116 = .inl (cy 1, 12, .inl (fun x9 => nI ((psh un OP (pk P n)) x9))) ∧ g1 117 = .inl (cy 1, 12, .inl (fun x9 => nI ((psh un OF fa) x9))) ∧ g1 118 = .inl (cy 1, 12, .inl (fun x9 => nI ((psh un OH he) x9))) ∧ g1 119 = .inl (cy 2, 12, .inr (.inl (psh un OO (lN ov)))) ∧ (∀ j, j ≠ 114 → j ≠ 116 → j ≠ 117 → j ≠ 118 → j ≠ 119 → g1 j = g j)) D ad N) [.ref (ad 114)].toArray s 0 0 (AA ad N)) (F0 m 11 ls []) := by
      intro fu
      induction fu with
      | zero => intro j hj hms g_7 H locs h116_7 h117_7 h118_7 h119_7 hfr_7 hP hS ls hl; exact absurd hms (Nat.not_lt_zero _)
      | succ fu ih11 =>
        intro j hj hms g_7 H locs h116_7 h117_7 h118_7 h119_7 hfr_7 hP hS ls hl
        have h114_7 : g_7 114 = mob ad (nI (n)) (nI (fa)) (nI (he)) (lN ov) (nI (un)) la bo (nI (tp)) ft (nI (wr0)) (nI (wa)) (nI (at0)) (nI (sp)) (nI (tk)) vl (nI (fi)) (nI (nm)) (nI (dp)) wy st (nI (aP)) (nI (aF)) (nI (aH)) (lN aO) (nI (ps)) (nI (mn)) go (nI (vi)) := (hfr_7 114 (by omega) (by omega) (by omega) (by omega)).trans hM
        have h115_7 : g_7 115 = .inl (cy 1, 8, .inl (fun x9 => nI (P x9))) := (hfr_7 115 (by omega) (by omega) (by omega) (by omega)).trans hP9
        refine lv_iload_n hx hb dX10_record_11 rfl (lv_at hl 0 rfl) ?_
        refine lv_bipush (v := nI (12)) hx hb dX10_record_12 (by decide) ?_
        refine lv_icmp_ge (tgt := 79) hx hb dX10_record_14 (by decide) (fun c_14 => ?_) (fun c_14 => ?_)
        · skip
          have c_14 := (nI_leI (by omega) (by omega)).mp c_14
          refine lv_aload_n hx hb dX10_record_79 rfl (lv_at hl 1 rfl) ?_
          refine lv_dup hx hb dX10_record_80 rfl ?_
          refine mg S hK hP (by omega) h114_7 fd_X10_123 rfl dX10_record_81 ?_
          refine lv_iconst (v := nI (1)) hx hb dX10_record_84 (by decide) ?_
          refine lv_isub hx hb dX10_record_85 ?_
          refine tpi (pk_sub (a := un) (b := 1) (by omega)) ?_
          refine mp S hK hP hI hS (by omega) h114_7 fd_X10_123 rfl rfl (Nat.le_of_ble_eq_true rfl) dX10_record_86 (fun g_8 H locs eg_8 hP hS => ?_)
          have h114_8 : g_8 114 = mob ad (nI (n)) (nI (fa)) (nI (he)) (lN ov) (nI (un - 1)) la bo (nI (tp)) ft (nI (wr0)) (nI (wa)) (nI (at0)) (nI (sp)) (nI (tk)) vl (nI (fi)) (nI (nm)) (nI (dp)) wy st (nI (aP)) (nI (aF)) (nI (aH)) (lN aO) (nI (ps)) (nI (mn)) go (nI (vi)) := by rw [eg_8, va_up_self]; exact rfl
          have h115_8 : g_8 115 = .inl (cy 1, 8, .inl (fun x9 => nI (P x9))) := ((congrFun eg_8 _).trans (va_up_ne _ _ (by omega))).trans h115_7
          have h116_8 : g_8 116 = .inl (cy 1, 12, .inl (fun x9 => nI ((shf j OP) x9))) := ((congrFun eg_8 _).trans (va_up_ne _ _ (by omega))).trans h116_7
          have h117_8 : g_8 117 = .inl (cy 1, 12, .inl (fun x9 => nI ((shf j OF) x9))) := ((congrFun eg_8 _).trans (va_up_ne _ _ (by omega))).trans h117_7
          have h118_8 : g_8 118 = .inl (cy 1, 12, .inl (fun x9 => nI ((shf j OH) x9))) := ((congrFun eg_8 _).trans (va_up_ne _ _ (by omega))).trans h118_7
          have h119_8 : g_8 119 = .inl (cy 2, 12, .inr (.inl (shf j OO))) := ((congrFun eg_8 _).trans (va_up_ne _ _ (by omega))).trans h119_7
          have hfr_8 : ∀ j : Nat, j ≠ 116 → j ≠ 117 → j ≠ 118 → j ≠ 119 → j ≠ 114 → g_8 j = g j := fun j n0 n1 n2 n3 n4 => ((congrFun eg_8 _).trans (va_up_ne _ _ n4)).trans (hfr_7 j n0 n1 n2 n3)
          exact J89 (un - 1) (shf j OP) (shf j OF) (shf j OH) (shf j OO) (by rw [if_pos c_6, c_6]) (by rw [if_pos c_6, show j = 11 by omega]) (by rw [if_pos c_6, show j = 11 by omega]) (by rw [if_pos c_6, show j = 11 by omega]) (by rw [if_pos c_6, show j = 11 by omega]) g_8 _ _ h114_8 h116_8 h117_8 h118_8 h119_8 (fun j n0 n1 n2 n3 n4 => hfr_8 j (by omega) (by omega) (by omega) (by omega) (by omega)) hP hS _ (lv_sub hl [1] rfl)
        · skip
          have c_14 := (not_congr (nI_leI (by omega) (by omega))).mp c_14
          refine lv_aload_n hx hb dX10_record_17 rfl (lv_at hl 1 rfl) ?_
          refine mg S hK hP (by omega) h114_7 fd_X10_23 rfl dX10_record_18 ?_
          refine lv_iload_n hx hb dX10_record_21 rfl (lv_at hl 0 rfl) ?_
          refine lv_iconst (v := nI (1)) hx hb dX10_record_22 (by decide) ?_
          refine lv_isub hx hb dX10_record_23 ?_
          refine tpi (pk_sub (a := j + 1) (b := 1) (by omega)) ?_
          refine tpi (by rw [Nat.add_sub_cancel]) ?_
          refine lv_aload_n hx hb dX10_record_24 rfl (lv_at hl 1 rfl) ?_
          refine mg S hK hP (by omega) h114_7 fd_X10_23 rfl dX10_record_25 ?_
          refine lv_iload_n hx hb dX10_record_28 rfl (lv_at hl 0 rfl) ?_
          refine mial S hK hP (by omega) h116_7 (vp_in_nI (by omega) (by omega)) dX10_record_29 ?_
          refine tpi (congrArg ((fun x9 => nI ((shf j OP) x9))) (nI_clamp (by omega))) ?_
          refine mias S hK hP hI hS (by omega) h116_7 (vp_in_nI (by omega) (by omega)) dX10_record_30 (fun g_9 H locs eg_9 hP hS => ?_)
          have h116_9 : g_9 116 = .inl (cy 1, 12, .inl (fun x9 => nI ((va_up (shf j OP) j ((shf j OP) (j + 1))) x9))) := by rw [eg_9, va_up_self]; exact (arrN_up (by omega))
          have h114_9 : g_9 114 = mob ad (nI (n)) (nI (fa)) (nI (he)) (lN ov) (nI (un)) la bo (nI (tp)) ft (nI (wr0)) (nI (wa)) (nI (at0)) (nI (sp)) (nI (tk)) vl (nI (fi)) (nI (nm)) (nI (dp)) wy st (nI (aP)) (nI (aF)) (nI (aH)) (lN aO) (nI (ps)) (nI (mn)) go (nI (vi)) := ((congrFun eg_9 _).trans (va_up_ne _ _ (by omega))).trans h114_7
          have h115_9 : g_9 115 = .inl (cy 1, 8, .inl (fun x9 => nI (P x9))) := ((congrFun eg_9 _).trans (va_up_ne _ _ (by omega))).trans h115_7
          have h117_9 : g_9 117 = .inl (cy 1, 12, .inl (fun x9 => nI ((shf j OF) x9))) := ((congrFun eg_9 _).trans (va_up_ne _ _ (by omega))).trans h117_7
          have h118_9 : g_9 118 = .inl (cy 1, 12, .inl (fun x9 => nI ((shf j OH) x9))) := ((congrFun eg_9 _).trans (va_up_ne _ _ (by omega))).trans h118_7
          have h119_9 : g_9 119 = .inl (cy 2, 12, .inr (.inl (shf j OO))) := ((congrFun eg_9 _).trans (va_up_ne _ _ (by omega))).trans h119_7
          have hfr_9 : ∀ j : Nat, j ≠ 116 → j ≠ 117 → j ≠ 118 → j ≠ 119 → g_9 j = g j := fun j n0 n1 n2 n3 => ((congrFun eg_9 _).trans (va_up_ne _ _ n0)).trans (hfr_7 j n0 n1 n2 n3)
          refine lv_aload_n hx hb dX10_record_31 rfl (lv_at hl 1 rfl) ?_
          refine mg S hK hP (by omega) h114_9 fd_X10_26 rfl dX10_record_32 ?_
          refine lv_iload_n hx hb dX10_record_35 rfl (lv_at hl 0 rfl) ?_
          refine lv_iconst (v := nI (1)) hx hb dX10_record_36 (by decide) ?_
          refine lv_isub hx hb dX10_record_37 ?_
          refine tpi (pk_sub (a := j + 1) (b := 1) (by omega)) ?_
          refine tpi (by rw [Nat.add_sub_cancel]) ?_
          refine lv_aload_n hx hb dX10_record_38 rfl (lv_at hl 1 rfl) ?_
          refine mg S hK hP (by omega) h114_9 fd_X10_26 rfl dX10_record_39 ?_
          refine lv_iload_n hx hb dX10_record_42 rfl (lv_at hl 0 rfl) ?_
          refine mial S hK hP (by omega) h117_9 (vp_in_nI (by omega) (by omega)) dX10_record_43 ?_
          refine tpi (congrArg ((fun x9 => nI ((shf j OF) x9))) (nI_clamp (by omega))) ?_
          refine mias S hK hP hI hS (by omega) h117_9 (vp_in_nI (by omega) (by omega)) dX10_record_44 (fun g_10 H locs eg_10 hP hS => ?_)
          have h117_10 : g_10 117 = .inl (cy 1, 12, .inl (fun x9 => nI ((va_up (shf j OF) j ((shf j OF) (j + 1))) x9))) := by rw [eg_10, va_up_self]; exact (arrN_up (by omega))
          have h114_10 : g_10 114 = mob ad (nI (n)) (nI (fa)) (nI (he)) (lN ov) (nI (un)) la bo (nI (tp)) ft (nI (wr0)) (nI (wa)) (nI (at0)) (nI (sp)) (nI (tk)) vl (nI (fi)) (nI (nm)) (nI (dp)) wy st (nI (aP)) (nI (aF)) (nI (aH)) (lN aO) (nI (ps)) (nI (mn)) go (nI (vi)) := ((congrFun eg_10 _).trans (va_up_ne _ _ (by omega))).trans h114_9
          have h115_10 : g_10 115 = .inl (cy 1, 8, .inl (fun x9 => nI (P x9))) := ((congrFun eg_10 _).trans (va_up_ne _ _ (by omega))).trans h115_9
          have h116_10 : g_10 116 = .inl (cy 1, 12, .inl (fun x9 => nI ((va_up (shf j OP) j ((shf j OP) (j + 1))) x9))) := ((congrFun eg_10 _).trans (va_up_ne _ _ (by omega))).trans h116_9
          have h118_10 : g_10 118 = .inl (cy 1, 12, .inl (fun x9 => nI ((shf j OH) x9))) := ((congrFun eg_10 _).trans (va_up_ne _ _ (by omega))).trans h118_9
          have h119_10 : g_10 119 = .inl (cy 2, 12, .inr (.inl (shf j OO))) := ((congrFun eg_10 _).trans (va_up_ne _ _ (by omega))).trans h119_9
          have hfr_10 : ∀ j : Nat, j ≠ 116 → j ≠ 117 → j ≠ 118 → j ≠ 119 → g_10 j = g j := fun j n0 n1 n2 n3 => ((congrFun eg_10 _).trans (va_up_ne _ _ n1)).trans (hfr_9 j n0 n1 n2 n3)
          refine lv_aload_n hx hb dX10_record_45 rfl (lv_at hl 1 rfl) ?_
          refine mg S hK hP (by omega) h114_10 fd_X10_29 rfl dX10_record_46 ?_
          refine lv_iload_n hx hb dX10_record_49 rfl (lv_at hl 0 rfl) ?_
          refine lv_iconst (v := nI (1)) hx hb dX10_record_50 (by decide) ?_
          refine lv_isub hx hb dX10_record_51 ?_
          refine tpi (pk_sub (a := j + 1) (b := 1) (by omega)) ?_
          refine tpi (by rw [Nat.add_sub_cancel]) ?_
          refine lv_aload_n hx hb dX10_record_52 rfl (lv_at hl 1 rfl) ?_
          refine mg S hK hP (by omega) h114_10 fd_X10_29 rfl dX10_record_53 ?_
          refine lv_iload_n hx hb dX10_record_56 rfl (lv_at hl 0 rfl) ?_
          refine mial S hK hP (by omega) h118_10 (vp_in_nI (by omega) (by omega)) dX10_record_57 ?_
          refine tpi (congrArg ((fun x9 => nI ((shf j OH) x9))) (nI_clamp (by omega))) ?_
          refine mias S hK hP hI hS (by omega) h118_10 (vp_in_nI (by omega) (by omega)) dX10_record_58 (fun g_11 H locs eg_11 hP hS => ?_)
          have h118_11 : g_11 118 = .inl (cy 1, 12, .inl (fun x9 => nI ((va_up (shf j OH) j ((shf j OH) (j + 1))) x9))) := by rw [eg_11, va_up_self]; exact (arrN_up (by omega))
          have h114_11 : g_11 114 = mob ad (nI (n)) (nI (fa)) (nI (he)) (lN ov) (nI (un)) la bo (nI (tp)) ft (nI (wr0)) (nI (wa)) (nI (at0)) (nI (sp)) (nI (tk)) vl (nI (fi)) (nI (nm)) (nI (dp)) wy st (nI (aP)) (nI (aF)) (nI (aH)) (lN aO) (nI (ps)) (nI (mn)) go (nI (vi)) := ((congrFun eg_11 _).trans (va_up_ne _ _ (by omega))).trans h114_10
          have h115_11 : g_11 115 = .inl (cy 1, 8, .inl (fun x9 => nI (P x9))) := ((congrFun eg_11 _).trans (va_up_ne _ _ (by omega))).trans h115_10
          have h116_11 : g_11 116 = .inl (cy 1, 12, .inl (fun x9 => nI ((va_up (shf j OP) j ((shf j OP) (j + 1))) x9))) := ((congrFun eg_11 _).trans (va_up_ne _ _ (by omega))).trans h116_10
          have h117_11 : g_11 117 = .inl (cy 1, 12, .inl (fun x9 => nI ((va_up (shf j OF) j ((shf j OF) (j + 1))) x9))) := ((congrFun eg_11 _).trans (va_up_ne _ _ (by omega))).trans h117_10
          have h119_11 : g_11 119 = .inl (cy 2, 12, .inr (.inl (shf j OO))) := ((congrFun eg_11 _).trans (va_up_ne _ _ (by omega))).trans h119_10
          have hfr_11 : ∀ j : Nat, j ≠ 116 → j ≠ 117 → j ≠ 118 → j ≠ 119 → g_11 j = g j := fun j n0 n1 n2 n3 => ((congrFun eg_11 _).trans (va_up_ne _ _ n2)).trans (hfr_10 j n0 n1 n2 n3)
          refine lv_aload_n hx hb dX10_record_59 rfl (lv_at hl 1 rfl) ?_
          refine mg S hK hP (by omega) h114_11 fd_X10_32 rfl dX10_record_60 ?_
          refine lv_iload_n hx hb dX10_record_63 rfl (lv_at hl 0 rfl) ?_
          refine lv_iconst (v := nI (1)) hx hb dX10_record_64 (by decide) ?_
          refine lv_isub hx hb dX10_record_65 ?_
          refine tpi (pk_sub (a := j + 1) (b := 1) (by omega)) ?_
          refine tpi (by rw [Nat.add_sub_cancel]) ?_
          refine lv_aload_n hx hb dX10_record_66 rfl (lv_at hl 1 rfl) ?_
          refine mg S hK hP (by omega) h114_11 fd_X10_32 rfl dX10_record_67 ?_
          refine lv_iload_n hx hb dX10_record_70 rfl (lv_at hl 0 rfl) ?_
          refine mlal S hK hP (by omega) h119_11 (vp_in_nI (by omega) (by omega)) dX10_record_71 ?_
          refine tpl (congrArg (shf j OO) (nI_clamp (by omega))) ?_
          refine mlas S hK hP hI hS (by omega) h119_11 (vp_in_nI (by omega) (by omega)) dX10_record_72 (fun g_12 H locs eg_12 hP hS => ?_)
          have h119_12 : g_12 119 = .inl (cy 2, 12, .inr (.inl (vp_updL (shf j OO) j ((shf j OO) (j + 1))))) := by rw [eg_12, va_up_self]; exact (arrL_up (by omega))
          have h114_12 : g_12 114 = mob ad (nI (n)) (nI (fa)) (nI (he)) (lN ov) (nI (un)) la bo (nI (tp)) ft (nI (wr0)) (nI (wa)) (nI (at0)) (nI (sp)) (nI (tk)) vl (nI (fi)) (nI (nm)) (nI (dp)) wy st (nI (aP)) (nI (aF)) (nI (aH)) (lN aO) (nI (ps)) (nI (mn)) go (nI (vi)) := ((congrFun eg_12 _).trans (va_up_ne _ _ (by omega))).trans h114_11
          have h115_12 : g_12 115 = .inl (cy 1, 8, .inl (fun x9 => nI (P x9))) := ((congrFun eg_12 _).trans (va_up_ne _ _ (by omega))).trans h115_11
          have h116_12 : g_12 116 = .inl (cy 1, 12, .inl (fun x9 => nI ((va_up (shf j OP) j ((shf j OP) (j + 1))) x9))) := ((congrFun eg_12 _).trans (va_up_ne _ _ (by omega))).trans h116_11
          have h117_12 : g_12 117 = .inl (cy 1, 12, .inl (fun x9 => nI ((va_up (shf j OF) j ((shf j OF) (j + 1))) x9))) := ((congrFun eg_12 _).trans (va_up_ne _ _ (by omega))).trans h117_11
          have h118_12 : g_12 118 = .inl (cy 1, 12, .inl (fun x9 => nI ((va_up (shf j OH) j ((shf j OH) (j + 1))) x9))) := ((congrFun eg_12 _).trans (va_up_ne _ _ (by omega))).trans h118_11
          have hfr_12 : ∀ j : Nat, j ≠ 116 → j ≠ 117 → j ≠ 118 → j ≠ 119 → g_12 j = g j := fun j n0 n1 n2 n3 => ((congrFun eg_12 _).trans (va_up_ne _ _ n3)).trans (hfr_11 j n0 n1 n2 n3)
          refine lv_iinc (v := nI ((j + 1) + 1)) (lv' := [(1, .int (nI ((j + 1) + 1))), (0, .ref (ad 114))]) hx hb dX10_record_73 hl (k := 0) rfl (by exact nI_add (j + 1) 1) (by decide) rfl (fun ls hl => ?_)
          refine lv_goto (tgt := 11) hx hb dX10_record_76 (by decide) ?_
          exact ih11 (j + 1) (by omega) (by omega) g_12 _ _ (by rw [shf_s] at h116_12; exact h116_12) (by rw [shf_s] at h117_12; exact h117_12) (by rw [shf_s] at h118_12; exact h118_12) (by rw [updL_va, shf_s] at h119_12; exact h119_12) hfr_12 hP hS _ (lv_sub hl [0, 1] rfl)
    exact L11 ((11 - 0) + 1) 0 (by omega) (Nat.lt_succ_self _) g _ _ (by rw [shf_0]; exact hO1) (by rw [shf_0]; exact hO2) (by rw [shf_0]; exact hO3) (by rw [shf_0]; exact hO4) (fun j n0 n1 n2 n3 => hfr j ) hP hS _ (lv_sub hl [0, 1] rfl)
set_option maxHeartbeats 4000000 in
set_option maxRecDepth 100000 in
theorem c_X10_doesAct (l : Launch) (D : va_G) (cy : Nat → ClassId) (ad : Nat → Nat) (N : Nat) (g : Nat → va_E) (hinj : ∀ i j : Nat, i < N → j < N → ad i = ad j → i = j) (hN : 145 ≤ N) (F : FS) (la : Int32) (bo : Int32) (tp : Nat) (ft : Int32) (wr0 : Nat) (wa : Nat) (at0 : Nat) (sp : Nat) (tk : Nat) (vl : Int32) (fi : Nat) (nm : Nat) (dp : Nat) (wy : Int32) (st : Int32) (aP : Nat) (aF : Nat) (aH : Nat) (aO : Nat) (ps : Nat) (mn : Nat) (go : Int32) (vi : Nat) (hM : g 114 = mob ad (nI (wn F.1)) (nI (wf F.1)) (nI (wh F.1)) (lN (wo F.1)) (nI (F.2.2.2)) la bo (nI (tp)) ft (nI (wr0)) (nI (wa)) (nI (at0)) (nI (sp)) (nI (tk)) vl (nI (fi)) (nI (nm)) (nI (dp)) wy st (nI (aP)) (nI (aF)) (nI (aH)) (lN aO) (nI (ps)) (nI (mn)) go (nI (vi))) (P : Nat → Nat) (hP9 : g 115 = .inl (cy 1, 8, .inl (fun x9 => nI (P x9)))) (hF : FOK F) (hPw : ∀ i, i < wn F.1 → P i = wp F.1 i) (OP : Nat → Nat) (hO1 : g 116 = .inl (cy 1, 12, .inl (fun x9 => nI (OP x9)))) (OF : Nat → Nat) (hO2 : g 117 = .inl (cy 1, 12, .inl (fun x9 => nI (OF x9)))) (OH : Nat → Nat) (hO3 : g 118 = .inl (cy 1, 12, .inl (fun x9 => nI (OH x9)))) (OO : Nat → Int64) (hO4 : g 119 = .inl (cy 2, 12, .inr (.inl OO))) (hUR : UR F OP OF OH OO) (S0 : Nat) (hS0 : S0 < 8) (K0 : Nat) (hK0 : K0 < 8) : Met l yX10_doesAct (WS yX10_doesAct cX10_doesAct 14 (some .int)) (rmF 4 96) (PP [.ref (ad 114), .int (nI (S0)), .int (nI (K0))] D cy ad N g) (QI (fun r g1 => ∃ (P2 : Nat → Nat), ∃ (OP2 : Nat → Nat), ∃ (OF2 : Nat → Nat), ∃ (OH2 : Nat → Nat), ∃ (OO2 : Nat → Int64), (r = (atR F S0 K0).1) ∧ (∀ i, i < wn F.1 → P2 i = wp (atR F S0 K0).2.1 i) ∧ (UR (atR F S0 K0).2 OP2 OF2 OH2 OO2) ∧ g1 114 = mob ad (nI (wn F.1)) (nI (wf (atR F S0 K0).2.1)) (nI (wh (atR F S0 K0).2.1)) (lN (wo (atR F S0 K0).2.1)) (nI ((atR F S0 K0).2.2.2.2)) la bo (nI (tp)) ft (nI (wr0)) (nI (wa)) (nI (at0)) (nI (sp)) (nI (tk)) vl (nI (fi)) (nI (nm)) (nI (dp)) wy st (nI (aP)) (nI (aF)) (nI (aH)) (lN aO) (nI (ps)) (nI (mn)) go (nI (vi)) ∧ g1 115 = .inl (cy 1, 8, .inl (fun x9 => nI (P2 x9))) ∧ g1 116 = .inl (cy 1, 12, .inl (fun x9 => nI (OP2 x9))) ∧ g1 117 = .inl (cy 1, 12, .inl (fun x9 => nI (OF2 x9))) ∧ g1 118 = .inl (cy 1, 12, .inl (fun x9 => nI (OH2 x9))) ∧ g1 119 = .inl (cy 2, 12, .inr (.inl OO2)) ∧ (∀ j, j ≠ 114 → j ≠ 115 → j ≠ 116 → j ≠ 117 → j ≠ 118 → j ≠ 119 → g1 j = g j)) D ad N) 0 0 (AA ad N) := by
  refine mentry (by decide) (Nat.le_of_ble_eq_true rfl) (fun p e s m below meth c ls S hr hlk hnm hP hK hl => ?_)
  have S : CallFix p m c cX10_doesAct 14 s _ wsL_law RX10 := S
  have hx := S.1
  have hb := S.2.1
  have hl : lv_has ls 14 [(0, .ref (ad 114)), (1, .int (nI (S0))), (2, .int (nI (K0)))] := hl
  have hI : MD (AA ad N) ad N := MD.in hinj
  have hS : va_S (AA ad N) s.heap s.heap [] := va_S.rf
  have hfr : ∀ j : Nat, g j = g j := fun _ => rfl
  have hw := hF.1
  have hn4 := hw.1.1
  have hn8 := hw.1.2
  have hpm := perm_P hw hPw
  have hf := lt256 hw.2.2.1 hn8
  have hh := lt256 hw.2.2.2.1 hn8
  have ho := hw.2.2.2.2.1
  have hun := hF.2.2.2
  have hP8 := P8 hw hPw
  have hpk := pk_24 hn8 hP8
  refine lv_aload_n hx hb dX10_doesAct_0 rfl (lv_at hl 0 rfl) ?_
  refine kVi (As := []) (rest := []) S hK hP (c_X10_packed l D cy ad N g (by omega) (wn F.1) (wf F.1) (wh F.1) (wo F.1) F.2.2.2 la bo tp ft wr0 wa at0 sp tk vl fi nm dp wy st aP aF aH aO ps mn go vi hM hn4 hn8 P hP9) cv_X10_153 (by omega) hM ⟨_, _, rfl⟩ ⟨rfl, rfl⟩ rfl hl.1 rfl (Nat.le_of_ble_eq_true rfl) ⟨Nat.zero_le _, Nat.zero_le _⟩ dX10_doesAct_1 (fun r_1 q_1 => ?_)
  subst q_1
  refine lv_istore_n (lv' := [(3, .int (nI (pk P (wn F.1)))), (0, .ref (ad 114)), (1, .int (nI (S0))), (2, .int (nI (K0)))]) hx hb dX10_doesAct_4 rfl hl (by decide) rfl (fun ls hl => ?_)
  refine lv_aload_n hx hb dX10_doesAct_5 rfl (lv_at hl 1 rfl) ?_
  refine mg S hK hP (by omega) hM fd_X10_17 rfl dX10_doesAct_6 ?_
  refine lv_istore (lv' := [(4, .int (nI (wf F.1))), (3, .int (nI (pk P (wn F.1)))), (0, .ref (ad 114)), (1, .int (nI (S0))), (2, .int (nI (K0)))]) hx hb dX10_doesAct_9 hl (by decide) rfl (fun ls hl => ?_)
  refine lv_aload_n hx hb dX10_doesAct_11 rfl (lv_at hl 2 rfl) ?_
  refine mg S hK hP (by omega) hM fd_X10_20 rfl dX10_doesAct_12 ?_
  refine lv_istore (lv' := [(5, .int (nI (wh F.1))), (4, .int (nI (wf F.1))), (3, .int (nI (pk P (wn F.1)))), (0, .ref (ad 114)), (1, .int (nI (S0))), (2, .int (nI (K0)))]) hx hb dX10_doesAct_15 hl (by decide) rfl (fun ls hl => ?_)
  refine lv_aload_n hx hb dX10_doesAct_17 rfl (lv_at hl 3 rfl) ?_
  refine mg S hK hP (by omega) hM fd_X10_119 rfl dX10_doesAct_18 ?_
  refine lv_lstore (lv' := [(6, .long (lN (wo F.1))), (5, .int (nI (wh F.1))), (4, .int (nI (wf F.1))), (3, .int (nI (pk P (wn F.1)))), (0, .ref (ad 114)), (1, .int (nI (S0))), (2, .int (nI (K0)))]) hx hb dX10_doesAct_21 hl (by decide) rfl (fun ls hl => ?_)
  refine lv_aload_n hx hb dX10_doesAct_23 rfl (lv_at hl 4 rfl) ?_
  refine lv_iload_n hx hb dX10_doesAct_24 rfl (lv_at hl 5 rfl) ?_
  refine lv_iload_n hx hb dX10_doesAct_25 rfl (lv_at hl 6 rfl) ?_
  refine kMi (As := [.int (nI (S0)), .int (nI (K0))]) (rest := []) S hK hP hS (fun _ h => h) (c_X10_does l D cy ad N g hinj (by omega) F.1 F.2.2.2 la bo tp ft wr0 wa at0 sp tk vl fi nm dp wy st aP aF aH aO ps mn go vi hM P hP9 hw hPw S0 (by omega) K0 (by omega)) cv_X10_176 (by omega) hM ⟨_, _, rfl⟩ ⟨rfl, rfl⟩ rfl hl.1 rfl (Nat.le_of_ble_eq_true rfl) ⟨Nat.zero_le _, Nat.zero_le _⟩ dX10_doesAct_26 (fun r_26 g_1 H locs q_1 hP hS => ?_)
  obtain ⟨P2_1, q_26, hP2_1, h114_1, h115_1, f_1⟩ := q_1
  subst q_26
  have h116_1 : g_1 116 = .inl (cy 1, 12, .inl (fun x9 => nI (OP x9))) := (f_1 116 (by omega) (by omega)).trans hO1
  have h117_1 : g_1 117 = .inl (cy 1, 12, .inl (fun x9 => nI (OF x9))) := (f_1 117 (by omega) (by omega)).trans hO2
  have h118_1 : g_1 118 = .inl (cy 1, 12, .inl (fun x9 => nI (OH x9))) := (f_1 118 (by omega) (by omega)).trans hO3
  have h119_1 : g_1 119 = .inl (cy 2, 12, .inr (.inl OO)) := (f_1 119 (by omega) (by omega)).trans hO4
  have hfr_1 : ∀ j : Nat, j ≠ 114 → j ≠ 115 → g_1 j = g j := fun j n0 n1 => (f_1 j n0 n1).trans (hfr j )
  refine lv_istore (lv' := [(8, .int ((dsR F.1 S0 K0).1)), (6, .long (lN (wo F.1))), (5, .int (nI (wh F.1))), (4, .int (nI (wf F.1))), (3, .int (nI (pk P (wn F.1)))), (0, .ref (ad 114)), (1, .int (nI (S0))), (2, .int (nI (K0)))]) hx hb dX10_doesAct_29 hl (by decide) rfl (fun ls hl => ?_)
  refine lv_iload hx hb dX10_doesAct_31 (lv_at hl 0 rfl) ?_
  refine lv_if_le (tgt := 111) hx hb dX10_doesAct_33 (by decide) (fun c_33 => ?_) (fun c_33 => ?_)
  · skip
    have hne : ¬ (dsR F.1 S0 K0).1 = 1 := (sg1 (chg_v hw)).1.mp c_33
    refine lv_iload hx hb dX10_doesAct_111 (lv_at hl 0 rfl) ?_
    exact rMi S hr hlk hP hS ⟨_, _, _, _, _, rfl, (by first | (intro i hi; rw [upk_pk hP28 i hi]; exact hP2_1 i hi) | exact hP2_1), (by first | (exact UR_n hF hUR hne) | (have q := UR_1 hF hUR hne; rw [← pk_congr (n := wn F.1) hPw] at q; rw [pk_congr (n := wn F.1) (upk_pk hP8)]; exact q)), (by first | (rw [atR_n hne]; exact h114_1) | (rw [atR_1 hne]; exact h114_1)), h115_1, h116_1, h117_1, h118_1, h119_1, (fun j n0 n1 n2 n3 n4 n5 => hfr_1 j (by omega) (by omega))⟩ dX10_doesAct_113
  · skip
    have hne : (dsR F.1 S0 K0).1 = 1 := Decidable.not_not.mp (fun q => c_33 ((sg1 (chg_v hw)).1.mpr q))
    have hP28 := P8 (dsR_wn (S := S0) (K := K0) hw).1 (P := P2_1) (by rw [(dsR_wn (S := S0) (K := K0) hw).2]; exact hP2_1)
    rw [(dsR_wn (S := S0) (K := K0) hw).2] at hP28
    have hpk2 := pk_24 hn8 hP28
    refine lv_aload_n hx hb dX10_doesAct_36 rfl (lv_at hl 5 rfl) ?_
    refine kVi (As := []) (rest := []) S hK hP (c_X10_packed l D cy ad N g_1 (by omega) (wn F.1) (wf (dsR F.1 S0 K0).2) (wh (dsR F.1 S0 K0).2) (wo (dsR F.1 S0 K0).2) F.2.2.2 la bo tp ft wr0 wa at0 sp tk vl fi nm dp wy st aP aF aH aO ps mn go vi h114_1 hn4 hn8 P2_1 h115_1) cv_X10_153 (by omega) h114_1 ⟨_, _, rfl⟩ ⟨rfl, rfl⟩ rfl hl.1 rfl (Nat.le_of_ble_eq_true rfl) ⟨Nat.zero_le _, Nat.zero_le _⟩ dX10_doesAct_37 (fun r_37 q_37 => ?_)
    subst q_37
    refine lv_istore (lv' := [(9, .int (nI (pk P2_1 (wn F.1)))), (8, .int ((dsR F.1 S0 K0).1)), (6, .long (lN (wo F.1))), (5, .int (nI (wh F.1))), (4, .int (nI (wf F.1))), (3, .int (nI (pk P (wn F.1)))), (0, .ref (ad 114)), (1, .int (nI (S0))), (2, .int (nI (K0)))]) hx hb dX10_doesAct_40 hl (by decide) rfl (fun ls hl => ?_)
    refine lv_aload_n hx hb dX10_doesAct_42 rfl (lv_at hl 6 rfl) ?_
    refine mg S hK hP (by omega) h114_1 fd_X10_17 rfl dX10_doesAct_43 ?_
    refine lv_istore (lv' := [(10, .int (nI (wf (dsR F.1 S0 K0).2))), (9, .int (nI (pk P2_1 (wn F.1)))), (8, .int ((dsR F.1 S0 K0).1)), (6, .long (lN (wo F.1))), (5, .int (nI (wh F.1))), (4, .int (nI (wf F.1))), (3, .int (nI (pk P (wn F.1)))), (0, .ref (ad 114)), (1, .int (nI (S0))), (2, .int (nI (K0)))]) hx hb dX10_doesAct_46 hl (by decide) rfl (fun ls hl => ?_)
    refine lv_aload_n hx hb dX10_doesAct_48 rfl (lv_at hl 7 rfl) ?_
    refine mg S hK hP (by omega) h114_1 fd_X10_20 rfl dX10_doesAct_49 ?_
    refine lv_istore (lv' := [(11, .int (nI (wh (dsR F.1 S0 K0).2))), (10, .int (nI (wf (dsR F.1 S0 K0).2))), (9, .int (nI (pk P2_1 (wn F.1)))), (8, .int ((dsR F.1 S0 K0).1)), (6, .long (lN (wo F.1))), (5, .int (nI (wh F.1))), (4, .int (nI (wf F.1))), (3, .int (nI (pk P (wn F.1)))), (0, .ref (ad 114)), (1, .int (nI (S0))), (2, .int (nI (K0)))]) hx hb dX10_doesAct_52 hl (by decide) rfl (fun ls hl => ?_)
    refine lv_aload_n hx hb dX10_doesAct_54 rfl (lv_at hl 8 rfl) ?_
    refine mg S hK hP (by omega) h114_1 fd_X10_119 rfl dX10_doesAct_55 ?_
    refine lv_lstore (lv' := [(12, .long (lN (wo (dsR F.1 S0 K0).2))), (11, .int (nI (wh (dsR F.1 S0 K0).2))), (10, .int (nI (wf (dsR F.1 S0 K0).2))), (9, .int (nI (pk P2_1 (wn F.1)))), (8, .int ((dsR F.1 S0 K0).1)), (6, .long (lN (wo F.1))), (5, .int (nI (wh F.1))), (4, .int (nI (wf F.1))), (3, .int (nI (pk P (wn F.1)))), (0, .ref (ad 114)), (1, .int (nI (S0))), (2, .int (nI (K0)))]) hx hb dX10_doesAct_58 hl (by decide) rfl (fun ls hl => ?_)
    refine lv_aload_n hx hb dX10_doesAct_60 rfl (lv_at hl 9 rfl) ?_
    refine lv_iload_n hx hb dX10_doesAct_61 rfl (lv_at hl 8 rfl) ?_
    refine kMv (As := [.int (nI (pk P (wn F.1)))]) (rest := []) S hK hP hS (fun _ h => h) (c_X10_unpack l D cy ad N g_1 hinj (by omega) (wn F.1) (wf (dsR F.1 S0 K0).2) (wh (dsR F.1 S0 K0).2) (wo (dsR F.1 S0 K0).2) F.2.2.2 la bo tp ft wr0 wa at0 sp tk vl fi nm dp wy st aP aF aH aO ps mn go vi h114_1 hn4 hn8 P2_1 h115_1 (pk P (wn F.1)) hpk) cv_X10_180 (by omega) h114_1 ⟨_, _, rfl⟩ ⟨rfl, rfl⟩ rfl hl.1 rfl (Nat.le_of_ble_eq_true rfl) ⟨Nat.zero_le _, Nat.zero_le _⟩ dX10_doesAct_62 (fun g_2 H locs q_2 hP hS => ?_)
    obtain ⟨h115_2, f_2⟩ := q_2
    have h114_2 : g_2 114 = mob ad (nI (wn F.1)) (nI (wf (dsR F.1 S0 K0).2)) (nI (wh (dsR F.1 S0 K0).2)) (lN (wo (dsR F.1 S0 K0).2)) (nI (F.2.2.2)) la bo (nI (tp)) ft (nI (wr0)) (nI (wa)) (nI (at0)) (nI (sp)) (nI (tk)) vl (nI (fi)) (nI (nm)) (nI (dp)) wy st (nI (aP)) (nI (aF)) (nI (aH)) (lN aO) (nI (ps)) (nI (mn)) go (nI (vi)) := (f_2 114 (by omega)).trans h114_1
    have h116_2 : g_2 116 = .inl (cy 1, 12, .inl (fun x9 => nI (OP x9))) := (f_2 116 (by omega)).trans h116_1
    have h117_2 : g_2 117 = .inl (cy 1, 12, .inl (fun x9 => nI (OF x9))) := (f_2 117 (by omega)).trans h117_1
    have h118_2 : g_2 118 = .inl (cy 1, 12, .inl (fun x9 => nI (OH x9))) := (f_2 118 (by omega)).trans h118_1
    have h119_2 : g_2 119 = .inl (cy 2, 12, .inr (.inl OO)) := (f_2 119 (by omega)).trans h119_1
    have hfr_2 : ∀ j : Nat, j ≠ 114 → j ≠ 115 → g_2 j = g j := fun j n0 n1 => (f_2 j n1).trans (hfr_1 j n0 n1)
    refine lv_aload_n hx hb dX10_doesAct_65 rfl (lv_at hl 9 rfl) ?_
    refine lv_iload hx hb dX10_doesAct_66 (lv_at hl 7 rfl) ?_
    refine mp S hK hP hI hS (by omega) h114_2 fd_X10_17 rfl rfl (Nat.le_of_ble_eq_true rfl) dX10_doesAct_68 (fun g_3 H locs eg_3 hP hS => ?_)
    have h114_3 : g_3 114 = mob ad (nI (wn F.1)) (nI (wf F.1)) (nI (wh (dsR F.1 S0 K0).2)) (lN (wo (dsR F.1 S0 K0).2)) (nI (F.2.2.2)) la bo (nI (tp)) ft (nI (wr0)) (nI (wa)) (nI (at0)) (nI (sp)) (nI (tk)) vl (nI (fi)) (nI (nm)) (nI (dp)) wy st (nI (aP)) (nI (aF)) (nI (aH)) (lN aO) (nI (ps)) (nI (mn)) go (nI (vi)) := by rw [eg_3, va_up_self]; exact rfl
    have h115_3 : g_3 115 = .inl (cy 1, 8, .inl (fun x9 => nI ((upk (pk P (wn F.1)) P2_1 (wn F.1)) x9))) := ((congrFun eg_3 _).trans (va_up_ne _ _ (by omega))).trans h115_2
    have h116_3 : g_3 116 = .inl (cy 1, 12, .inl (fun x9 => nI (OP x9))) := ((congrFun eg_3 _).trans (va_up_ne _ _ (by omega))).trans h116_2
    have h117_3 : g_3 117 = .inl (cy 1, 12, .inl (fun x9 => nI (OF x9))) := ((congrFun eg_3 _).trans (va_up_ne _ _ (by omega))).trans h117_2
    have h118_3 : g_3 118 = .inl (cy 1, 12, .inl (fun x9 => nI (OH x9))) := ((congrFun eg_3 _).trans (va_up_ne _ _ (by omega))).trans h118_2
    have h119_3 : g_3 119 = .inl (cy 2, 12, .inr (.inl OO)) := ((congrFun eg_3 _).trans (va_up_ne _ _ (by omega))).trans h119_2
    have hfr_3 : ∀ j : Nat, j ≠ 114 → j ≠ 115 → g_3 j = g j := fun j n0 n1 => ((congrFun eg_3 _).trans (va_up_ne _ _ n0)).trans (hfr_2 j n0 n1)
    refine lv_aload_n hx hb dX10_doesAct_71 rfl (lv_at hl 9 rfl) ?_
    refine lv_iload hx hb dX10_doesAct_72 (lv_at hl 6 rfl) ?_
    refine mp S hK hP hI hS (by omega) h114_3 fd_X10_20 rfl rfl (Nat.le_of_ble_eq_true rfl) dX10_doesAct_74 (fun g_4 H locs eg_4 hP hS => ?_)
    have h114_4 : g_4 114 = mob ad (nI (wn F.1)) (nI (wf F.1)) (nI (wh F.1)) (lN (wo (dsR F.1 S0 K0).2)) (nI (F.2.2.2)) la bo (nI (tp)) ft (nI (wr0)) (nI (wa)) (nI (at0)) (nI (sp)) (nI (tk)) vl (nI (fi)) (nI (nm)) (nI (dp)) wy st (nI (aP)) (nI (aF)) (nI (aH)) (lN aO) (nI (ps)) (nI (mn)) go (nI (vi)) := by rw [eg_4, va_up_self]; exact rfl
    have h115_4 : g_4 115 = .inl (cy 1, 8, .inl (fun x9 => nI ((upk (pk P (wn F.1)) P2_1 (wn F.1)) x9))) := ((congrFun eg_4 _).trans (va_up_ne _ _ (by omega))).trans h115_3
    have h116_4 : g_4 116 = .inl (cy 1, 12, .inl (fun x9 => nI (OP x9))) := ((congrFun eg_4 _).trans (va_up_ne _ _ (by omega))).trans h116_3
    have h117_4 : g_4 117 = .inl (cy 1, 12, .inl (fun x9 => nI (OF x9))) := ((congrFun eg_4 _).trans (va_up_ne _ _ (by omega))).trans h117_3
    have h118_4 : g_4 118 = .inl (cy 1, 12, .inl (fun x9 => nI (OH x9))) := ((congrFun eg_4 _).trans (va_up_ne _ _ (by omega))).trans h118_3
    have h119_4 : g_4 119 = .inl (cy 2, 12, .inr (.inl OO)) := ((congrFun eg_4 _).trans (va_up_ne _ _ (by omega))).trans h119_3
    have hfr_4 : ∀ j : Nat, j ≠ 114 → j ≠ 115 → g_4 j = g j := fun j n0 n1 => ((congrFun eg_4 _).trans (va_up_ne _ _ n0)).trans (hfr_3 j n0 n1)
    refine lv_aload_n hx hb dX10_doesAct_77 rfl (lv_at hl 9 rfl) ?_
    refine lv_lload hx hb dX10_doesAct_78 (lv_at hl 5 rfl) ?_
    refine mp S hK hP hI hS (by omega) h114_4 fd_X10_119 rfl rfl (Nat.le_of_ble_eq_true rfl) dX10_doesAct_80 (fun g_5 H locs eg_5 hP hS => ?_)
    have h114_5 : g_5 114 = mob ad (nI (wn F.1)) (nI (wf F.1)) (nI (wh F.1)) (lN (wo F.1)) (nI (F.2.2.2)) la bo (nI (tp)) ft (nI (wr0)) (nI (wa)) (nI (at0)) (nI (sp)) (nI (tk)) vl (nI (fi)) (nI (nm)) (nI (dp)) wy st (nI (aP)) (nI (aF)) (nI (aH)) (lN aO) (nI (ps)) (nI (mn)) go (nI (vi)) := by rw [eg_5, va_up_self]; exact rfl
    have h115_5 : g_5 115 = .inl (cy 1, 8, .inl (fun x9 => nI ((upk (pk P (wn F.1)) P2_1 (wn F.1)) x9))) := ((congrFun eg_5 _).trans (va_up_ne _ _ (by omega))).trans h115_4
    have h116_5 : g_5 116 = .inl (cy 1, 12, .inl (fun x9 => nI (OP x9))) := ((congrFun eg_5 _).trans (va_up_ne _ _ (by omega))).trans h116_4
    have h117_5 : g_5 117 = .inl (cy 1, 12, .inl (fun x9 => nI (OF x9))) := ((congrFun eg_5 _).trans (va_up_ne _ _ (by omega))).trans h117_4
    have h118_5 : g_5 118 = .inl (cy 1, 12, .inl (fun x9 => nI (OH x9))) := ((congrFun eg_5 _).trans (va_up_ne _ _ (by omega))).trans h118_4
    have h119_5 : g_5 119 = .inl (cy 2, 12, .inr (.inl OO)) := ((congrFun eg_5 _).trans (va_up_ne _ _ (by omega))).trans h119_4
    have hfr_5 : ∀ j : Nat, j ≠ 114 → j ≠ 115 → g_5 j = g j := fun j n0 n1 => ((congrFun eg_5 _).trans (va_up_ne _ _ n0)).trans (hfr_4 j n0 n1)
    refine lv_aload_n hx hb dX10_doesAct_83 rfl (lv_at hl 9 rfl) ?_
    refine kMv (As := []) (rest := []) S hK hP hS (fun _ h => h) (c_X10_record l D cy ad N g_5 hinj (by omega) (wn F.1) (wf F.1) (wh F.1) (wo F.1) F.2.2.2 la bo tp ft wr0 wa at0 sp tk vl fi nm dp wy st aP aF aH aO ps mn go vi h114_5 hn4 hn8 (upk (pk P (wn F.1)) P2_1 (wn F.1)) h115_5 OP h116_5 OF h117_5 OH h118_5 OO h119_5 hun) cv_X10_183 (by omega) h114_5 ⟨_, _, rfl⟩ ⟨rfl, rfl⟩ rfl hl.1 rfl (Nat.le_of_ble_eq_true rfl) ⟨Nat.zero_le _, Nat.zero_le _⟩ dX10_doesAct_84 (fun g_6 H locs q_6 hP hS => ?_)
    obtain ⟨h114_6, h116_6, h117_6, h118_6, h119_6, f_6⟩ := q_6
    have h115_6 : g_6 115 = .inl (cy 1, 8, .inl (fun x9 => nI ((upk (pk P (wn F.1)) P2_1 (wn F.1)) x9))) := (f_6 115 (by omega) (by omega) (by omega) (by omega) (by omega)).trans h115_5
    have hfr_6 : ∀ j : Nat, j ≠ 114 → j ≠ 115 → j ≠ 116 → j ≠ 117 → j ≠ 118 → j ≠ 119 → g_6 j = g j := fun j n0 n1 n2 n3 n4 n5 => (f_6 j n0 n2 n3 n4 n5).trans (hfr_5 j n0 n1)
    refine lv_aload_n hx hb dX10_doesAct_87 rfl (lv_at hl 9 rfl) ?_
    refine lv_iload hx hb dX10_doesAct_88 (lv_at hl 3 rfl) ?_
    refine kMv (As := [.int (nI (pk P2_1 (wn F.1)))]) (rest := []) S hK hP hS (fun _ h => h) (c_X10_unpack l D cy ad N g_6 hinj (by omega) ((wn F.1)) ((wf F.1)) ((wh F.1)) ((wo F.1)) (if F.2.2.2 + 1 < 12 then F.2.2.2 + 1 else 12) la bo tp ft wr0 wa at0 sp tk vl fi nm dp wy st aP aF aH aO ps mn go vi h114_6 hn4 hn8 (upk (pk P (wn F.1)) P2_1 (wn F.1)) h115_6 (pk P2_1 (wn F.1)) (by omega)) cv_X10_180 (by omega) h114_6 ⟨_, _, rfl⟩ ⟨rfl, rfl⟩ rfl hl.1 rfl (Nat.le_of_ble_eq_true rfl) ⟨Nat.zero_le _, Nat.zero_le _⟩ dX10_doesAct_90 (fun g_7 H locs q_7 hP hS => ?_)
    obtain ⟨h115_7, f_7⟩ := q_7
    have h114_7 : g_7 114 = mob ad (nI ((wn F.1))) (nI ((wf F.1))) (nI ((wh F.1))) (lN ((wo F.1))) (nI (if F.2.2.2 + 1 < 12 then F.2.2.2 + 1 else 12)) la bo (nI (tp)) ft (nI (wr0)) (nI (wa)) (nI (at0)) (nI (sp)) (nI (tk)) vl (nI (fi)) (nI (nm)) (nI (dp)) wy st (nI (aP)) (nI (aF)) (nI (aH)) (lN aO) (nI (ps)) (nI (mn)) go (nI (vi)) := (f_7 114 (by omega)).trans h114_6
    have h116_7 : g_7 116 = .inl (cy 1, 12, .inl (fun x9 => nI ((psh F.2.2.2 OP (pk (upk (pk P (wn F.1)) P2_1 (wn F.1)) (wn F.1))) x9))) := (f_7 116 (by omega)).trans h116_6
    have h117_7 : g_7 117 = .inl (cy 1, 12, .inl (fun x9 => nI ((psh F.2.2.2 OF (wf F.1)) x9))) := (f_7 117 (by omega)).trans h117_6
    have h118_7 : g_7 118 = .inl (cy 1, 12, .inl (fun x9 => nI ((psh F.2.2.2 OH (wh F.1)) x9))) := (f_7 118 (by omega)).trans h118_6
    have h119_7 : g_7 119 = .inl (cy 2, 12, .inr (.inl (psh F.2.2.2 OO (lN (wo F.1))))) := (f_7 119 (by omega)).trans h119_6
    have hfr_7 : ∀ j : Nat, j ≠ 114 → j ≠ 115 → j ≠ 116 → j ≠ 117 → j ≠ 118 → j ≠ 119 → g_7 j = g j := fun j n0 n1 n2 n3 n4 n5 => (f_7 j n1).trans (hfr_6 j n0 n1 n2 n3 n4 n5)
    refine lv_aload_n hx hb dX10_doesAct_93 rfl (lv_at hl 9 rfl) ?_
    refine lv_iload hx hb dX10_doesAct_94 (lv_at hl 2 rfl) ?_
    refine mp S hK hP hI hS (by omega) h114_7 fd_X10_17 rfl rfl (Nat.le_of_ble_eq_true rfl) dX10_doesAct_96 (fun g_8 H locs eg_8 hP hS => ?_)
    have h114_8 : g_8 114 = mob ad (nI ((wn F.1))) (nI (wf (dsR F.1 S0 K0).2)) (nI ((wh F.1))) (lN ((wo F.1))) (nI (if F.2.2.2 + 1 < 12 then F.2.2.2 + 1 else 12)) la bo (nI (tp)) ft (nI (wr0)) (nI (wa)) (nI (at0)) (nI (sp)) (nI (tk)) vl (nI (fi)) (nI (nm)) (nI (dp)) wy st (nI (aP)) (nI (aF)) (nI (aH)) (lN aO) (nI (ps)) (nI (mn)) go (nI (vi)) := by rw [eg_8, va_up_self]; exact rfl
    have h115_8 : g_8 115 = .inl (cy 1, 8, .inl (fun x9 => nI ((upk (pk P2_1 (wn F.1)) (upk (pk P (wn F.1)) P2_1 (wn F.1)) ((wn F.1))) x9))) := ((congrFun eg_8 _).trans (va_up_ne _ _ (by omega))).trans h115_7
    have h116_8 : g_8 116 = .inl (cy 1, 12, .inl (fun x9 => nI ((psh F.2.2.2 OP (pk (upk (pk P (wn F.1)) P2_1 (wn F.1)) (wn F.1))) x9))) := ((congrFun eg_8 _).trans (va_up_ne _ _ (by omega))).trans h116_7
    have h117_8 : g_8 117 = .inl (cy 1, 12, .inl (fun x9 => nI ((psh F.2.2.2 OF (wf F.1)) x9))) := ((congrFun eg_8 _).trans (va_up_ne _ _ (by omega))).trans h117_7
    have h118_8 : g_8 118 = .inl (cy 1, 12, .inl (fun x9 => nI ((psh F.2.2.2 OH (wh F.1)) x9))) := ((congrFun eg_8 _).trans (va_up_ne _ _ (by omega))).trans h118_7
    have h119_8 : g_8 119 = .inl (cy 2, 12, .inr (.inl (psh F.2.2.2 OO (lN (wo F.1))))) := ((congrFun eg_8 _).trans (va_up_ne _ _ (by omega))).trans h119_7
    have hfr_8 : ∀ j : Nat, j ≠ 114 → j ≠ 115 → j ≠ 116 → j ≠ 117 → j ≠ 118 → j ≠ 119 → g_8 j = g j := fun j n0 n1 n2 n3 n4 n5 => ((congrFun eg_8 _).trans (va_up_ne _ _ n0)).trans (hfr_7 j n0 n1 n2 n3 n4 n5)
    refine lv_aload_n hx hb dX10_doesAct_99 rfl (lv_at hl 9 rfl) ?_
    refine lv_iload hx hb dX10_doesAct_100 (lv_at hl 1 rfl) ?_
    refine mp S hK hP hI hS (by omega) h114_8 fd_X10_20 rfl rfl (Nat.le_of_ble_eq_true rfl) dX10_doesAct_102 (fun g_9 H locs eg_9 hP hS => ?_)
    have h114_9 : g_9 114 = mob ad (nI ((wn F.1))) (nI (wf (dsR F.1 S0 K0).2)) (nI (wh (dsR F.1 S0 K0).2)) (lN ((wo F.1))) (nI (if F.2.2.2 + 1 < 12 then F.2.2.2 + 1 else 12)) la bo (nI (tp)) ft (nI (wr0)) (nI (wa)) (nI (at0)) (nI (sp)) (nI (tk)) vl (nI (fi)) (nI (nm)) (nI (dp)) wy st (nI (aP)) (nI (aF)) (nI (aH)) (lN aO) (nI (ps)) (nI (mn)) go (nI (vi)) := by rw [eg_9, va_up_self]; exact rfl
    have h115_9 : g_9 115 = .inl (cy 1, 8, .inl (fun x9 => nI ((upk (pk P2_1 (wn F.1)) (upk (pk P (wn F.1)) P2_1 (wn F.1)) ((wn F.1))) x9))) := ((congrFun eg_9 _).trans (va_up_ne _ _ (by omega))).trans h115_8
    have h116_9 : g_9 116 = .inl (cy 1, 12, .inl (fun x9 => nI ((psh F.2.2.2 OP (pk (upk (pk P (wn F.1)) P2_1 (wn F.1)) (wn F.1))) x9))) := ((congrFun eg_9 _).trans (va_up_ne _ _ (by omega))).trans h116_8
    have h117_9 : g_9 117 = .inl (cy 1, 12, .inl (fun x9 => nI ((psh F.2.2.2 OF (wf F.1)) x9))) := ((congrFun eg_9 _).trans (va_up_ne _ _ (by omega))).trans h117_8
    have h118_9 : g_9 118 = .inl (cy 1, 12, .inl (fun x9 => nI ((psh F.2.2.2 OH (wh F.1)) x9))) := ((congrFun eg_9 _).trans (va_up_ne _ _ (by omega))).trans h118_8
    have h119_9 : g_9 119 = .inl (cy 2, 12, .inr (.inl (psh F.2.2.2 OO (lN (wo F.1))))) := ((congrFun eg_9 _).trans (va_up_ne _ _ (by omega))).trans h119_8
    have hfr_9 : ∀ j : Nat, j ≠ 114 → j ≠ 115 → j ≠ 116 → j ≠ 117 → j ≠ 118 → j ≠ 119 → g_9 j = g j := fun j n0 n1 n2 n3 n4 n5 => ((congrFun eg_9 _).trans (va_up_ne _ _ n0)).trans (hfr_8 j n0 n1 n2 n3 n4 n5)
    refine lv_aload_n hx hb dX10_doesAct_105 rfl (lv_at hl 9 rfl) ?_
    refine lv_lload hx hb dX10_doesAct_106 (lv_at hl 0 rfl) ?_
    refine mp S hK hP hI hS (by omega) h114_9 fd_X10_119 rfl rfl (Nat.le_of_ble_eq_true rfl) dX10_doesAct_108 (fun g_10 H locs eg_10 hP hS => ?_)
    have h114_10 : g_10 114 = mob ad (nI ((wn F.1))) (nI (wf (dsR F.1 S0 K0).2)) (nI (wh (dsR F.1 S0 K0).2)) (lN (wo (dsR F.1 S0 K0).2)) (nI (if F.2.2.2 + 1 < 12 then F.2.2.2 + 1 else 12)) la bo (nI (tp)) ft (nI (wr0)) (nI (wa)) (nI (at0)) (nI (sp)) (nI (tk)) vl (nI (fi)) (nI (nm)) (nI (dp)) wy st (nI (aP)) (nI (aF)) (nI (aH)) (lN aO) (nI (ps)) (nI (mn)) go (nI (vi)) := by rw [eg_10, va_up_self]; exact rfl
    have h115_10 : g_10 115 = .inl (cy 1, 8, .inl (fun x9 => nI ((upk (pk P2_1 (wn F.1)) (upk (pk P (wn F.1)) P2_1 (wn F.1)) ((wn F.1))) x9))) := ((congrFun eg_10 _).trans (va_up_ne _ _ (by omega))).trans h115_9
    have h116_10 : g_10 116 = .inl (cy 1, 12, .inl (fun x9 => nI ((psh F.2.2.2 OP (pk (upk (pk P (wn F.1)) P2_1 (wn F.1)) (wn F.1))) x9))) := ((congrFun eg_10 _).trans (va_up_ne _ _ (by omega))).trans h116_9
    have h117_10 : g_10 117 = .inl (cy 1, 12, .inl (fun x9 => nI ((psh F.2.2.2 OF (wf F.1)) x9))) := ((congrFun eg_10 _).trans (va_up_ne _ _ (by omega))).trans h117_9
    have h118_10 : g_10 118 = .inl (cy 1, 12, .inl (fun x9 => nI ((psh F.2.2.2 OH (wh F.1)) x9))) := ((congrFun eg_10 _).trans (va_up_ne _ _ (by omega))).trans h118_9
    have h119_10 : g_10 119 = .inl (cy 2, 12, .inr (.inl (psh F.2.2.2 OO (lN (wo F.1))))) := ((congrFun eg_10 _).trans (va_up_ne _ _ (by omega))).trans h119_9
    have hfr_10 : ∀ j : Nat, j ≠ 114 → j ≠ 115 → j ≠ 116 → j ≠ 117 → j ≠ 118 → j ≠ 119 → g_10 j = g j := fun j n0 n1 n2 n3 n4 n5 => ((congrFun eg_10 _).trans (va_up_ne _ _ n0)).trans (hfr_9 j n0 n1 n2 n3 n4 n5)
    refine lv_iload hx hb dX10_doesAct_111 (lv_at hl 4 rfl) ?_
    exact rMi S hr hlk hP hS ⟨_, _, _, _, _, rfl, (by first | (intro i hi; rw [upk_pk hP28 i hi]; exact hP2_1 i hi) | exact hP2_1), (by first | (exact UR_n hF hUR hne) | (have q := UR_1 hF hUR hne; rw [← pk_congr (n := wn F.1) hPw] at q; rw [pk_congr (n := wn F.1) (upk_pk hP8)]; exact q)), (by first | (rw [atR_n hne]; exact h114_10) | (rw [atR_1 hne]; exact h114_10)), h115_10, h116_10, h117_10, h118_10, h119_10, hfr_10⟩ dX10_doesAct_113

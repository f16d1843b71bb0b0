set_option maxHeartbeats 4000000 in
set_option maxRecDepth 100000 in
theorem ly4 {p : Program} {l : Launch} {e : Env} {s : State} {m : MethodId} {below : List Frame} {meth : Method} {c : Code} {D : va_G} {cy : Nat → ClassId} {b0 b L : Nat} {xs : Nat → Int32} {sq sv : Nat} (S : CallFix p m c cL_law 21 s #[.ref b] wsL_law RL) (hr : meth.sig.returnType = ret) (hlk : meth.locks = false) (hK : va_K D vwCl (tyv cy) s) (hN : NX s) (hX : va_X b L xs s s.heap) (hbl : b < s.heap.size) (hb0 : s.heap.size = b0) (hL : L < 1000) (hXF : XF (AB b0) sq sv s s.heap) {n : Nat} {a : Nat} {O : Nat → Nat} {BE : Nat → Nat} {T2 : Nat → Nat} {BB : Nat → Nat} {Tto : Nat → Nat} {Flo : Nat → Nat} {FBo : Nat → Nat → Nat} {Vlo : Nat → Nat} {VVo : Nat → Nat → Nat} {PA : Nat → Nat} {c9 : Nat} {sm : Nat} (hn : 4 ≤ n ∧ n ≤ 8) (ha : a ≤ 7) (hO4 : ∀ j, O j < 4) (hBE : ∀ j, j < 4 → BE j = Flo j) (hFG : FGS xs L n 4 Flo FBo) (hVO : VVo 0 = O) (hVa : Vlo 0 = a) (hVP : VVo 1 = PA) (hVc : Vlo 1 = c9) (hP4 : ∀ j, PA j < 4) (hc9 : c9 ≤ 7) (hsm : sm = bts Flo 4 O a) (g : Nat → va_E) (H : Heap) (ls : Array Slot) (hm114 : g 114 = .inl (cy 1, 64, .inl (fun x9 => nI (T2 x9)))) (hm115 : g 115 = .inl (cy 1, 1, .inl (fun x9 => nI (BB x9)))) (hm116 : g 116 = .inl (cy 1, 4, .inl (fun x9 => nI (BE x9)))) (hm125 : g 125 = .inl (cy 1, 8, .inl (fun x9 => nI (O x9)))) (hm126 : g 126 = .inl (cy 1, 8, .inl (fun x9 => nI (PA x9)))) (hfo : OB9 cy (b0 + 0) (fun i => g (0 + i)) (bgW n) 4 (nI 0) 2 0 Tto Flo FBo Vlo VVo) (hP : MM D (bd b0) (127) g H) (hS : va_S (AB b0) s.heap H []) (hl : lv_has ls 21 [(0, .ref b), (1, .ref ((bd b0) 0)), (2, .int (nI (n))), (3, .ref ((bd b0) 114)), (4, .ref ((bd b0) 115)), (5, .ref ((bd b0) 116)), (6, .ref ((bd b0) 125)), (8, .int (nI (a))), (7, .ref ((bd b0) 126)), (9, .int (nI (c9))), (10, .int (nI (sm)))]) : W p l e room_1 s m #[.ref b] below meth c H [] (127) (15124) (lw_Z below #[.ref b] s) (F0 m 285 ls []) := by
  have hx := S.1
  have hb := S.2.1
  have hI : MD (AB b0) (bd b0) (127) := bd_MD
  have hRC : 127 ≤ room_1.cells ∧ 15124 ≤ room_1.slots := ⟨(Nat.le_of_ble_eq_true rfl), (Nat.le_of_ble_eq_true rfl)⟩
  have hbA : ¬ AB b0 b := fun q => by unfold AB at q; omega
  have hsb := bts_le (fc := 4) (V := O) hfo.bd.2.2.2.2.1 a
  refine lv_aload_n hx hb dL_law_285 rfl (lv_at hl 1 rfl) ?_
  refine lv_iconst (v := nI (0)) hx hb dL_law_286 (by decide) ?_
  refine lv_iconst (v := nI (0)) hx hb dL_law_287 (by decide) ?_
  obtain ⟨fs_1, ho_1⟩ := hfo.ob
  refine kOp (M := 114) (k := 0) (As := [.int (nI (0)), .int (nI (0))]) (rest := []) S hK hP (by omega) (by decide) (ob_danceOf l D hfo (nI (0)) (nI (0))) cv_L_53 ho_1 ⟨_, _, rfl⟩ ⟨rfl, rfl⟩ rfl hl.1 rfl (Nat.le_of_ble_eq_true rfl) hRC dL_law_288 (fun r_1 q_1 => ?_)
  subst q_1
  refine tpi (y := nI (a)) (da_0 hVa) ?_
  refine lv_iload hx hb dL_law_291 (lv_at hl 7 rfl) ?_
  refine lv_icmp_ne (tgt := 321) hx hb dL_law_293 (by decide) (fun c_293 => ?_) (fun c_293 => ?_)
  · skip
    have c_293 := (not_congr (nI_eq (by omega) (by omega))).mp c_293
    exact absurd rfl c_293
  · skip
    have c_293 := (nI_eq (by omega) (by omega)).mp c_293
    refine lv_aload_n hx hb dL_law_296 rfl (lv_at hl 1 rfl) ?_
    refine lv_iconst (v := nI (0)) hx hb dL_law_297 (by decide) ?_
    refine lv_iconst (v := nI (1)) hx hb dL_law_298 (by decide) ?_
    obtain ⟨fs_2, ho_2⟩ := hfo.ob
    refine kOp (M := 114) (k := 0) (As := [.int (nI (0)), .int (nI (1))]) (rest := []) S hK hP (by omega) (by decide) (ob_danceOf l D hfo (nI (0)) (nI (1))) cv_L_53 ho_2 ⟨_, _, rfl⟩ ⟨rfl, rfl⟩ rfl hl.1 rfl (Nat.le_of_ble_eq_true rfl) hRC dL_law_299 (fun r_2 q_2 => ?_)
    subst q_2
    refine tpi (y := nI (sm)) (da_1 hVO hVa hsm) ?_
    refine lv_iload hx hb dL_law_302 (lv_at hl 10 rfl) ?_
    refine lv_icmp_ne (tgt := 321) hx hb dL_law_304 (by decide) (fun c_304 => ?_) (fun c_304 => ?_)
    · skip
      have c_304 := (not_congr (nI_eq (by omega) (by omega))).mp c_304
      exact absurd rfl c_304
    · skip
      have c_304 := (nI_eq (by omega) (by omega)).mp c_304
      refine lv_aload_n hx hb dL_law_307 rfl (lv_at hl 1 rfl) ?_
      refine lv_iconst (v := nI (0)) hx hb dL_law_308 (by decide) ?_
      refine lv_bipush (v := nI (10)) hx hb dL_law_309 (by decide) ?_
      refine lv_iload hx hb dL_law_311 (lv_at hl 7 rfl) ?_
      refine lv_iadd hx hb dL_law_313 ?_
      refine tpi (nI_add 10 a) ?_
      obtain ⟨fs_3, ho_3⟩ := hfo.ob
      refine kOp (M := 114) (k := 0) (As := [.int (nI (0)), .int (nI (10 + a))]) (rest := []) S hK hP (by omega) (by decide) (ob_danceOf l D hfo (nI (0)) (nI (10 + a))) cv_L_53 ho_3 ⟨_, _, rfl⟩ ⟨rfl, rfl⟩ rfl hl.1 rfl (Nat.le_of_ble_eq_true rfl) hRC dL_law_314 (fun r_3 q_3 => ?_)
      subst q_3
      refine tpi (y := -1) (da_n hVa ha) ?_
      refine lv_iconst (v := (-1)) hx hb dL_law_317 (by decide) ?_
      refine lv_icmp_eq (tgt := 323) hx hb dL_law_318 (by decide) (fun c_318 => ?_) (fun c_318 => ?_)
      · skip
        exact lz1 S hr hlk hK hN hX hbl hb0 hL hXF hn (by omega) hO4 hBE hFG hVO hVa hVP hVc hP4 (by omega) g H _ hm114 hm115 hm116 hm125 hm126 hfo hP hS (lv_sub hl [0, 1, 2, 3, 4, 5, 6, 7, 8, 9] rfl)
      · skip
        exact absurd rfl c_318
set_option maxHeartbeats 4000000 in
set_option maxRecDepth 100000 in
theorem ly3 {p : Program} {l : Launch} {e : Env} {s : State} {m : MethodId} {below : List Frame} {meth : Method} {c : Code} {D : va_G} {cy : Nat → ClassId} {b0 b L : Nat} {xs : Nat → Int32} {sq sv : Nat} (S : CallFix p m c cL_law 21 s #[.ref b] wsL_law RL) (hr : meth.sig.returnType = ret) (hlk : meth.locks = false) (hK : va_K D vwCl (tyv cy) s) (hN : NX s) (hX : va_X b L xs s s.heap) (hbl : b < s.heap.size) (hb0 : s.heap.size = b0) (hL : L < 1000) (hXF : XF (AB b0) sq sv s s.heap) {n : Nat} {a : Nat} {BE : Nat → Nat} {T2 : Nat → Nat} {BB : Nat → Nat} {Tto : Nat → Nat} {Flo : Nat → Nat} {FBo : Nat → Nat → Nat} {Vlo : Nat → Nat} {VVo : Nat → Nat → Nat} {O : Nat → Nat} {c9 : Nat} {sm : Nat} (hn : 4 ≤ n ∧ n ≤ 8) (ha : a ≤ 7) (hO4 : ∀ j, O j < 4) (hBE : ∀ j, j < 4 → BE j = Flo j) (hFG : FGS xs L n 4 Flo FBo) (hVO : VVo 0 = O) (hVa : Vlo 0 = a) (hVP : VVo 1 = fun _ => 0) (hVc : Vlo 1 = 0) (hc9 : c9 ≤ 7) (hsm : sm = bts Flo 4 O a) (g : Nat → va_E) (H : Heap) (ls : Array Slot) (hm114 : g 114 = .inl (cy 1, 64, .inl (fun x9 => nI (T2 x9)))) (hm115 : g 115 = .inl (cy 1, 1, .inl (fun x9 => nI (BB x9)))) (hm116 : g 116 = .inl (cy 1, 4, .inl (fun x9 => nI (BE x9)))) (hm125 : g 125 = .inl (cy 1, 8, .inl (fun x9 => nI (O x9)))) (hm126 : g 126 = .inl (cy 1, 8, .inl (fun x9 => nI (((fun _ => 0)) x9)))) (hfo : OB9 cy (b0 + 0) (fun i => g (0 + i)) (bgW n) 4 (nI 0) 2 0 Tto Flo FBo Vlo VVo) (hP : MM D (bd b0) (127) g H) (hS : va_S (AB b0) s.heap H []) (hl : lv_has ls 21 [(0, .ref b), (1, .ref ((bd b0) 0)), (2, .int (nI (n))), (3, .ref ((bd b0) 114)), (4, .ref ((bd b0) 115)), (5, .ref ((bd b0) 116)), (6, .ref ((bd b0) 125)), (8, .int (nI (a))), (7, .ref ((bd b0) 126)), (9, .int (nI (c9))), (10, .int (nI (sm)))]) : W p l e room_1 s m #[.ref b] below meth c H [] (127) (15124) (lw_Z below #[.ref b] s) (F0 m 232 ls []) := by
  have hx := S.1
  have hb := S.2.1
  have hI : MD (AB b0) (bd b0) (127) := bd_MD
  have hRC : 127 ≤ room_1.cells ∧ 15124 ≤ room_1.slots := ⟨(Nat.le_of_ble_eq_true rfl), (Nat.le_of_ble_eq_true rfl)⟩
  have hbA : ¬ AB b0 b := fun q => by unfold AB at q; omega
  refine lv_iconst (v := nI (0)) hx hb dL_law_232 (by decide) ?_
  refine lv_istore (lv' := [(11, .int (nI (0))), (0, .ref b), (1, .ref ((bd b0) 0)), (2, .int (nI (n))), (3, .ref ((bd b0) 114)), (4, .ref ((bd b0) 115)), (5, .ref ((bd b0) 116)), (6, .ref ((bd b0) 125)), (8, .int (nI (a))), (7, .ref ((bd b0) 126)), (9, .int (nI (c9))), (10, .int (nI (sm)))]) hx hb dL_law_233 hl (by decide) rfl (fun ls hl => ?_)
  have L235 : ∀ (fu : Nat) (k : Nat) (PA Vlo : Nat → Nat) (VVo : Nat → Nat → Nat), (k ≤ c9) → (∀ j, PA j < 4) → (VVo 0 = O) → (VVo 1 = PA) → (Vlo 0 = a) → (Vlo 1 = k) → (c9 - k) < fu → ∀ (g_1 : Nat → va_E) (H : Heap), g_1 114 = .inl (cy 1, 64, .inl (fun x9 => nI (T2 x9))) → g_1 115 = .inl (cy 1, 1, .inl (fun x9 => nI (BB x9))) → g_1 116 = .inl (cy 1, 4, .inl (fun x9 => nI (BE x9))) → g_1 125 = .inl (cy 1, 8, .inl (fun x9 => nI (O x9))) → g_1 126 = .inl (cy 1, 8, .inl (fun x9 => nI (PA x9))) → (OB9 cy (b0 + 0) (fun i => g_1 (0 + i)) (bgW n) 4 (nI 0) 2 0 Tto Flo FBo Vlo VVo) → MM D (bd b0) (127) g_1 H → va_S (AB b0) s.heap H [] → ∀ (ls : Array Slot), lv_has ls 21 [(11, .int (nI (k))), (0, .ref b), (1, .ref ((bd b0) 0)), (2, .int (nI (n))), (3, .ref ((bd b0) 114)), (4, .ref ((bd b0) 115)), (5, .ref ((bd b0) 116)), (6, .ref ((bd b0) 125)), (8, .int (nI (a))), (7, .ref ((bd b0) 126)), (9, .int (nI (c9))), (10, .int (nI (sm)))] → W p l e room_1 s m #[.ref b] below meth c H [] (127) (15124) (lw_Z below #[.ref b] s) (F0 m 235 ls []) := by
    intro fu
    induction fu with
    | zero => intro k PA Vlo VVo hk hP4 hVO hVP hVa hVc hms g_1 H h114_1 h115_1 h116_1 h125_1 h126_1 hfact_o_1 hP hS ls hl; exact absurd hms (Nat.not_lt_zero _)
    | succ fu ih235 =>
      intro k PA Vlo VVo hk hP4 hVO hVP hVa hVc hms g_1 H h114_1 h115_1 h116_1 h125_1 h126_1 hfact_o_1 hP hS ls hl
      refine lv_iload hx hb dL_law_235 (lv_at hl 0 rfl) ?_
      refine lv_iload hx hb dL_law_237 (lv_at hl 10 rfl) ?_
      refine lv_icmp_ge (tgt := 285) hx hb dL_law_239 (by decide) (fun c_239 => ?_) (fun c_239 => ?_)
      · skip
        have c_239 := (nI_leI (by omega) (by omega)).mp c_239
        obtain rfl : c9 = k := by omega
        exact ly4 S hr hlk hK hN hX hbl hb0 hL hXF (PA := PA) hn (by omega) hO4 hBE hFG hVO hVa hVP hVc hP4 (by omega) hsm g_1 H _ h114_1 h115_1 h116_1 h125_1 h126_1 hfact_o_1 hP hS (lv_sub hl [1, 2, 3, 4, 5, 6, 7, 8, 9, 10, 11] rfl)
      · skip
        have c_239 := (not_congr (nI_leI (by omega) (by omega))).mp c_239
        refine lv_aload hx hb dL_law_242 (lv_at hl 9 rfl) ?_
        refine lv_iload hx hb dL_law_244 (lv_at hl 0 rfl) ?_
        refine lv_aload_n hx hb dL_law_246 rfl (lv_at hl 1 rfl) ?_
        refine lv_bipush (v := nI (100)) hx hb dL_law_247 (by decide) ?_
        refine lv_iload hx hb dL_law_249 (lv_at hl 0 rfl) ?_
        refine lv_iadd hx hb dL_law_251 ?_
        refine tpi (nI_add 100 k) ?_
        refine kPi (A := AB b0) (As := [.ref b, .int (nI (100 + k))]) (rest := [.int (nI (k)), .ref ((bd b0) 126)]) S hK hP hX hbl hbA AA_AB hS (c_L_cell l D cy (bd b0) (127) g_1 b L xs (100 + k) (by omega) hL) cs_L_23 ⟨rfl, rfl⟩ rfl hl.1 rfl (Nat.le_of_ble_eq_true rfl) hRC dL_law_252 (fun r_252 q_252 => ?_)
        subst q_252
        refine lv_iconst (v := nI (4)) hx hb dL_law_255 (by decide) ?_
        have hv9 := ptv_lt (cev xs L (100 + k)) (n := 4) (by decide)
        refine kSi (As := [.int (cev xs L (100 + k)), .int (nI (4))]) (rest := [.int (nI (k)), .ref ((bd b0) 126)]) S hK hP (c_L_part l D cy (bd b0) (127) g_1 (cev xs L (100 + k)) 4 ⟨by omega, by omega⟩) cs_L_29 ⟨rfl, rfl⟩ rfl hl.1 rfl (Nat.le_of_ble_eq_true rfl) hRC dL_law_256 (fun r_256 q_256 => ?_)
        subst q_256
        refine mias S hK hP hI hS (by omega) h126_1 (vp_in_nI (by omega) (by omega)) dL_law_259 (fun g_2 H locs eg_2 hP hS => ?_)
        have h126_2 : g_2 126 = .inl (cy 1, 8, .inl (fun x9 => nI ((va_up PA k (ptv (cev xs L (100 + k)) 4)) x9))) := by rw [eg_2, va_up_self]; exact (arrN_up (by omega))
        have h114_2 : g_2 114 = .inl (cy 1, 64, .inl (fun x9 => nI (T2 x9))) := ((congrFun eg_2 _).trans (va_up_ne _ _ (by omega))).trans h114_1
        have h115_2 : g_2 115 = .inl (cy 1, 1, .inl (fun x9 => nI (BB x9))) := ((congrFun eg_2 _).trans (va_up_ne _ _ (by omega))).trans h115_1
        have h116_2 : g_2 116 = .inl (cy 1, 4, .inl (fun x9 => nI (BE x9))) := ((congrFun eg_2 _).trans (va_up_ne _ _ (by omega))).trans h116_1
        have h125_2 : g_2 125 = .inl (cy 1, 8, .inl (fun x9 => nI (O x9))) := ((congrFun eg_2 _).trans (va_up_ne _ _ (by omega))).trans h125_1
        have hfact_o_2 : OB9 cy (b0 + 0) (fun i => g_2 (0 + i)) (bgW n) 4 (nI 0) 2 0 Tto Flo FBo Vlo VVo := (hfact_o_1.fr (fun j hj => ((congrFun eg_2 _).trans (va_up_ne _ _ (by omega)))))
        obtain ⟨hq9, hS⟩ := SB_fresh hb0 hS
        refine W.fresh hq9 ?_
        refine lv_aload_n hx hb dL_law_260 rfl (lv_at hl 2 rfl) ?_
        refine lv_iconst (v := nI (1)) hx hb dL_law_261 (by decide) ?_
        refine lv_aload hx hb dL_law_262 (lv_at hl 9 rfl) ?_
        refine lv_iload hx hb dL_law_264 (lv_at hl 0 rfl) ?_
        refine mial S hK hP (by omega) h126_2 (vp_in_nI (by omega) (by omega)) dL_law_266 ?_
        refine tpi (congrArg ((fun x9 => nI ((va_up PA k (ptv (cev xs L (100 + k)) 4)) x9))) (nI_clamp (by omega))) ?_
        refine tpi (y := nI (ptv (cev xs L (100 + k)) 4)) (congrArg nI (va_up_self ..)) ?_
        obtain ⟨fs_3, ho_3⟩ := hfact_o_2.ob
        refine kOi (M := 114) (k := 0) (As := [.int (nI (1)), .int (nI (ptv (cev xs L (100 + k)) 4))]) (rest := []) S hK hP hS AA_AB (by omega) (by decide) (ob_add l D hfact_o_2 (v := 1) (f := ptv (cev xs L (100 + k)) 4) (by decide) hv9 (by omega)) cv_L_50 ho_3 ⟨_, _, rfl⟩ ⟨rfl, rfl⟩ rfl hl.1 rfl (Nat.le_of_ble_eq_true rfl) hRC dL_law_267 (fun r_3 u_3 g_3 H locs q_3 i_3 f_3 hP hS => ?_)
        obtain ⟨hq9, hS⟩ := SB_fresh hb0 hS
        refine W.fresh hq9 ?_
        obtain ⟨q_3, o_3⟩ := q_3
        subst q_3
        have hfact_o_3 : OB9 cy (b0 + 0) (fun i => g_3 (0 + i)) (bgW n) 4 (nI 0) 2 0 Tto Flo FBo (va_up Vlo 1 (Vlo 1 + 1)) (va_up VVo 1 (va_up (VVo 1) (Vlo 1) (ptv (cev xs L (100 + k)) 4))) := o_3.fr i_3
        have h114_3 : g_3 114 = .inl (cy 1, 64, .inl (fun x9 => nI (T2 x9))) := (f_3 114 (by omega)).trans h114_2
        have h115_3 : g_3 115 = .inl (cy 1, 1, .inl (fun x9 => nI (BB x9))) := (f_3 115 (by omega)).trans h115_2
        have h116_3 : g_3 116 = .inl (cy 1, 4, .inl (fun x9 => nI (BE x9))) := (f_3 116 (by omega)).trans h116_2
        have h125_3 : g_3 125 = .inl (cy 1, 8, .inl (fun x9 => nI (O x9))) := (f_3 125 (by omega)).trans h125_2
        have h126_3 : g_3 126 = .inl (cy 1, 8, .inl (fun x9 => nI ((va_up PA k (ptv (cev xs L (100 + k)) 4)) x9))) := (f_3 126 (by omega)).trans h126_2
        refine lv_iload hx hb dL_law_270 (lv_at hl 0 rfl) ?_
        refine lv_iconst (v := nI (1)) hx hb dL_law_272 (by decide) ?_
        refine lv_iadd hx hb dL_law_273 ?_
        refine tpi (nI_add k 1) ?_
        refine lv_icmp_eq (tgt := 279) hx hb dL_law_274 (by decide) (fun c_274 => ?_) (fun c_274 => ?_)
        · skip
          have c_274 := (nI_eq (by omega) (by omega)).mp c_274
          refine lv_iinc (v := nI (k + 1)) (lv' := [(11, .int (nI (k + 1))), (0, .ref b), (1, .ref ((bd b0) 0)), (2, .int (nI (n))), (3, .ref ((bd b0) 114)), (4, .ref ((bd b0) 115)), (5, .ref ((bd b0) 116)), (6, .ref ((bd b0) 125)), (8, .int (nI (a))), (7, .ref ((bd b0) 126)), (9, .int (nI (c9))), (10, .int (nI (sm)))]) hx hb dL_law_279 hl (k := 0) rfl (by exact nI_add k 1) (by decide) rfl (fun ls hl => ?_)
          refine lv_goto (tgt := 235) hx hb dL_law_282 (by decide) ?_
          exact ih235 (k + 1) (va_up PA k (ptv (cev xs L (100 + k)) 4)) (va_up Vlo 1 (Vlo 1 + 1)) (va_up VVo 1 (va_up (VVo 1) (Vlo 1) (ptv (cev xs L (100 + k)) 4))) (by omega) (up_4 hP4 hv9) ((va_up_ne _ _ (by decide)).trans hVO) ((va_up_self ..).trans (by rw [hVP, hVc])) ((va_up_ne _ _ (by decide)).trans hVa) ((va_up_self ..).trans (by omega)) (by omega) g_3 _ h114_3 h115_3 h116_3 h125_3 h126_3 hfact_o_3 hP hS _ (lv_sub hl [0, 1, 2, 3, 4, 5, 6, 7, 8, 9, 10, 11] rfl)
        · skip
          have c_274 := (not_congr (nI_eq (by omega) (by omega))).mp c_274
          exact absurd (by omega) c_274
  exact L235 ((c9 - 0) + 1) 0 (fun _ => 0) Vlo VVo (by omega) (fun _ => by decide) hVO hVP hVa hVc (Nat.lt_succ_self _) g _ hm114 hm115 hm116 hm125 hm126 hfo hP hS _ (lv_sub hl [0, 1, 2, 3, 4, 5, 6, 7, 8, 9, 10, 11] rfl)
set_option maxHeartbeats 4000000 in
set_option maxRecDepth 100000 in
theorem ly2 {p : Program} {l : Launch} {e : Env} {s : State} {m : MethodId} {below : List Frame} {meth : Method} {c : Code} {D : va_G} {cy : Nat → ClassId} {b0 b L : Nat} {xs : Nat → Int32} {sq sv : Nat} (S : CallFix p m c cL_law 21 s #[.ref b] wsL_law RL) (hr : meth.sig.returnType = ret) (hlk : meth.locks = false) (hK : va_K D vwCl (tyv cy) s) (hN : NX s) (hX : va_X b L xs s s.heap) (hbl : b < s.heap.size) (hb0 : s.heap.size = b0) (hL : L < 1000) (hXF : XF (AB b0) sq sv s s.heap) {n : Nat} {a : Nat} {BE : Nat → Nat} {T2 : Nat → Nat} {BB : Nat → Nat} {Tto : Nat → Nat} {Flo : Nat → Nat} {FBo : Nat → Nat → Nat} {Vlo : Nat → Nat} {VVo : Nat → Nat → Nat} {c9 : Nat} (hn : 4 ≤ n ∧ n ≤ 8) (ha : a ≤ 7) (hBE : ∀ j, j < 4 → BE j = Flo j) (hFG : FGS xs L n 4 Flo FBo) (hVO : VVo 0 = fun _ => 0) (hVP : VVo 1 = fun _ => 0) (hVa : Vlo 0 = 0) (hVc : Vlo 1 = 0) (hc9 : c9 ≤ 7) (g : Nat → va_E) (H : Heap) (ls : Array Slot) (hm114 : g 114 = .inl (cy 1, 64, .inl (fun x9 => nI (T2 x9)))) (hm115 : g 115 = .inl (cy 1, 1, .inl (fun x9 => nI (BB x9)))) (hm116 : g 116 = .inl (cy 1, 4, .inl (fun x9 => nI (BE x9)))) (hm125 : g 125 = .inl (cy 1, 8, .inl (fun x9 => nI (((fun _ => 0)) x9)))) (hm126 : g 126 = .inl (cy 1, 8, .inl (fun x9 => nI (((fun _ => 0)) x9)))) (hfo : OB9 cy (b0 + 0) (fun i => g (0 + i)) (bgW n) 4 (nI 0) 2 0 Tto Flo FBo Vlo VVo) (hP : MM D (bd b0) (127) g H) (hS : va_S (AB b0) s.heap H []) (hl : lv_has ls 21 [(0, .ref b), (1, .ref ((bd b0) 0)), (2, .int (nI (n))), (3, .ref ((bd b0) 114)), (4, .ref ((bd b0) 115)), (5, .ref ((bd b0) 116)), (6, .ref ((bd b0) 125)), (8, .int (nI (a))), (7, .ref ((bd b0) 126)), (9, .int (nI (c9)))]) : W p l e room_1 s m #[.ref b] below meth c H [] (127) (15124) (lw_Z below #[.ref b] s) (F0 m 163 ls []) := by
  have hx := S.1
  have hb := S.2.1
  have hI : MD (AB b0) (bd b0) (127) := bd_MD
  have hRC : 127 ≤ room_1.cells ∧ 15124 ≤ room_1.slots := ⟨(Nat.le_of_ble_eq_true rfl), (Nat.le_of_ble_eq_true rfl)⟩
  have hbA : ¬ AB b0 b := fun q => by unfold AB at q; omega
  refine lv_iconst (v := nI (0)) hx hb dL_law_163 (by decide) ?_
  refine lv_istore (lv' := [(10, .int (nI (0))), (0, .ref b), (1, .ref ((bd b0) 0)), (2, .int (nI (n))), (3, .ref ((bd b0) 114)), (4, .ref ((bd b0) 115)), (5, .ref ((bd b0) 116)), (6, .ref ((bd b0) 125)), (8, .int (nI (a))), (7, .ref ((bd b0) 126)), (9, .int (nI (c9)))]) hx hb dL_law_164 hl (by decide) rfl (fun ls hl => ?_)
  refine lv_iconst (v := nI (0)) hx hb dL_law_166 (by decide) ?_
  refine lv_istore (lv' := [(11, .int (nI (0))), (10, .int (nI (0))), (0, .ref b), (1, .ref ((bd b0) 0)), (2, .int (nI (n))), (3, .ref ((bd b0) 114)), (4, .ref ((bd b0) 115)), (5, .ref ((bd b0) 116)), (6, .ref ((bd b0) 125)), (8, .int (nI (a))), (7, .ref ((bd b0) 126)), (9, .int (nI (c9)))]) hx hb dL_law_167 hl (by decide) rfl (fun ls hl => ?_)
  have L169 : ∀ (fu : Nat) (k sm : Nat) (O Vlo : Nat → Nat) (VVo : Nat → Nat → Nat), (k ≤ a) → (∀ j, O j < 4) → (VVo 0 = O) → (VVo 1 = fun _ => 0) → (Vlo 0 = k) → (Vlo 1 = 0) → (sm = bts Flo 4 O k) → (a - k) < fu → ∀ (g_1 : Nat → va_E) (H : Heap), g_1 114 = .inl (cy 1, 64, .inl (fun x9 => nI (T2 x9))) → g_1 115 = .inl (cy 1, 1, .inl (fun x9 => nI (BB x9))) → g_1 116 = .inl (cy 1, 4, .inl (fun x9 => nI (BE x9))) → g_1 125 = .inl (cy 1, 8, .inl (fun x9 => nI (O x9))) → g_1 126 = .inl (cy 1, 8, .inl (fun x9 => nI (((fun _ => 0)) x9))) → (OB9 cy (b0 + 0) (fun i => g_1 (0 + i)) (bgW n) 4 (nI 0) 2 0 Tto Flo FBo Vlo VVo) → MM D (bd b0) (127) g_1 H → va_S (AB b0) s.heap H [] → ∀ (ls : Array Slot), lv_has ls 21 [(11, .int (nI (k))), (10, .int (nI (sm))), (0, .ref b), (1, .ref ((bd b0) 0)), (2, .int (nI (n))), (3, .ref ((bd b0) 114)), (4, .ref ((bd b0) 115)), (5, .ref ((bd b0) 116)), (6, .ref ((bd b0) 125)), (8, .int (nI (a))), (7, .ref ((bd b0) 126)), (9, .int (nI (c9)))] → W p l e room_1 s m #[.ref b] below meth c H [] (127) (15124) (lw_Z below #[.ref b] s) (F0 m 169 ls []) := by
    intro fu
    induction fu with
    | zero => intro k sm O Vlo VVo hk hO4 hVO hVP hVa hVc hsm hms g_1 H h114_1 h115_1 h116_1 h125_1 h126_1 hfact_o_1 hP hS ls hl; exact absurd hms (Nat.not_lt_zero _)
    | succ fu ih169 =>
      intro k sm O Vlo VVo hk hO4 hVO hVP hVa hVc hsm hms g_1 H h114_1 h115_1 h116_1 h125_1 h126_1 hfact_o_1 hP hS ls hl
      refine lv_iload hx hb dL_law_169 (lv_at hl 0 rfl) ?_
      refine lv_iload hx hb dL_law_171 (lv_at hl 9 rfl) ?_
      refine lv_icmp_ge (tgt := 232) hx hb dL_law_173 (by decide) (fun c_173 => ?_) (fun c_173 => ?_)
      · skip
        have c_173 := (nI_leI (by omega) (by omega)).mp c_173
        obtain rfl : a = k := by omega
        exact ly3 S hr hlk hK hN hX hbl hb0 hL hXF hn (by omega) hO4 hBE hFG hVO hVa hVP hVc (by omega) hsm g_1 H _ h114_1 h115_1 h116_1 h125_1 h126_1 hfact_o_1 hP hS (lv_sub hl [2, 3, 4, 5, 6, 7, 8, 9, 10, 11, 1] rfl)
      · skip
        have c_173 := (not_congr (nI_leI (by omega) (by omega))).mp c_173
        refine lv_aload hx hb dL_law_176 (lv_at hl 8 rfl) ?_
        refine lv_iload hx hb dL_law_178 (lv_at hl 0 rfl) ?_
        refine lv_aload_n hx hb dL_law_180 rfl (lv_at hl 2 rfl) ?_
        refine lv_bipush (v := nI (92)) hx hb dL_law_181 (by decide) ?_
        refine lv_iload hx hb dL_law_183 (lv_at hl 0 rfl) ?_
        refine lv_iadd hx hb dL_law_185 ?_
        refine tpi (nI_add 92 k) ?_
        refine kPi (A := AB b0) (As := [.ref b, .int (nI (92 + k))]) (rest := [.int (nI (k)), .ref ((bd b0) 125)]) S hK hP hX hbl hbA AA_AB hS (c_L_cell l D cy (bd b0) (127) g_1 b L xs (92 + k) (by omega) hL) cs_L_23 ⟨rfl, rfl⟩ rfl hl.1 rfl (Nat.le_of_ble_eq_true rfl) hRC dL_law_186 (fun r_186 q_186 => ?_)
        subst q_186
        refine lv_iconst (v := nI (4)) hx hb dL_law_189 (by decide) ?_
        refine kSi (As := [.int (cev xs L (92 + k)), .int (nI (4))]) (rest := [.int (nI (k)), .ref ((bd b0) 125)]) S hK hP (c_L_part l D cy (bd b0) (127) g_1 (cev xs L (92 + k)) 4 ⟨by omega, by omega⟩) cs_L_29 ⟨rfl, rfl⟩ rfl hl.1 rfl (Nat.le_of_ble_eq_true rfl) hRC dL_law_190 (fun r_190 q_190 => ?_)
        subst q_190
        have hv9 := ptv_lt (cev xs L (92 + k)) (n := 4) (by decide)
        refine mias S hK hP hI hS (by omega) h125_1 (vp_in_nI (by omega) (by omega)) dL_law_193 (fun g_2 H locs eg_2 hP hS => ?_)
        have h125_2 : g_2 125 = .inl (cy 1, 8, .inl (fun x9 => nI ((va_up O k (ptv (cev xs L (92 + k)) 4)) x9))) := by rw [eg_2, va_up_self]; exact (arrN_up (by omega))
        have h114_2 : g_2 114 = .inl (cy 1, 64, .inl (fun x9 => nI (T2 x9))) := ((congrFun eg_2 _).trans (va_up_ne _ _ (by omega))).trans h114_1
        have h115_2 : g_2 115 = .inl (cy 1, 1, .inl (fun x9 => nI (BB x9))) := ((congrFun eg_2 _).trans (va_up_ne _ _ (by omega))).trans h115_1
        have h116_2 : g_2 116 = .inl (cy 1, 4, .inl (fun x9 => nI (BE x9))) := ((congrFun eg_2 _).trans (va_up_ne _ _ (by omega))).trans h116_1
        have h126_2 : g_2 126 = .inl (cy 1, 8, .inl (fun x9 => nI (((fun _ => 0)) x9))) := ((congrFun eg_2 _).trans (va_up_ne _ _ (by omega))).trans h126_1
        have hfact_o_2 : OB9 cy (b0 + 0) (fun i => g_2 (0 + i)) (bgW n) 4 (nI 0) 2 0 Tto Flo FBo Vlo VVo := (hfact_o_1.fr (fun j hj => ((congrFun eg_2 _).trans (va_up_ne _ _ (by omega)))))
        obtain ⟨hq9, hS⟩ := SB_fresh hb0 hS
        refine W.fresh hq9 ?_
        refine lv_iload hx hb dL_law_194 (lv_at hl 1 rfl) ?_
        refine lv_aload hx hb dL_law_196 (lv_at hl 7 rfl) ?_
        refine lv_aload hx hb dL_law_198 (lv_at hl 8 rfl) ?_
        refine lv_iload hx hb dL_law_200 (lv_at hl 0 rfl) ?_
        refine mial S hK hP (by omega) h125_2 (vp_in_nI (by omega) (by omega)) dL_law_202 ?_
        refine tpi (congrArg ((fun x9 => nI ((va_up O k (ptv (cev xs L (92 + k)) 4)) x9))) (nI_clamp (by omega))) ?_
        refine tpi (y := nI (ptv (cev xs L (92 + k)) 4)) (congrArg nI (va_up_self ..)) ?_
        refine mial S hK hP (by omega) h116_2 (vp_in_nI (by omega) (by omega)) dL_law_203 ?_
        refine tpi (congrArg ((fun x9 => nI (BE x9))) (nI_clamp (by omega))) ?_
        refine tpi (y := nI (Flo (ptv (cev xs L (92 + k)) 4))) (congrArg nI (hBE _ hv9)) ?_
        refine lv_iadd hx hb dL_law_204 ?_
        refine tpi (nI_add sm (Flo (ptv (cev xs L (92 + k)) 4))) ?_
        refine lv_istore (lv' := [(10, .int (nI (sm + (Flo (ptv (cev xs L (92 + k)) 4))))), (11, .int (nI (k))), (0, .ref b), (1, .ref ((bd b0) 0)), (2, .int (nI (n))), (3, .ref ((bd b0) 114)), (4, .ref ((bd b0) 115)), (5, .ref ((bd b0) 116)), (6, .ref ((bd b0) 125)), (8, .int (nI (a))), (7, .ref ((bd b0) 126)), (9, .int (nI (c9)))]) hx hb dL_law_205 hl (by decide) rfl (fun ls hl => ?_)
        refine lv_aload_n hx hb dL_law_207 rfl (lv_at hl 3 rfl) ?_
        refine lv_iconst (v := nI (0)) hx hb dL_law_208 (by decide) ?_
        refine lv_aload hx hb dL_law_209 (lv_at hl 8 rfl) ?_
        refine lv_iload hx hb dL_law_211 (lv_at hl 1 rfl) ?_
        refine mial S hK hP (by omega) h125_2 (vp_in_nI (by omega) (by omega)) dL_law_213 ?_
        refine tpi (congrArg ((fun x9 => nI ((va_up O k (ptv (cev xs L (92 + k)) 4)) x9))) (nI_clamp (by omega))) ?_
        refine tpi (y := nI (ptv (cev xs L (92 + k)) 4)) (congrArg nI (va_up_self ..)) ?_
        obtain ⟨fs_3, ho_3⟩ := hfact_o_2.ob
        refine kOi (M := 114) (k := 0) (As := [.int (nI (0)), .int (nI (ptv (cev xs L (92 + k)) 4))]) (rest := []) S hK hP hS AA_AB (by omega) (by decide) (ob_add l D hfact_o_2 (v := 0) (f := ptv (cev xs L (92 + k)) 4) (by decide) hv9 (by omega)) cv_L_50 ho_3 ⟨_, _, rfl⟩ ⟨rfl, rfl⟩ rfl hl.1 rfl (Nat.le_of_ble_eq_true rfl) hRC dL_law_214 (fun r_3 u_3 g_3 H locs q_3 i_3 f_3 hP hS => ?_)
        obtain ⟨hq9, hS⟩ := SB_fresh hb0 hS
        refine W.fresh hq9 ?_
        obtain ⟨q_3, o_3⟩ := q_3
        subst q_3
        have hfact_o_3 : OB9 cy (b0 + 0) (fun i => g_3 (0 + i)) (bgW n) 4 (nI 0) 2 0 Tto Flo FBo (va_up Vlo 0 (Vlo 0 + 1)) (va_up VVo 0 (va_up (VVo 0) (Vlo 0) (ptv (cev xs L (92 + k)) 4))) := o_3.fr i_3
        have h114_3 : g_3 114 = .inl (cy 1, 64, .inl (fun x9 => nI (T2 x9))) := (f_3 114 (by omega)).trans h114_2
        have h115_3 : g_3 115 = .inl (cy 1, 1, .inl (fun x9 => nI (BB x9))) := (f_3 115 (by omega)).trans h115_2
        have h116_3 : g_3 116 = .inl (cy 1, 4, .inl (fun x9 => nI (BE x9))) := (f_3 116 (by omega)).trans h116_2
        have h125_3 : g_3 125 = .inl (cy 1, 8, .inl (fun x9 => nI ((va_up O k (ptv (cev xs L (92 + k)) 4)) x9))) := (f_3 125 (by omega)).trans h125_2
        have h126_3 : g_3 126 = .inl (cy 1, 8, .inl (fun x9 => nI (((fun _ => 0)) x9))) := (f_3 126 (by omega)).trans h126_2
        refine lv_iload hx hb dL_law_217 (lv_at hl 1 rfl) ?_
        refine lv_iconst (v := nI (1)) hx hb dL_law_219 (by decide) ?_
        refine lv_iadd hx hb dL_law_220 ?_
        refine tpi (nI_add k 1) ?_
        refine lv_icmp_eq (tgt := 226) hx hb dL_law_221 (by decide) (fun c_221 => ?_) (fun c_221 => ?_)
        · skip
          have c_221 := (nI_eq (by omega) (by omega)).mp c_221
          refine lv_iinc (v := nI (k + 1)) (lv' := [(11, .int (nI (k + 1))), (10, .int (nI (sm + (Flo (ptv (cev xs L (92 + k)) 4))))), (0, .ref b), (1, .ref ((bd b0) 0)), (2, .int (nI (n))), (3, .ref ((bd b0) 114)), (4, .ref ((bd b0) 115)), (5, .ref ((bd b0) 116)), (6, .ref ((bd b0) 125)), (8, .int (nI (a))), (7, .ref ((bd b0) 126)), (9, .int (nI (c9)))]) hx hb dL_law_226 hl (k := 1) rfl (by exact nI_add k 1) (by decide) rfl (fun ls hl => ?_)
          refine lv_goto (tgt := 169) hx hb dL_law_229 (by decide) ?_
          exact ih169 (k + 1) (sm + (Flo (ptv (cev xs L (92 + k)) 4))) (va_up O k (ptv (cev xs L (92 + k)) 4)) (va_up Vlo 0 (Vlo 0 + 1)) (va_up VVo 0 (va_up (VVo 0) (Vlo 0) (ptv (cev xs L (92 + k)) 4))) (by omega) (up_4 hO4 hv9) ((va_up_self ..).trans (by rw [hVO, hVa])) ((va_up_ne _ _ (by decide)).trans hVP) ((va_up_self ..).trans (by omega)) ((va_up_ne _ _ (by decide)).trans hVc) (bts_up hsm hv9) (by omega) g_3 _ h114_3 h115_3 h116_3 h125_3 h126_3 hfact_o_3 hP hS _ (lv_sub hl [0, 1, 2, 3, 4, 5, 6, 7, 8, 9, 10, 11] rfl)
        · skip
          have c_221 := (not_congr (nI_eq (by omega) (by omega))).mp c_221
          exact absurd (by omega) c_221
  exact L169 ((a - 0) + 1) 0 0 (fun _ => 0) Vlo VVo (by omega) (fun _ => by decide) hVO hVP hVa hVc rfl (Nat.lt_succ_self _) g _ hm114 hm115 hm116 hm125 hm126 hfo hP hS _ (lv_sub hl [0, 1, 2, 3, 4, 5, 6, 7, 8, 9, 10, 11] rfl)
set_option maxHeartbeats 4000000 in
set_option maxRecDepth 100000 in
theorem ly1 {p : Program} {l : Launch} {e : Env} {s : State} {m : MethodId} {below : List Frame} {meth : Method} {c : Code} {D : va_G} {cy : Nat → ClassId} {b0 b L : Nat} {xs : Nat → Int32} {sq sv : Nat} (S : CallFix p m c cL_law 21 s #[.ref b] wsL_law RL) (hr : meth.sig.returnType = ret) (hlk : meth.locks = false) (hK : va_K D vwCl (tyv cy) s) (hN : NX s) (hX : va_X b L xs s s.heap) (hbl : b < s.heap.size) (hb0 : s.heap.size = b0) (hL : L < 1000) (hXF : XF (AB b0) sq sv s s.heap) {n : Nat} {BE : Nat → Nat} {T2 : Nat → Nat} {BB : Nat → Nat} {Tto : Nat → Nat} {Flo : Nat → Nat} {FBo : Nat → Nat → Nat} (hn : 4 ≤ n ∧ n ≤ 8) (hBE : ∀ j, j < 4 → BE j = Flo j) (hFG : FGS xs L n 4 Flo FBo) (g : Nat → va_E) (H : Heap) (ls : Array Slot) (hm114 : g 114 = .inl (cy 1, 64, .inl (fun x9 => nI (T2 x9)))) (hm115 : g 115 = .inl (cy 1, 1, .inl (fun x9 => nI (BB x9)))) (hm116 : g 116 = .inl (cy 1, 4, .inl (fun x9 => nI (BE x9)))) (hfo : OB9 cy (b0 + 0) (fun i => g (0 + i)) (bgW n) 4 (nI 0) 2 0 Tto Flo FBo ((fun _ => 0)) ((fun _ _ => 0))) (hP : MM D (bd b0) (125) g H) (hS : va_S (AB b0) s.heap H []) (hl : lv_has ls 21 [(0, .ref b), (1, .ref ((bd b0) 0)), (2, .int (nI (n))), (3, .ref ((bd b0) 114)), (4, .ref ((bd b0) 115)), (5, .ref ((bd b0) 116))]) : W p l e room_1 s m #[.ref b] below meth c H [] (125) (15108) (lw_Z below #[.ref b] s) (F0 m 125 ls []) := by
  have hx := S.1
  have hb := S.2.1
  have hI : MD (AB b0) (bd b0) (125) := bd_MD
  have hRC : 125 ≤ room_1.cells ∧ 15108 ≤ room_1.slots := ⟨(Nat.le_trans (show _ ≤ 100000 by omega) (Nat.le_of_ble_eq_true rfl)), (Nat.le_trans (show _ ≤ 100000 by omega) (Nat.le_of_ble_eq_true rfl))⟩
  have hbA : ¬ AB b0 b := fun q => by unfold AB at q; omega
  refine lv_bipush (v := nI (8)) hx hb dL_law_125 (by decide) ?_
  refine W_hz (N0 := 0) hb0 hP (by omega) (by omega) (fun hz => ?_)
  refine gnewa (atype := .int) (t := 1) (n0 := 8) (a0 := (8, .inl (fun x9 => nI ((fun _ => 0) x9)))) S hK hP hI hS (fun q h => by show b0 ≤ q; omega) hz.symm ma_int rfl (za_int 8) (by decide) (by decide) (Nat.le_of_ble_eq_true rfl) (Nat.le_trans (show _ ≤ 100000 by omega) (Nat.le_of_ble_eq_true rfl)) (Nat.le_trans (show _ ≤ 100000 by omega) (Nat.le_of_ble_eq_true rfl)) dL_law_127 (fun g_1 H eg_1 hP _ hS _ => ?_)
  have hI : MD (AB b0) (bd b0) (126) := bd_MD
  have hRC : 126 ≤ room_1.cells ∧ 15116 ≤ room_1.slots := ⟨(Nat.le_trans (show _ ≤ 100000 by omega) (Nat.le_of_ble_eq_true rfl)), (Nat.le_trans (show _ ≤ 100000 by omega) (Nat.le_of_ble_eq_true rfl))⟩
  have h125_1 : g_1 125 = .inl (cy 1, 8, .inl (fun x9 => nI (((fun _ => 0)) x9))) := by rw [eg_1, va_up_self]
  have h114_1 : g_1 114 = .inl (cy 1, 64, .inl (fun x9 => nI (T2 x9))) := ((congrFun eg_1 _).trans (va_up_ne _ _ (by omega))).trans hm114
  have h115_1 : g_1 115 = .inl (cy 1, 1, .inl (fun x9 => nI (BB x9))) := ((congrFun eg_1 _).trans (va_up_ne _ _ (by omega))).trans hm115
  have h116_1 : g_1 116 = .inl (cy 1, 4, .inl (fun x9 => nI (BE x9))) := ((congrFun eg_1 _).trans (va_up_ne _ _ (by omega))).trans hm116
  have hfact_o_1 : OB9 cy (b0 + 0) (fun i => g_1 (0 + i)) (bgW n) 4 (nI 0) 2 0 Tto Flo FBo ((fun _ => 0)) ((fun _ _ => 0)) := (hfo.fr (fun j hj => ((congrFun eg_1 _).trans (va_up_ne _ _ (by omega)))))
  refine lv_astore (lv' := [(6, .ref ((bd b0) 125)), (0, .ref b), (1, .ref ((bd b0) 0)), (2, .int (nI (n))), (3, .ref ((bd b0) 114)), (4, .ref ((bd b0) 115)), (5, .ref ((bd b0) 116))]) hx hb dL_law_129 hl (by decide) rfl (fun ls hl => ?_)
  refine lv_bipush (v := nI (8)) hx hb dL_law_131 (by decide) ?_
  refine W_hz (N0 := 0) hb0 hP (by omega) (by omega) (fun hz => ?_)
  refine gnewa (atype := .int) (t := 1) (n0 := 8) (a0 := (8, .inl (fun x9 => nI ((fun _ => 0) x9)))) S hK hP hI hS (fun q h => by show b0 ≤ q; omega) hz.symm ma_int rfl (za_int 8) (by decide) (by decide) (Nat.le_of_ble_eq_true rfl) (Nat.le_trans (show _ ≤ 100000 by omega) (Nat.le_of_ble_eq_true rfl)) (Nat.le_trans (show _ ≤ 100000 by omega) (Nat.le_of_ble_eq_true rfl)) dL_law_133 (fun g_2 H eg_2 hP _ hS _ => ?_)
  have hI : MD (AB b0) (bd b0) (127) := bd_MD
  have hRC : 127 ≤ room_1.cells ∧ 15124 ≤ room_1.slots := ⟨(Nat.le_trans (show _ ≤ 100000 by omega) (Nat.le_of_ble_eq_true rfl)), (Nat.le_trans (show _ ≤ 100000 by omega) (Nat.le_of_ble_eq_true rfl))⟩
  have h126_2 : g_2 126 = .inl (cy 1, 8, .inl (fun x9 => nI (((fun _ => 0)) x9))) := by rw [eg_2, va_up_self]
  have h114_2 : g_2 114 = .inl (cy 1, 64, .inl (fun x9 => nI (T2 x9))) := ((congrFun eg_2 _).trans (va_up_ne _ _ (by omega))).trans h114_1
  have h115_2 : g_2 115 = .inl (cy 1, 1, .inl (fun x9 => nI (BB x9))) := ((congrFun eg_2 _).trans (va_up_ne _ _ (by omega))).trans h115_1
  have h116_2 : g_2 116 = .inl (cy 1, 4, .inl (fun x9 => nI (BE x9))) := ((congrFun eg_2 _).trans (va_up_ne _ _ (by omega))).trans h116_1
  have h125_2 : g_2 125 = .inl (cy 1, 8, .inl (fun x9 => nI (((fun _ => 0)) x9))) := ((congrFun eg_2 _).trans (va_up_ne _ _ (by omega))).trans h125_1
  have hfact_o_2 : OB9 cy (b0 + 0) (fun i => g_2 (0 + i)) (bgW n) 4 (nI 0) 2 0 Tto Flo FBo ((fun _ => 0)) ((fun _ _ => 0)) := (hfact_o_1.fr (fun j hj => ((congrFun eg_2 _).trans (va_up_ne _ _ (by omega)))))
  refine lv_astore (lv' := [(7, .ref ((bd b0) 126)), (6, .ref ((bd b0) 125)), (0, .ref b), (1, .ref ((bd b0) 0)), (2, .int (nI (n))), (3, .ref ((bd b0) 114)), (4, .ref ((bd b0) 115)), (5, .ref ((bd b0) 116))]) hx hb dL_law_135 hl (by decide) rfl (fun ls hl => ?_)
  refine lv_aload_n hx hb dL_law_137 rfl (lv_at hl 2 rfl) ?_
  refine lv_bipush (v := nI (90)) hx hb dL_law_138 (by decide) ?_
  refine kPi (A := AB b0) (As := [.ref b, .int (nI (90))]) (rest := []) S hK hP hX hbl hbA AA_AB hS (c_L_cell l D cy (bd b0) (127) g_2 b L xs 90 (by omega) hL) cs_L_23 ⟨rfl, rfl⟩ rfl hl.1 rfl (Nat.le_of_ble_eq_true rfl) hRC dL_law_140 (fun r_140 q_140 => ?_)
  subst q_140
  refine lv_bipush (v := nI (8)) hx hb dL_law_143 (by decide) ?_
  refine kSi (As := [.int (cev xs L 90), .int (nI (8))]) (rest := []) S hK hP (c_L_part l D cy (bd b0) (127) g_2 (cev xs L 90) 8 ⟨by omega, by omega⟩) cs_L_29 ⟨rfl, rfl⟩ rfl hl.1 rfl (Nat.le_of_ble_eq_true rfl) hRC dL_law_145 (fun r_145 q_145 => ?_)
  subst q_145
  have hp90 := ptv_lt (cev xs L 90) (n := 8) (by decide)
  refine lv_istore (lv' := [(8, .int (nI (ptv (cev xs L 90) 8))), (7, .ref ((bd b0) 126)), (6, .ref ((bd b0) 125)), (0, .ref b), (1, .ref ((bd b0) 0)), (2, .int (nI (n))), (3, .ref ((bd b0) 114)), (4, .ref ((bd b0) 115)), (5, .ref ((bd b0) 116))]) hx hb dL_law_148 hl (by decide) rfl (fun ls hl => ?_)
  refine lv_aload_n hx hb dL_law_150 rfl (lv_at hl 3 rfl) ?_
  refine lv_bipush (v := nI (91)) hx hb dL_law_151 (by decide) ?_
  refine kPi (A := AB b0) (As := [.ref b, .int (nI (91))]) (rest := []) S hK hP hX hbl hbA AA_AB hS (c_L_cell l D cy (bd b0) (127) g_2 b L xs 91 (by omega) hL) cs_L_23 ⟨rfl, rfl⟩ rfl hl.1 rfl (Nat.le_of_ble_eq_true rfl) hRC dL_law_153 (fun r_153 q_153 => ?_)
  subst q_153
  refine lv_bipush (v := nI (8)) hx hb dL_law_156 (by decide) ?_
  refine kSi (As := [.int (cev xs L 91), .int (nI (8))]) (rest := []) S hK hP (c_L_part l D cy (bd b0) (127) g_2 (cev xs L 91) 8 ⟨by omega, by omega⟩) cs_L_29 ⟨rfl, rfl⟩ rfl hl.1 rfl (Nat.le_of_ble_eq_true rfl) hRC dL_law_158 (fun r_158 q_158 => ?_)
  subst q_158
  have hp91 := ptv_lt (cev xs L 91) (n := 8) (by decide)
  refine lv_istore (lv' := [(9, .int (nI (ptv (cev xs L 91) 8))), (8, .int (nI (ptv (cev xs L 90) 8))), (7, .ref ((bd b0) 126)), (6, .ref ((bd b0) 125)), (0, .ref b), (1, .ref ((bd b0) 0)), (2, .int (nI (n))), (3, .ref ((bd b0) 114)), (4, .ref ((bd b0) 115)), (5, .ref ((bd b0) 116))]) hx hb dL_law_161 hl (by decide) rfl (fun ls hl => ?_)
  exact ly2 S hr hlk hK hN hX hbl hb0 hL hXF (a := ptv (cev xs L 90) 8) (c9 := ptv (cev xs L 91) 8) hn (by omega) hBE hFG rfl rfl rfl rfl (by omega) g_2 H _ h114_2 h115_2 h116_2 h125_2 h126_2 hfact_o_2 hP hS (lv_sub hl [4, 5, 6, 7, 8, 9, 3, 1, 2, 0] rfl)
theorem up_eq {A B : Nat → Nat} {k v : Nat} (h : ∀ j, j < k → A j = B j) : ∀ j, j < k + 1 → va_up A k v j = va_up B k v j := fun j hj => by
  by_cases e : j = k
  · subst e; rw [va_up_self, va_up_self]
  · rw [va_up_ne _ _ e, va_up_ne _ _ e]; exact h j (by omega)
set_option maxHeartbeats 4000000 in
set_option maxRecDepth 100000 in
theorem ly0 {p : Program} {l : Launch} {e : Env} {s : State} {m : MethodId} {below : List Frame} {meth : Method} {c : Code} {D : va_G} {cy : Nat → ClassId} {b0 b L : Nat} {xs : Nat → Int32} {sq sv : Nat} (S : CallFix p m c cL_law 21 s #[.ref b] wsL_law RL) (hr : meth.sig.returnType = ret) (hlk : meth.locks = false) (hK : va_K D vwCl (tyv cy) s) (hN : NX s) (hX : va_X b L xs s s.heap) (hbl : b < s.heap.size) (hb0 : s.heap.size = b0) (hL : L < 1000) (hXF : XF (AB b0) sq sv s s.heap) {n : Nat} (hn : 4 ≤ n ∧ n ≤ 8) (g : Nat → va_E) (H : Heap) (ls : Array Slot) (hfo : OB9 cy (b0 + 0) (fun i => g (0 + i)) (bgW n) 0 (nI 0) 2 0 ((fun _ => 0)) ((fun _ => 0)) ((fun _ _ => 0)) ((fun _ => 0)) ((fun _ _ => 0))) (hP : MM D (bd b0) (114) g H) (hS : va_S (AB b0) s.heap H []) (hl : lv_has ls 21 [(0, .ref b), (1, .ref ((bd b0) 0)), (2, .int (nI (n)))]) : W p l e room_1 s m #[.ref b] below meth c H [] (114) (14527) (lw_Z below #[.ref b] s) (F0 m 46 ls []) := by
  have hx := S.1
  have hb := S.2.1
  have hI : MD (AB b0) (bd b0) (114) := bd_MD
  have hRC : 114 ≤ room_1.cells ∧ 14527 ≤ room_1.slots := ⟨(Nat.le_trans (show _ ≤ 100000 by omega) (Nat.le_of_ble_eq_true rfl)), (Nat.le_trans (show _ ≤ 100000 by omega) (Nat.le_of_ble_eq_true rfl))⟩
  have hbA : ¬ AB b0 b := fun q => by unfold AB at q; omega
  refine lv_bipush (v := nI (64)) hx hb dL_law_46 (by decide) ?_
  refine W_hz (N0 := 0) hb0 hP (by omega) (by omega) (fun hz => ?_)
  refine gnewa (atype := .int) (t := 1) (n0 := 64) (a0 := (64, .inl (fun x9 => nI ((fun _ => 0) x9)))) S hK hP hI hS (fun q h => by show b0 ≤ q; omega) hz.symm ma_int rfl (za_int 64) (by decide) (by decide) (Nat.le_of_ble_eq_true rfl) (Nat.le_trans (show _ ≤ 100000 by omega) (Nat.le_of_ble_eq_true rfl)) (Nat.le_trans (show _ ≤ 100000 by omega) (Nat.le_of_ble_eq_true rfl)) dL_law_48 (fun g_1 H eg_1 hP _ hS _ => ?_)
  have hI : MD (AB b0) (bd b0) (115) := bd_MD
  have hRC : 115 ≤ room_1.cells ∧ 14591 ≤ room_1.slots := ⟨(Nat.le_trans (show _ ≤ 100000 by omega) (Nat.le_of_ble_eq_true rfl)), (Nat.le_trans (show _ ≤ 100000 by omega) (Nat.le_of_ble_eq_true rfl))⟩
  have h114_1 : g_1 114 = .inl (cy 1, 64, .inl (fun x9 => nI (((fun _ => 0)) x9))) := by rw [eg_1, va_up_self]
  have hfact_o_1 : OB9 cy (b0 + 0) (fun i => g_1 (0 + i)) (bgW n) 0 (nI 0) 2 0 ((fun _ => 0)) ((fun _ => 0)) ((fun _ _ => 0)) ((fun _ => 0)) ((fun _ _ => 0)) := (hfo.fr (fun j hj => ((congrFun eg_1 _).trans (va_up_ne _ _ (by omega)))))
  refine lv_astore_n (lv' := [(3, .ref ((bd b0) 114)), (0, .ref b), (1, .ref ((bd b0) 0)), (2, .int (nI (n)))]) hx hb dL_law_50 rfl hl (by decide) rfl (fun ls hl => ?_)
  refine lv_iconst (v := nI (1)) hx hb dL_law_51 (by decide) ?_
  refine W_hz (N0 := 0) hb0 hP (by omega) (by omega) (fun hz => ?_)
  refine gnewa (atype := .int) (t := 1) (n0 := 1) (a0 := (1, .inl (fun x9 => nI ((fun _ => 0) x9)))) S hK hP hI hS (fun q h => by show b0 ≤ q; omega) hz.symm ma_int rfl (za_int 1) (by decide) (by decide) (Nat.le_of_ble_eq_true rfl) (Nat.le_trans (show _ ≤ 100000 by omega) (Nat.le_of_ble_eq_true rfl)) (Nat.le_trans (show _ ≤ 100000 by omega) (Nat.le_of_ble_eq_true rfl)) dL_law_52 (fun g_2 H eg_2 hP _ hS _ => ?_)
  have hI : MD (AB b0) (bd b0) (116) := bd_MD
  have hRC : 116 ≤ room_1.cells ∧ 14592 ≤ room_1.slots := ⟨(Nat.le_trans (show _ ≤ 100000 by omega) (Nat.le_of_ble_eq_true rfl)), (Nat.le_trans (show _ ≤ 100000 by omega) (Nat.le_of_ble_eq_true rfl))⟩
  have h115_2 : g_2 115 = .inl (cy 1, 1, .inl (fun x9 => nI (((fun _ => 0)) x9))) := by rw [eg_2, va_up_self]
  have h114_2 : g_2 114 = .inl (cy 1, 64, .inl (fun x9 => nI (((fun _ => 0)) x9))) := ((congrFun eg_2 _).trans (va_up_ne _ _ (by omega))).trans h114_1
  have hfact_o_2 : OB9 cy (b0 + 0) (fun i => g_2 (0 + i)) (bgW n) 0 (nI 0) 2 0 ((fun _ => 0)) ((fun _ => 0)) ((fun _ _ => 0)) ((fun _ => 0)) ((fun _ _ => 0)) := (hfact_o_1.fr (fun j hj => ((congrFun eg_2 _).trans (va_up_ne _ _ (by omega)))))
  refine lv_astore (lv' := [(4, .ref ((bd b0) 115)), (3, .ref ((bd b0) 114)), (0, .ref b), (1, .ref ((bd b0) 0)), (2, .int (nI (n)))]) hx hb dL_law_54 hl (by decide) rfl (fun ls hl => ?_)
  refine lv_iconst (v := nI (4)) hx hb dL_law_56 (by decide) ?_
  refine W_hz (N0 := 0) hb0 hP (by omega) (by omega) (fun hz => ?_)
  refine gnewa (atype := .int) (t := 1) (n0 := 4) (a0 := (4, .inl (fun x9 => nI ((fun _ => 0) x9)))) S hK hP hI hS (fun q h => by show b0 ≤ q; omega) hz.symm ma_int rfl (za_int 4) (by decide) (by decide) (Nat.le_of_ble_eq_true rfl) (Nat.le_trans (show _ ≤ 100000 by omega) (Nat.le_of_ble_eq_true rfl)) (Nat.le_trans (show _ ≤ 100000 by omega) (Nat.le_of_ble_eq_true rfl)) dL_law_57 (fun g_3 H eg_3 hP _ hS _ => ?_)
  have hI : MD (AB b0) (bd b0) (117) := bd_MD
  have hRC : 117 ≤ room_1.cells ∧ 14596 ≤ room_1.slots := ⟨(Nat.le_trans (show _ ≤ 100000 by omega) (Nat.le_of_ble_eq_true rfl)), (Nat.le_trans (show _ ≤ 100000 by omega) (Nat.le_of_ble_eq_true rfl))⟩
  have h116_3 : g_3 116 = .inl (cy 1, 4, .inl (fun x9 => nI (((fun _ => 0)) x9))) := by rw [eg_3, va_up_self]
  have h114_3 : g_3 114 = .inl (cy 1, 64, .inl (fun x9 => nI (((fun _ => 0)) x9))) := ((congrFun eg_3 _).trans (va_up_ne _ _ (by omega))).trans h114_2
  have h115_3 : g_3 115 = .inl (cy 1, 1, .inl (fun x9 => nI (((fun _ => 0)) x9))) := ((congrFun eg_3 _).trans (va_up_ne _ _ (by omega))).trans h115_2
  have hfact_o_3 : OB9 cy (b0 + 0) (fun i => g_3 (0 + i)) (bgW n) 0 (nI 0) 2 0 ((fun _ => 0)) ((fun _ => 0)) ((fun _ _ => 0)) ((fun _ => 0)) ((fun _ _ => 0)) := (hfact_o_2.fr (fun j hj => ((congrFun eg_3 _).trans (va_up_ne _ _ (by omega)))))
  refine lv_astore (lv' := [(5, .ref ((bd b0) 116)), (4, .ref ((bd b0) 115)), (3, .ref ((bd b0) 114)), (0, .ref b), (1, .ref ((bd b0) 0)), (2, .int (nI (n)))]) hx hb dL_law_59 hl (by decide) rfl (fun ls hl => ?_)
  refine lv_iconst (v := nI (0)) hx hb dL_law_61 (by decide) ?_
  refine lv_istore (lv' := [(6, .int (nI (0))), (5, .ref ((bd b0) 116)), (4, .ref ((bd b0) 115)), (3, .ref ((bd b0) 114)), (0, .ref b), (1, .ref ((bd b0) 0)), (2, .int (nI (n)))]) hx hb dL_law_62 hl (by decide) rfl (fun ls hl => ?_)
  have L64 : ∀ (fu : Nat) (f Nv Sv : Nat) (T2 BB BE Tto Flo : Nat → Nat) (FBo : Nat → Nat → Nat), (f ≤ 4) → (Nv = 117 + 2 * f) → (Sv = 14596 + 128 * f) → (FGS xs L n f Flo FBo) → (∀ j, j < f → BE j = Flo j) → (4 - f) < fu → ∀ (g_4 : Nat → va_E) (H : Heap), g_4 114 = .inl (cy 1, 64, .inl (fun x9 => nI (T2 x9))) → g_4 115 = .inl (cy 1, 1, .inl (fun x9 => nI (BB x9))) → g_4 116 = .inl (cy 1, 4, .inl (fun x9 => nI (BE x9))) → (OB9 cy (b0 + 0) (fun i => g_4 (0 + i)) (bgW n) f (nI 0) 2 0 Tto Flo FBo ((fun _ => 0)) ((fun _ _ => 0))) → MM D (bd b0) (Nv) g_4 H → va_S (AB b0) s.heap H [] → ∀ (ls : Array Slot), lv_has ls 21 [(6, .int (nI (f))), (5, .ref ((bd b0) 116)), (4, .ref ((bd b0) 115)), (3, .ref ((bd b0) 114)), (0, .ref b), (1, .ref ((bd b0) 0)), (2, .int (nI (n)))] → W p l e room_1 s m #[.ref b] below meth c H [] (Nv) (Sv) (lw_Z below #[.ref b] s) (F0 m 64 ls []) := by
    intro fu
    induction fu with
    | zero => intro f Nv Sv T2 BB BE Tto Flo FBo hf9 hNv hSv hFG hBE hms g_4 H h114_4 h115_4 h116_4 hfact_o_4 hP hS ls hl; exact absurd hms (Nat.not_lt_zero _)
    | succ fu ih64 =>
      intro f Nv Sv T2 BB BE Tto Flo FBo hf9 hNv hSv hFG hBE hms g_4 H h114_4 h115_4 h116_4 hfact_o_4 hP hS ls hl
      have hI : MD (AB b0) (bd b0) (Nv) := bd_MD
      have hRC : Nv ≤ room_1.cells ∧ Sv ≤ room_1.slots := ⟨(Nat.le_trans (show _ ≤ 100000 by omega) (Nat.le_of_ble_eq_true rfl)), (Nat.le_trans (show _ ≤ 100000 by omega) (Nat.le_of_ble_eq_true rfl))⟩
      refine lv_iload hx hb dL_law_64 (lv_at hl 0 rfl) ?_
      refine lv_iconst (v := nI (4)) hx hb dL_law_66 (by decide) ?_
      refine lv_icmp_ge (tgt := 125) hx hb dL_law_67 (by decide) (fun c_67 => ?_) (fun c_67 => ?_)
      · skip
        have c_67 := (nI_leI (by omega) (by omega)).mp c_67
        obtain rfl : f = 4 := by omega
        obtain rfl : Nv = 125 := by omega
        obtain rfl : Sv = 15108 := by omega
        exact ly1 S hr hlk hK hN hX hbl hb0 hL hXF hn hBE hFG g_4 H _ h114_4 h115_4 h116_4 hfact_o_4 hP hS (lv_sub hl [4, 5, 6, 3, 2, 1] rfl)
      · skip
        have c_67 := (not_congr (nI_leI (by omega) (by omega))).mp c_67
        refine lv_aload_n hx hb dL_law_70 rfl (lv_at hl 4 rfl) ?_
        refine lv_iconst (v := nI (1)) hx hb dL_law_71 (by decide) ?_
        refine lv_bipush (v := nI (20)) hx hb dL_law_72 (by decide) ?_
        refine lv_iload hx hb dL_law_74 (lv_at hl 0 rfl) ?_
        refine lv_imul hx hb dL_law_76 ?_
        refine tpi (pk_mul 20 f) ?_
        refine lv_iadd hx hb dL_law_77 ?_
        refine tpi (nI_add 1 (20 * f)) ?_
        refine lv_iload_n hx hb dL_law_78 rfl (lv_at hl 6 rfl) ?_
        refine lv_aload_n hx hb dL_law_79 rfl (lv_at hl 3 rfl) ?_
        refine lv_bipush (v := nI (64)) hx hb dL_law_80 (by decide) ?_
        refine W_hz (N0 := 0) hb0 hP (by omega) (by omega) (fun hz => ?_)
        refine gnewa (atype := .int) (t := 1) (n0 := 64) (a0 := (64, .inl (fun x9 => nI ((fun _ => 0) x9)))) S hK hP hI hS (fun q h => by show b0 ≤ q; omega) hz.symm ma_int rfl (za_int 64) (by decide) (by decide) (Nat.le_of_ble_eq_true rfl) (Nat.le_trans (show _ ≤ 100000 by omega) (Nat.le_of_ble_eq_true rfl)) (Nat.le_trans (show _ ≤ 100000 by omega) (Nat.le_of_ble_eq_true rfl)) dL_law_82 (fun g_5 H eg_5 hP _ hS _ => ?_)
        have hI : MD (AB b0) (bd b0) (Nv + 1) := bd_MD
        have hRC : Nv + 1 ≤ room_1.cells ∧ Sv + 64 ≤ room_1.slots := ⟨(Nat.le_trans (show _ ≤ 100000 by omega) (Nat.le_of_ble_eq_true rfl)), (Nat.le_trans (show _ ≤ 100000 by omega) (Nat.le_of_ble_eq_true rfl))⟩
        have hNv_5 : g_5 Nv = .inl (cy 1, 64, .inl (fun x9 => nI (((fun _ => 0)) x9))) := by rw [eg_5, va_up_self]
        have h114_5 : g_5 114 = .inl (cy 1, 64, .inl (fun x9 => nI (T2 x9))) := ((congrFun eg_5 _).trans (va_up_ne _ _ (by omega))).trans h114_4
        have h115_5 : g_5 115 = .inl (cy 1, 1, .inl (fun x9 => nI (BB x9))) := ((congrFun eg_5 _).trans (va_up_ne _ _ (by omega))).trans h115_4
        have h116_5 : g_5 116 = .inl (cy 1, 4, .inl (fun x9 => nI (BE x9))) := ((congrFun eg_5 _).trans (va_up_ne _ _ (by omega))).trans h116_4
        have hfact_o_5 : OB9 cy (b0 + 0) (fun i => g_5 (0 + i)) (bgW n) f (nI 0) 2 0 Tto Flo FBo ((fun _ => 0)) ((fun _ _ => 0)) := (hfact_o_4.fr (fun j hj => ((congrFun eg_5 _).trans (va_up_ne _ _ (by omega)))))
        refine lv_bipush (v := nI (64)) hx hb dL_law_84 (by decide) ?_
        refine W_hz (N0 := 0) hb0 hP (by omega) (by omega) (fun hz => ?_)
        refine gnewa (atype := .int) (t := 1) (n0 := 64) (a0 := (64, .inl (fun x9 => nI ((fun _ => 0) x9)))) S hK hP hI hS (fun q h => by show b0 ≤ q; omega) hz.symm ma_int rfl (za_int 64) (by decide) (by decide) (Nat.le_of_ble_eq_true rfl) (Nat.le_trans (show _ ≤ 100000 by omega) (Nat.le_of_ble_eq_true rfl)) (Nat.le_trans (show _ ≤ 100000 by omega) (Nat.le_of_ble_eq_true rfl)) dL_law_86 (fun g_6 H eg_6 hP _ hS _ => ?_)
        have hI : MD (AB b0) (bd b0) (Nv + 2) := bd_MD
        have hRC : Nv + 2 ≤ room_1.cells ∧ Sv + 128 ≤ room_1.slots := ⟨(Nat.le_trans (show _ ≤ 100000 by omega) (Nat.le_of_ble_eq_true rfl)), (Nat.le_trans (show _ ≤ 100000 by omega) (Nat.le_of_ble_eq_true rfl))⟩
        have hNv___1_6 : g_6 (Nv + 1) = .inl (cy 1, 64, .inl (fun x9 => nI (((fun _ => 0)) x9))) := by rw [eg_6, va_up_self]
        have h114_6 : g_6 114 = .inl (cy 1, 64, .inl (fun x9 => nI (T2 x9))) := ((congrFun eg_6 _).trans (va_up_ne _ _ (by omega))).trans h114_5
        have h115_6 : g_6 115 = .inl (cy 1, 1, .inl (fun x9 => nI (BB x9))) := ((congrFun eg_6 _).trans (va_up_ne _ _ (by omega))).trans h115_5
        have h116_6 : g_6 116 = .inl (cy 1, 4, .inl (fun x9 => nI (BE x9))) := ((congrFun eg_6 _).trans (va_up_ne _ _ (by omega))).trans h116_5
        have hNv_6 : g_6 Nv = .inl (cy 1, 64, .inl (fun x9 => nI (((fun _ => 0)) x9))) := ((congrFun eg_6 _).trans (va_up_ne _ _ (by omega))).trans hNv_5
        have hfact_o_6 : OB9 cy (b0 + 0) (fun i => g_6 (0 + i)) (bgW n) f (nI 0) 2 0 Tto Flo FBo ((fun _ => 0)) ((fun _ _ => 0)) := (hfact_o_5.fr (fun j hj => ((congrFun eg_6 _).trans (va_up_ne _ _ (by omega)))))
        refine lv_aload hx hb dL_law_88 (lv_at hl 2 rfl) ?_
        refine lv_iconst (v := nI (0)) hx hb dL_law_90 (by decide) ?_
        refine kPMi (A := AB b0) (As := [.ref b, .int (nI (1 + (20 * f))), .int (nI (n)), .ref ((bd b0) 114), .ref ((bd b0) Nv), .ref ((bd b0) (Nv + 1)), .ref ((bd b0) 115), .int (nI (0))]) (rest := []) S hK hP hX hbl hbA AA_AB hS (c_L_figure l D cy (bd b0) (Nv + 2) g_6 bd_inj b L xs (1 + (20 * f)) (by omega) n hn hL 114 (Nv) (Nv + 1) 115 (by omega) (by omega) T2 h114_6 hNv_6 hNv___1_6 BB h115_6) cs_L_43 ⟨rfl, rfl⟩ rfl hl.1 rfl (Nat.le_of_ble_eq_true rfl) hRC dL_law_91 (fun r_7 g_7 H locs q_7 hP hS => ?_)
        obtain ⟨hq9, hS⟩ := SB_fresh hb0 hS
        refine W.fresh hq9 ?_
        obtain ⟨T_7, l_7, q_7, hl_7, hT_7, hX_7, m1_7, m2_7, f_7⟩ := q_7
        subst q_7
        have h116_7 : g_7 116 = .inl (cy 1, 4, .inl (fun x9 => nI (BE x9))) := (f_7 116 (by omega) (by omega) (by omega) (by omega)).trans h116_6
        have hfact_o_7 : OB9 cy (b0 + 0) (fun i => g_7 (0 + i)) (bgW n) f (nI 0) 2 0 Tto Flo FBo ((fun _ => 0)) ((fun _ _ => 0)) := (hfact_o_6.fr (fun j hj => (f_7 (0 + j) (by omega) (by omega) (by omega) (by omega))))
        refine lv_istore (lv' := [(7, .int (nI (l_7))), (6, .int (nI (f))), (5, .ref ((bd b0) 116)), (4, .ref ((bd b0) 115)), (3, .ref ((bd b0) 114)), (0, .ref b), (1, .ref ((bd b0) 0)), (2, .int (nI (n)))]) hx hb dL_law_94 hl (by decide) rfl (fun ls hl => ?_)
        refine lv_aload_n hx hb dL_law_96 rfl (lv_at hl 6 rfl) ?_
        refine lv_aload_n hx hb dL_law_97 rfl (lv_at hl 4 rfl) ?_
        refine lv_iload hx hb dL_law_98 (lv_at hl 0 rfl) ?_
        refine kSXi (A := AB b0) (As := [.ref ((bd b0) 0), .ref ((bd b0) 114), .int (nI (l_7))]) (rest := []) S hK hP hXF AA_AB hS (c_L_says l D cy b0 (Nv + 2) g_7 sq sv 0 114 l_7 T_7 m1_7 (by omega) (by omega) (bgW n) f (nI 0) 2 Tto Flo FBo ((fun _ => 0)) ((fun _ _ => 0)) hfact_o_7 (by omega) (by omega) hT_7 (fgR xs L (1 + (20 * f)) n (fgI xs L (1 + (20 * f)))).1 (rw8 (fgR xs L (1 + (20 * f)) n (fgI xs L (1 + (20 * f))))) 0 0 hX_7 (Nat.le_trans fig_le (by decide))) cs_L_46 ⟨rfl, rfl⟩ rfl hl.1 rfl (Nat.le_of_ble_eq_true rfl) hRC dL_law_100 (fun r_8 g_8 H locs q_8 hP hS => ?_)
        obtain ⟨hq9, hS⟩ := SB_fresh hb0 hS
        refine W.fresh hq9 ?_
        obtain ⟨B_8, Tt_8, q_8, hB_8, o_8, f_8⟩ := q_8
        subst q_8
        have h114_8 : g_8 114 = .inl (cy 1, 64, .inl (fun x9 => nI (T_7 x9))) := (f_8 114 (by omega)).trans m1_7
        have h115_8 : g_8 115 = .inl (cy 1, 1, .inl (fun x9 => nI ((va_up BB 0 (fgR xs L (1 + (20 * f)) n (fgI xs L (1 + (20 * f)))).1) x9))) := (f_8 115 (by omega)).trans m2_7
        have h116_8 : g_8 116 = .inl (cy 1, 4, .inl (fun x9 => nI (BE x9))) := (f_8 116 (by omega)).trans h116_7
        refine lv_iload hx hb dL_law_103 (lv_at hl 1 rfl) ?_
        refine lv_icmp_eq (tgt := 110) hx hb dL_law_105 (by decide) (fun c_105 => ?_) (fun c_105 => ?_)
        · skip
          have c_105 := (nI_eq (by omega) (by omega)).mp c_105
          refine lv_aload hx hb dL_law_110 (lv_at hl 2 rfl) ?_
          refine lv_iload hx hb dL_law_112 (lv_at hl 1 rfl) ?_
          refine lv_aload hx hb dL_law_114 (lv_at hl 3 rfl) ?_
          refine lv_iconst (v := nI (0)) hx hb dL_law_116 (by decide) ?_
          refine mial S hK hP (by omega) h115_8 (vp_in_nI (by omega) (by omega)) dL_law_117 ?_
          refine tpi (congrArg ((fun x9 => nI ((va_up BB 0 (fgR xs L (1 + (20 * f)) n (fgI xs L (1 + (20 * f)))).1) x9))) (nI_clamp (by omega))) ?_
          refine tpi (y := nI ((fgR xs L (1 + (20 * f)) n (fgI xs L (1 + (20 * f)))).1)) (congrArg nI (va_up_self ..)) ?_
          refine mias S hK hP hI hS (by omega) h116_8 (vp_in_nI (by omega) (by omega)) dL_law_118 (fun g_9 H locs eg_9 hP hS => ?_)
          have h116_9 : g_9 116 = .inl (cy 1, 4, .inl (fun x9 => nI ((va_up BE f ((fgR xs L (1 + (20 * f)) n (fgI xs L (1 + (20 * f)))).1)) x9))) := by rw [eg_9, va_up_self]; exact (arrN_up (by omega))
          have h114_9 : g_9 114 = .inl (cy 1, 64, .inl (fun x9 => nI (T_7 x9))) := ((congrFun eg_9 _).trans (va_up_ne _ _ (by omega))).trans h114_8
          have h115_9 : g_9 115 = .inl (cy 1, 1, .inl (fun x9 => nI ((va_up BB 0 (fgR xs L (1 + (20 * f)) n (fgI xs L (1 + (20 * f)))).1) x9))) := ((congrFun eg_9 _).trans (va_up_ne _ _ (by omega))).trans h115_8
          have hfact_o_9 : OB9 cy (b0 + 0) (fun i => g_9 (0 + i)) (bgW n) (f + 1) (nI 0) 2 0 Tt_8 (va_up Flo f (fgR xs L (1 + (20 * f)) n (fgI xs L (1 + (20 * f)))).1) (va_up FBo f B_8) ((fun _ => 0)) ((fun _ _ => 0)) := (o_8.fr (fun j hj => ((congrFun eg_9 _).trans (va_up_ne _ _ (by omega)))))
          obtain ⟨hq9, hS⟩ := SB_fresh hb0 hS
          refine W.fresh hq9 ?_
          refine lv_iinc (v := nI (f + 1)) (lv' := [(6, .int (nI (f + 1))), (7, .int (nI (l_7))), (5, .ref ((bd b0) 116)), (4, .ref ((bd b0) 115)), (3, .ref ((bd b0) 114)), (0, .ref b), (1, .ref ((bd b0) 0)), (2, .int (nI (n)))]) hx hb dL_law_119 hl (k := 1) rfl (by exact nI_add f 1) (by decide) rfl (fun ls hl => ?_)
          refine lv_goto (tgt := 64) hx hb dL_law_122 (by decide) ?_
          exact ih64 (f + 1) (Nv + 2) (Sv + 128) T_7 (va_up BB 0 (fgR xs L (1 + (20 * f)) n (fgI xs L (1 + (20 * f)))).1) (va_up BE f ((fgR xs L (1 + (20 * f)) n (fgI xs L (1 + (20 * f)))).1)) Tt_8 (va_up Flo f (fgR xs L (1 + (20 * f)) n (fgI xs L (1 + (20 * f)))).1) (va_up FBo f B_8) (by omega) (by omega) (by omega) (hFG.up hB_8) (up_eq hBE) (by omega) g_9 _ h114_9 h115_9 h116_9 hfact_o_9 hP hS _ (lv_sub hl [0, 2, 3, 4, 5, 6, 7] rfl)
        · skip
          have c_105 := (not_congr (nI_eq (by omega) (by omega))).mp c_105
          exact absurd rfl c_105
  exact L64 ((4 - 0) + 1) 0 117 14596 (fun _ => 0) (fun _ => 0) (fun _ => 0) (fun _ => 0) (fun _ => 0) (fun _ _ => 0) (by omega) (by omega) (by omega) (fun f h => absurd h (Nat.not_lt_zero _)) (fun j h => absurd h (Nat.not_lt_zero _)) (Nat.lt_succ_self _) g_3 _ h114_3 h115_3 h116_3 hfact_o_3 hP hS _ (lv_sub hl [0, 1, 2, 3, 4, 5, 6] rfl)
set_option maxHeartbeats 4000000 in
set_option maxRecDepth 100000 in
theorem lys {p : Program} {l : Launch} {e : Env} {s : State} {m : MethodId} {below : List Frame} {meth : Method} {c : Code} {D : va_G} {cy : Nat → ClassId} {b0 b L : Nat} {xs : Nat → Int32} {sq sv : Nat} (S : CallFix p m c cL_law 21 s #[.ref b] wsL_law RL) (hr : meth.sig.returnType = ret) (hlk : meth.locks = false) (hK : va_K D vwCl (tyv cy) s) (hN : NX s) (hX : va_X b L xs s s.heap) (hbl : b < s.heap.size) (hb0 : s.heap.size = b0) (hL : L < 1000) (hXF : XF (AB b0) sq sv s s.heap) (g : Nat → va_E) (H : Heap) (ls : Array Slot) (hH0 : H.size = b0) (hP : MM D (bd b0) (0) g H) (hS : va_S (AB b0) s.heap H []) (hl : lv_has ls 21 [(0, .ref b)]) : W p l e room_1 s m #[.ref b] below meth c H [] (0) (0) (lw_Z below #[.ref b] s) (F0 m 0 ls []) := by
  have hx := S.1
  have hb := S.2.1
  have hI : MD (AB b0) (bd b0) (0) := bd_MD
  have hRC : 0 ≤ room_1.cells ∧ 0 ≤ room_1.slots := ⟨(Nat.le_trans (show _ ≤ 100000 by omega) (Nat.le_of_ble_eq_true rfl)), (Nat.le_trans (show _ ≤ 100000 by omega) (Nat.le_of_ble_eq_true rfl))⟩
  have hbA : ¬ AB b0 b := fun q => by unfold AB at q; omega
  have hz : H.size = b0 + 0 := hH0
  refine gnew (ci := 9) (NF := 16) (C := RX9) (T := TX9) (ty := tyX9) (fs := [.null, .null, .null, .null, .int (nI 0), .null, .null, .null, .null, .int (nI 0), .int (nI 0), .int (nI 0), .null, .int (nI 0), .null, .null]) S hK hP hI hS (fun q h => by show b0 ≤ q; omega) hz.symm rfl inlX9 tyX9_ok m_L_10 mj_RX9 mn_RX9 (fun j hj => by rcases (show j = 0 ∨ j = 1 ∨ j = 2 ∨ j = 3 ∨ j = 4 ∨ j = 5 ∨ j = 6 ∨ j = 7 ∨ j = 8 ∨ j = 9 ∨ j = 10 ∨ j = 11 ∨ j = 12 ∨ j = 13 ∨ j = 14 ∨ j = 15 by omega) with rfl | rfl | rfl | rfl | rfl | rfl | rfl | rfl | rfl | rfl | rfl | rfl | rfl | rfl | rfl | rfl <;> rfl) (Nat.le_trans (show _ ≤ 100000 by omega) (Nat.le_of_ble_eq_true rfl)) (Nat.le_trans (show _ ≤ 100000 by omega) (Nat.le_of_ble_eq_true rfl)) dL_law_0 (fun g_1 H eg_1 hP _ hS _ => ?_)
  have hP : MM D (bd b0) (1) g_1 H := hP
  have hI : MD (AB b0) (bd b0) (1) := bd_MD
  have hRC : 1 ≤ room_1.cells ∧ 16 ≤ room_1.slots := ⟨(Nat.le_trans (show _ ≤ 100000 by omega) (Nat.le_of_ble_eq_true rfl)), (Nat.le_trans (show _ ≤ 100000 by omega) (Nat.le_of_ble_eq_true rfl))⟩
  have ho_1 : g_1 0 = .inr (9, [.null, .null, .null, .null, .int (nI 0), .null, .null, .null, .null, .int (nI 0), .int (nI 0), .int (nI 0), .null, .int (nI 0), .null, .null]) := by rw [eg_1, va_up_self]
  refine lv_dup hx hb dL_law_3 rfl ?_
  refine W_hz (N0 := 0) hb0 hP (by omega) (by omega) (fun hz => ?_)
  refine kGIs (k := 0) (As := []) (rest := [.ref ((bd b0) 0)]) S hK hN hz hP hS (c_X9_init l D cy (b0 + 0) (fun i => g_1 (0 + i)) ho_1) (by decide) ci_L_36 ⟨rfl, rfl⟩ rfl hl.1 rfl (Nat.le_of_ble_eq_true rfl) ⟨(Nat.le_trans (show _ ≤ 100000 by omega) (Nat.le_of_ble_eq_true rfl)), (Nat.le_trans (show _ ≤ 100000 by omega) (Nat.le_of_ble_eq_true rfl))⟩ dL_law_4 (fun u_2 g_2 H locs q_2 i_2 f_2 _ hP hS => ?_)
  obtain ⟨hq9, hS⟩ := SB_fresh hb0 hS
  refine W.fresh hq9 ?_
  have hP : MM D (bd b0) (114) g_2 H := hP
  have hI : MD (AB b0) (bd b0) (114) := bd_MD
  have hRC : 114 ≤ room_1.cells ∧ 14527 ≤ room_1.slots := ⟨(Nat.le_trans (show _ ≤ 100000 by omega) (Nat.le_of_ble_eq_true rfl)), (Nat.le_trans (show _ ≤ 100000 by omega) (Nat.le_of_ble_eq_true rfl))⟩
  have hfact_o_2 : OB9 cy (b0 + 0) (fun i => g_2 (0 + i)) (bgW 5) 0 (nI 0) 0 0 ((fun _ => 0)) ((fun _ => 0)) ((fun _ _ => 0)) ((fun _ => 0)) ((fun _ _ => 0)) := (ob_new q_2).fr i_2
  refine lv_astore_n (lv' := [(1, .ref ((bd b0) 0)), (0, .ref b)]) hx hb dL_law_7 rfl hl (by decide) rfl (fun ls hl => ?_)
  refine lv_iconst (v := nI (4)) hx hb dL_law_8 (by decide) ?_
  refine lv_aload_n hx hb dL_law_9 rfl (lv_at hl 1 rfl) ?_
  refine lv_iconst (v := nI (0)) hx hb dL_law_10 (by decide) ?_
  refine kPi (A := AB b0) (As := [.ref b, .int (nI (0))]) (rest := [.int (nI (4))]) S hK hP hX hbl hbA AA_AB hS (c_L_cell l D cy (bd b0) (114) g_2 b L xs 0 (by omega) hL) cs_L_23 ⟨rfl, rfl⟩ rfl hl.1 rfl (Nat.le_of_ble_eq_true rfl) hRC dL_law_11 (fun r_11 q_11 => ?_)
  subst q_11
  refine lv_iconst (v := nI (5)) hx hb dL_law_14 (by decide) ?_
  refine kSi (As := [.int (cev xs L 0), .int (nI (5))]) (rest := [.int (nI (4))]) S hK hP (c_L_part l D cy (bd b0) (114) g_2 (cev xs L 0) 5 ⟨by omega, by omega⟩) cs_L_29 ⟨rfl, rfl⟩ rfl hl.1 rfl (Nat.le_of_ble_eq_true rfl) hRC dL_law_15 (fun r_15 q_15 => ?_)
  subst q_15
  have hp0 := ptv_lt (cev xs L 0) (n := 5) (by decide)
  refine lv_iadd hx hb dL_law_18 ?_
  refine tpi (nI_add 4 (ptv (cev xs L 0) 5)) ?_
  refine lv_istore_n (lv' := [(2, .int (nI (4 + (ptv (cev xs L 0) 5)))), (1, .ref ((bd b0) 0)), (0, .ref b)]) hx hb dL_law_19 rfl hl (by decide) rfl (fun ls hl => ?_)
  refine lv_aload_n hx hb dL_law_20 rfl (lv_at hl 1 rfl) ?_
  refine lv_iload_n hx hb dL_law_21 rfl (lv_at hl 0 rfl) ?_
  obtain ⟨fs_3, ho_3⟩ := hfact_o_2.ob
  refine kOi (M := 114) (k := 0) (As := [.int (nI (4 + (ptv (cev xs L 0) 5)))]) (rest := []) S hK hP hS AA_AB (by omega) (by decide) (ob_ring l D hfact_o_2 (n := 4 + ptv (cev xs L 0) 5) (by omega) (by omega)) cv_L_37 ho_3 ⟨_, _, rfl⟩ ⟨rfl, rfl⟩ rfl hl.1 rfl (Nat.le_of_ble_eq_true rfl) hRC dL_law_22 (fun r_3 u_3 g_3 H locs q_3 i_3 f_3 hP hS => ?_)
  obtain ⟨hq9, hS⟩ := SB_fresh hb0 hS
  refine W.fresh hq9 ?_
  obtain ⟨q_3, o_3⟩ := q_3
  subst q_3
  have hfact_o_3 : OB9 cy (b0 + 0) (fun i => g_3 (0 + i)) (bgW (4 + ptv (cev xs L 0) 5)) 0 (nI 0) 0 0 ((fun _ => 0)) ((fun _ => 0)) ((fun _ _ => 0)) ((fun _ => 0)) ((fun _ _ => 0)) := o_3.fr i_3
  refine lv_iconst (v := nI (1)) hx hb dL_law_25 (by decide) ?_
  refine lv_icmp_ne (tgt := 44) hx hb dL_law_26 (by decide) (fun c_26 => ?_) (fun c_26 => ?_)
  · skip
    have c_26 := (not_congr (nI_eq (by omega) (by omega))).mp c_26
    exact absurd c_26 (by decide)
  · skip
    have c_26 := (nI_eq (by omega) (by omega)).mp c_26
    refine lv_aload_n hx hb dL_law_29 rfl (lv_at hl 1 rfl) ?_
    obtain ⟨fs_4, ho_4⟩ := hfact_o_3.ob
    refine kOi (M := 114) (k := 0) (As := []) (rest := []) S hK hP hS AA_AB (by omega) (by decide) (ob_village l D hfact_o_3 (by decide)) cv_L_40 ho_4 ⟨_, _, rfl⟩ ⟨rfl, rfl⟩ rfl hl.1 rfl (Nat.le_of_ble_eq_true rfl) hRC dL_law_30 (fun r_4 u_4 g_4 H locs q_4 i_4 f_4 hP hS => ?_)
    obtain ⟨hq9, hS⟩ := SB_fresh hb0 hS
    refine W.fresh hq9 ?_
    obtain ⟨q_4, o_4⟩ := q_4
    subst q_4
    have hfact_o_4 : OB9 cy (b0 + 0) (fun i => g_4 (0 + i)) (bgW (4 + ptv (cev xs L 0) 5)) 0 (nI 0) 1 0 ((fun _ => 0)) ((fun _ => 0)) ((fun _ _ => 0)) ((fun _ => 0)) ((fun _ _ => 0)) := o_4.fr i_4
    refine lv_if_ne (tgt := 44) hx hb dL_law_33 (by decide) (fun c_33 => ?_) (fun c_33 => ?_)
    · skip
      have c_33 := (not_congr (z_eq (by omega))).mp c_33
      exact absurd c_33 (by decide)
    · skip
      have c_33 := (z_eq (by omega)).mp c_33
      refine lv_aload_n hx hb dL_law_36 rfl (lv_at hl 1 rfl) ?_
      obtain ⟨fs_5, ho_5⟩ := hfact_o_4.ob
      refine kOi (M := 114) (k := 0) (As := []) (rest := []) S hK hP hS AA_AB (by omega) (by decide) (ob_village l D hfact_o_4 (by decide)) cv_L_40 ho_5 ⟨_, _, rfl⟩ ⟨rfl, rfl⟩ rfl hl.1 rfl (Nat.le_of_ble_eq_true rfl) hRC dL_law_37 (fun r_5 u_5 g_5 H locs q_5 i_5 f_5 hP hS => ?_)
      obtain ⟨hq9, hS⟩ := SB_fresh hb0 hS
      refine W.fresh hq9 ?_
      obtain ⟨q_5, o_5⟩ := q_5
      subst q_5
      have hfact_o_5 : OB9 cy (b0 + 0) (fun i => g_5 (0 + i)) (bgW (4 + ptv (cev xs L 0) 5)) 0 (nI 0) 2 0 ((fun _ => 0)) ((fun _ => 0)) ((fun _ _ => 0)) ((fun _ => 0)) ((fun _ _ => 0)) := o_5.fr i_5
      refine lv_iconst (v := nI (1)) hx hb dL_law_40 (by decide) ?_
      refine lv_icmp_eq (tgt := 46) hx hb dL_law_41 (by decide) (fun c_41 => ?_) (fun c_41 => ?_)
      · skip
        have c_41 := (nI_eq (by omega) (by omega)).mp c_41
        exact ly0 S hr hlk hK hN hX hbl hb0 hL hXF (n := 4 + ptv (cev xs L 0) 5) ⟨by omega, by omega⟩ g_5 H _ hfact_o_5 hP hS (lv_sub hl [2, 1, 0] rfl)
      · skip
        have c_41 := (not_congr (nI_eq (by omega) (by omega))).mp c_41
        exact absurd c_41 (by decide)

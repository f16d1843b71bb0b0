set_option maxHeartbeats 4000000 in
set_option maxRecDepth 100000 in
theorem lz3 {p : Program} {l : Launch} {e : Env} {s : State} {m : MethodId} {below : List Frame} {meth : Method} {c : Code} {D : va_G} {cy : Nat → ClassId} {b0 b L : Nat} {xs : Nat → Int32} {sq sv : Nat} (S : CallFix p m c cL_law 21 s #[.ref b] wsL_law RL) (hr : meth.sig.returnType = ret) (hlk : meth.locks = false) (hK : va_K D vwCl (tyv cy) s) (hN : NX s) (hX : va_X b L xs s s.heap) (hbl : b < s.heap.size) (hb0 : s.heap.size = b0) (hL : L < 1000) (hXF : XF (AB b0) sq sv s s.heap) {n : Nat} {a : Nat} {O : Nat → Nat} {BE : Nat → Nat} {T2 : Nat → Nat} {BB : Nat → Nat} {Tto : Nat → Nat} {Flo : Nat → Nat} {FBo : Nat → Nat → Nat} {Vlo : Nat → Nat} {VVo : Nat → Nat → Nat} (hn : 4 ≤ n ∧ n ≤ 8) (ha : a ≤ 7) (hO4 : ∀ j, O j < 4) (hBE : ∀ j, j < 4 → BE j = Flo j) (hFG : FGS xs L n 4 Flo FBo) (hVO : VVo 0 = O) (hVa : Vlo 0 = a) (g : Nat → va_E) (H : Heap) (ls : Array Slot) (hm114 : g 114 = .inl (cy 1, 64, .inl (fun x9 => nI (T2 x9)))) (hm115 : g 115 = .inl (cy 1, 1, .inl (fun x9 => nI (BB x9)))) (hm116 : g 116 = .inl (cy 1, 4, .inl (fun x9 => nI (BE x9)))) (hm125 : g 125 = .inl (cy 1, 8, .inl (fun x9 => nI (O x9)))) (hfo : OB9 cy (b0 + 0) (fun i => g (0 + i)) (bgW n) 4 (nI 0) 2 0 Tto Flo FBo Vlo VVo) (hP : MM D (bd b0) (127) g H) (hS : va_S (AB b0) s.heap H []) (hl : lv_has ls 21 [(0, .ref b), (1, .ref ((bd b0) 0)), (2, .int (nI (n))), (3, .ref ((bd b0) 114)), (4, .ref ((bd b0) 115)), (5, .ref ((bd b0) 116)), (6, .ref ((bd b0) 125)), (8, .int (nI (a)))]) : W p l e room_1 s m #[.ref b] below meth c H [] (127) (15124) (lw_Z below #[.ref b] s) (F0 m 676 ls []) := by
  have hx := S.1
  have hb := S.2.1
  have hI : MD (AB b0) (bd b0) (127) := bd_MD
  have hRC : 127 ≤ room_1.cells ∧ 15124 ≤ room_1.slots := ⟨(Nat.le_trans (show _ ≤ 100000 by omega) (Nat.le_of_ble_eq_true rfl)), (Nat.le_trans (show _ ≤ 100000 by omega) (Nat.le_of_ble_eq_true rfl))⟩
  have hbA : ¬ AB b0 b := fun q => by unfold AB at q; omega
  refine W_hz (N0 := 0) hb0 hP (by omega) (by omega) (fun hz => ?_)
  refine gnew (ci := 9) (NF := 16) (C := RX9) (T := TX9) (ty := tyX9) (fs := [.null, .null, .null, .null, .int (nI 0), .null, .null, .null, .null, .int (nI 0), .int (nI 0), .int (nI 0), .null, .int (nI 0), .null, .null]) S hK hP hI hS (fun q h => by show b0 ≤ q; omega) hz.symm rfl inlX9 tyX9_ok m_L_10 mj_RX9 mn_RX9 (fun j hj => by rcases (show j = 0 ∨ j = 1 ∨ j = 2 ∨ j = 3 ∨ j = 4 ∨ j = 5 ∨ j = 6 ∨ j = 7 ∨ j = 8 ∨ j = 9 ∨ j = 10 ∨ j = 11 ∨ j = 12 ∨ j = 13 ∨ j = 14 ∨ j = 15 by omega) with rfl | rfl | rfl | rfl | rfl | rfl | rfl | rfl | rfl | rfl | rfl | rfl | rfl | rfl | rfl | rfl <;> rfl) (Nat.le_trans (show _ ≤ 100000 by omega) (Nat.le_of_ble_eq_true rfl)) (Nat.le_trans (show _ ≤ 100000 by omega) (Nat.le_of_ble_eq_true rfl)) dL_law_676 (fun g_1 H eg_1 hP _ hS _ => ?_)
  have hP : MM D (bd b0) (128) g_1 H := hP
  have hI : MD (AB b0) (bd b0) (128) := bd_MD
  have hRC : 128 ≤ room_1.cells ∧ 15140 ≤ room_1.slots := ⟨(Nat.le_trans (show _ ≤ 100000 by omega) (Nat.le_of_ble_eq_true rfl)), (Nat.le_trans (show _ ≤ 100000 by omega) (Nat.le_of_ble_eq_true rfl))⟩
  have ho_1 : g_1 127 = .inr (9, [.null, .null, .null, .null, .int (nI 0), .null, .null, .null, .null, .int (nI 0), .int (nI 0), .int (nI 0), .null, .int (nI 0), .null, .null]) := by rw [eg_1, va_up_self]
  have h114_1 : g_1 114 = .inl (cy 1, 64, .inl (fun x9 => nI (T2 x9))) := ((congrFun eg_1 _).trans (va_up_ne _ _ (by omega))).trans hm114
  have h115_1 : g_1 115 = .inl (cy 1, 1, .inl (fun x9 => nI (BB x9))) := ((congrFun eg_1 _).trans (va_up_ne _ _ (by omega))).trans hm115
  have h116_1 : g_1 116 = .inl (cy 1, 4, .inl (fun x9 => nI (BE x9))) := ((congrFun eg_1 _).trans (va_up_ne _ _ (by omega))).trans hm116
  have h125_1 : g_1 125 = .inl (cy 1, 8, .inl (fun x9 => nI (O x9))) := ((congrFun eg_1 _).trans (va_up_ne _ _ (by omega))).trans hm125
  have hfact_o_1 : OB9 cy (b0 + 0) (fun i => g_1 (0 + i)) (bgW n) 4 (nI 0) 2 0 Tto Flo FBo Vlo VVo := (hfo.fr (fun j hj => ((congrFun eg_1 _).trans (va_up_ne _ _ (by omega)))))
  refine lv_dup hx hb dL_law_679 rfl ?_
  refine W_hz (N0 := 0) hb0 hP (by omega) (by omega) (fun hz => ?_)
  refine kGIs (k := 127) (As := []) (rest := [.ref ((bd b0) 127)]) S hK hN hz hP hS (c_X9_init l D cy (b0 + 127) (fun i => g_1 (127 + i)) ho_1) (by decide) ci_L_36 ⟨rfl, rfl⟩ rfl hl.1 rfl (Nat.le_of_ble_eq_true rfl) ⟨(Nat.le_trans (show _ ≤ 100000 by omega) (Nat.le_of_ble_eq_true rfl)), (Nat.le_trans (show _ ≤ 100000 by omega) (Nat.le_of_ble_eq_true rfl))⟩ dL_law_680 (fun u_2 g_2 H locs q_2 i_2 f_2 _ hP hS => ?_)
  obtain ⟨hq9, hS⟩ := SB_fresh hb0 hS
  refine W.fresh hq9 ?_
  have hP : MM D (bd b0) (241) g_2 H := hP
  have hI : MD (AB b0) (bd b0) (241) := bd_MD
  have hRC : 241 ≤ room_1.cells ∧ 29651 ≤ room_1.slots := ⟨(Nat.le_trans (show _ ≤ 100000 by omega) (Nat.le_of_ble_eq_true rfl)), (Nat.le_trans (show _ ≤ 100000 by omega) (Nat.le_of_ble_eq_true rfl))⟩
  have hfact_q_2 : OB9 cy (b0 + 127) (fun i => g_2 (127 + i)) (bgW 5) 0 (nI 0) 0 0 ((fun _ => 0)) ((fun _ => 0)) ((fun _ _ => 0)) ((fun _ => 0)) ((fun _ _ => 0)) := (ob_new q_2).fr i_2
  have h114_2 : g_2 114 = .inl (cy 1, 64, .inl (fun x9 => nI (T2 x9))) := (f_2 114 (by omega)).trans h114_1
  have h115_2 : g_2 115 = .inl (cy 1, 1, .inl (fun x9 => nI (BB x9))) := (f_2 115 (by omega)).trans h115_1
  have h116_2 : g_2 116 = .inl (cy 1, 4, .inl (fun x9 => nI (BE x9))) := (f_2 116 (by omega)).trans h116_1
  have h125_2 : g_2 125 = .inl (cy 1, 8, .inl (fun x9 => nI (O x9))) := (f_2 125 (by omega)).trans h125_1
  have hfact_o_2 : OB9 cy (b0 + 0) (fun i => g_2 (0 + i)) (bgW n) 4 (nI 0) 2 0 Tto Flo FBo Vlo VVo := (hfact_o_1.fr (fun j hj => (f_2 (0 + j) (by omega))))
  refine lv_astore (lv' := [(14, .ref ((bd b0) 127)), (0, .ref b), (1, .ref ((bd b0) 0)), (2, .int (nI (n))), (3, .ref ((bd b0) 114)), (4, .ref ((bd b0) 115)), (5, .ref ((bd b0) 116)), (6, .ref ((bd b0) 125)), (8, .int (nI (a)))]) hx hb dL_law_683 hl (by decide) rfl (fun ls hl => ?_)
  refine lv_aload hx hb dL_law_685 (lv_at hl 0 rfl) ?_
  refine lv_iload_n hx hb dL_law_687 rfl (lv_at hl 3 rfl) ?_
  obtain ⟨fs_3, ho_3⟩ := hfact_q_2.ob
  refine kOi (M := 114) (k := 127) (As := [.int (nI (n))]) (rest := []) S hK hP hS AA_AB (by omega) (by decide) (ob_ring l D hfact_q_2 hn.1 hn.2) cv_L_37 ho_3 ⟨_, _, rfl⟩ ⟨rfl, rfl⟩ rfl hl.1 rfl (Nat.le_of_ble_eq_true rfl) hRC dL_law_688 (fun r_3 u_3 g_3 H locs q_3 i_3 f_3 hP hS => ?_)
  obtain ⟨hq9, hS⟩ := SB_fresh hb0 hS
  refine W.fresh hq9 ?_
  obtain ⟨q_3, o_3⟩ := q_3
  subst q_3
  have hfact_q_3 : OB9 cy (b0 + 127) (fun i => g_3 (127 + i)) (bgW n) 0 (nI 0) 0 0 ((fun _ => 0)) ((fun _ => 0)) ((fun _ _ => 0)) ((fun _ => 0)) ((fun _ _ => 0)) := o_3.fr i_3
  have h114_3 : g_3 114 = .inl (cy 1, 64, .inl (fun x9 => nI (T2 x9))) := (f_3 114 (by omega)).trans h114_2
  have h115_3 : g_3 115 = .inl (cy 1, 1, .inl (fun x9 => nI (BB x9))) := (f_3 115 (by omega)).trans h115_2
  have h116_3 : g_3 116 = .inl (cy 1, 4, .inl (fun x9 => nI (BE x9))) := (f_3 116 (by omega)).trans h116_2
  have h125_3 : g_3 125 = .inl (cy 1, 8, .inl (fun x9 => nI (O x9))) := (f_3 125 (by omega)).trans h125_2
  have hfact_o_3 : OB9 cy (b0 + 0) (fun i => g_3 (0 + i)) (bgW n) 4 (nI 0) 2 0 Tto Flo FBo Vlo VVo := (hfact_o_2.fr (fun j hj => (f_3 (0 + j) (by omega))))
  refine lv_iconst (v := nI (1)) hx hb dL_law_691 (by decide) ?_
  refine lv_icmp_eq (tgt := 697) hx hb dL_law_692 (by decide) (fun c_692 => ?_) (fun c_692 => ?_)
  · skip
    have c_692 := (nI_eq (by omega) (by omega)).mp c_692
    refine lv_iconst (v := (-1)) hx hb dL_law_697 (by decide) ?_
    refine tpi (y := dI 0) ((by decide)) ?_
    refine lv_istore (lv' := [(15, .int (dI 0)), (14, .ref ((bd b0) 127)), (0, .ref b), (1, .ref ((bd b0) 0)), (2, .int (nI (n))), (3, .ref ((bd b0) 114)), (4, .ref ((bd b0) 115)), (5, .ref ((bd b0) 116)), (6, .ref ((bd b0) 125)), (8, .int (nI (a)))]) hx hb dL_law_698 hl (by decide) rfl (fun ls hl => ?_)
    refine lv_iconst (v := nI (0)) hx hb dL_law_700 (by decide) ?_
    refine lv_istore (lv' := [(16, .int (nI (0))), (15, .int (dI 0)), (14, .ref ((bd b0) 127)), (0, .ref b), (1, .ref ((bd b0) 0)), (2, .int (nI (n))), (3, .ref ((bd b0) 114)), (4, .ref ((bd b0) 115)), (5, .ref ((bd b0) 116)), (6, .ref ((bd b0) 125)), (8, .int (nI (a)))]) hx hb dL_law_701 hl (by decide) rfl (fun ls hl => ?_)
    have L703 : ∀ (fu : Nat) (f Nv Sv : Nat) (T2 BB Ttq Flq : Nat → Nat) (FBq : Nat → Nat → Nat), (f ≤ 4) → (Nv = 241 + 2 * f) → (Sv = 29651 + 128 * f) → (FGS xs L n f Flq FBq) → (4 - f) < fu → ∀ (g_4 : Nat → va_E) (H : Heap), g_4 114 = .inl (cy 1, 64, .inl (fun x9 => nI (T2 x9))) → g_4 115 = .inl (cy 1, 1, .inl (fun x9 => nI (BB x9))) → g_4 116 = .inl (cy 1, 4, .inl (fun x9 => nI (BE x9))) → g_4 125 = .inl (cy 1, 8, .inl (fun x9 => nI (O x9))) → (OB9 cy (b0 + 0) (fun i => g_4 (0 + i)) (bgW n) 4 (nI 0) 2 0 Tto Flo FBo Vlo VVo) → (OB9 cy (b0 + 127) (fun i => g_4 (127 + i)) (bgW n) f (nI 0) 0 0 Ttq Flq FBq ((fun _ => 0)) ((fun _ _ => 0))) → MM D (bd b0) (Nv) g_4 H → va_S (AB b0) s.heap H [] → ∀ (ls : Array Slot), lv_has ls 21 [(16, .int (nI (f))), (15, .int (dI 0)), (14, .ref ((bd b0) 127)), (0, .ref b), (1, .ref ((bd b0) 0)), (2, .int (nI (n))), (3, .ref ((bd b0) 114)), (4, .ref ((bd b0) 115)), (5, .ref ((bd b0) 116)), (6, .ref ((bd b0) 125)), (8, .int (nI (a)))] → W p l e room_1 s m #[.ref b] below meth c H [] (Nv) (Sv) (lw_Z below #[.ref b] s) (F0 m 703 ls []) := by
      intro fu
      induction fu with
      | zero => intro f Nv Sv T2 BB Ttq Flq FBq hf9 hNv hSv hFq hms g_4 H h114_4 h115_4 h116_4 h125_4 hfact_o_4 hfact_q_4 hP hS ls hl; exact absurd hms (Nat.not_lt_zero _)
      | succ fu ih703 =>
        intro f Nv Sv T2 BB Ttq Flq FBq hf9 hNv hSv hFq hms g_4 H h114_4 h115_4 h116_4 h125_4 hfact_o_4 hfact_q_4 hP hS ls hl
        have hI : MD (AB b0) (bd b0) (Nv) := bd_MD
        have hRC : Nv ≤ room_1.cells ∧ Sv ≤ room_1.slots := ⟨(Nat.le_trans (show _ ≤ 100000 by omega) (Nat.le_of_ble_eq_true rfl)), (Nat.le_trans (show _ ≤ 100000 by omega) (Nat.le_of_ble_eq_true rfl))⟩
        refine lv_iload hx hb dL_law_703 (lv_at hl 0 rfl) ?_
        refine lv_iconst (v := nI (4)) hx hb dL_law_705 (by decide) ?_
        refine lv_icmp_ge (tgt := 756) hx hb dL_law_706 (by decide) (fun c_706 => ?_) (fun c_706 => ?_)
        · skip
          have c_706 := (nI_leI (by omega) (by omega)).mp c_706
          obtain rfl : f = 4 := by omega
          obtain rfl : Nv = 249 := by omega
          obtain rfl : Sv = 30163 := by omega
          exact lz4 S hr hlk hK hN hX hbl hb0 hL hXF hn (by omega) hO4 hBE hFG hFq hVO hVa g_4 H _ h116_4 h125_4 hfact_o_4 hfact_q_4 hP hS (lv_sub hl [4, 5, 8, 9, 10, 2, 1] rfl)
        · skip
          have c_706 := (not_congr (nI_leI (by omega) (by omega))).mp c_706
          refine lv_aload_n hx hb dL_law_709 rfl (lv_at hl 3 rfl) ?_
          refine lv_iconst (v := nI (1)) hx hb dL_law_710 (by decide) ?_
          refine lv_bipush (v := nI (20)) hx hb dL_law_711 (by decide) ?_
          refine lv_iload hx hb dL_law_713 (lv_at hl 0 rfl) ?_
          refine lv_imul hx hb dL_law_715 ?_
          refine tpi (pk_mul 20 f) ?_
          refine lv_iadd hx hb dL_law_716 ?_
          refine tpi (nI_add 1 (20 * f)) ?_
          refine lv_iload_n hx hb dL_law_717 rfl (lv_at hl 5 rfl) ?_
          refine lv_aload_n hx hb dL_law_718 rfl (lv_at hl 6 rfl) ?_
          refine lv_bipush (v := nI (64)) hx hb dL_law_719 (by decide) ?_
          refine W_hz (N0 := 0) hb0 hP (by omega) (by omega) (fun hz => ?_)
          refine gnewa (atype := .int) (t := 1) (n0 := 64) (a0 := (64, .inl (fun x9 => nI ((fun _ => 0) x9)))) S hK hP hI hS (fun q h => by show b0 ≤ q; omega) hz.symm ma_int rfl (za_int 64) (by decide) (by decide) (Nat.le_of_ble_eq_true rfl) (Nat.le_trans (show _ ≤ 100000 by omega) (Nat.le_of_ble_eq_true rfl)) (Nat.le_trans (show _ ≤ 100000 by omega) (Nat.le_of_ble_eq_true rfl)) dL_law_721 (fun g_5 H eg_5 hP _ hS _ => ?_)
          have hI : MD (AB b0) (bd b0) (Nv + 1) := bd_MD
          have hRC : Nv + 1 ≤ room_1.cells ∧ Sv + 64 ≤ room_1.slots := ⟨(Nat.le_trans (show _ ≤ 100000 by omega) (Nat.le_of_ble_eq_true rfl)), (Nat.le_trans (show _ ≤ 100000 by omega) (Nat.le_of_ble_eq_true rfl))⟩
          have hNv_5 : g_5 Nv = .inl (cy 1, 64, .inl (fun x9 => nI (((fun _ => 0)) x9))) := by rw [eg_5, va_up_self]
          have h114_5 : g_5 114 = .inl (cy 1, 64, .inl (fun x9 => nI (T2 x9))) := ((congrFun eg_5 _).trans (va_up_ne _ _ (by omega))).trans h114_4
          have h115_5 : g_5 115 = .inl (cy 1, 1, .inl (fun x9 => nI (BB x9))) := ((congrFun eg_5 _).trans (va_up_ne _ _ (by omega))).trans h115_4
          have h116_5 : g_5 116 = .inl (cy 1, 4, .inl (fun x9 => nI (BE x9))) := ((congrFun eg_5 _).trans (va_up_ne _ _ (by omega))).trans h116_4
          have h125_5 : g_5 125 = .inl (cy 1, 8, .inl (fun x9 => nI (O x9))) := ((congrFun eg_5 _).trans (va_up_ne _ _ (by omega))).trans h125_4
          have hfact_o_5 : OB9 cy (b0 + 0) (fun i => g_5 (0 + i)) (bgW n) 4 (nI 0) 2 0 Tto Flo FBo Vlo VVo := (hfact_o_4.fr (fun j hj => ((congrFun eg_5 _).trans (va_up_ne _ _ (by omega)))))
          have hfact_q_5 : OB9 cy (b0 + 127) (fun i => g_5 (127 + i)) (bgW n) f (nI 0) 0 0 Ttq Flq FBq ((fun _ => 0)) ((fun _ _ => 0)) := (hfact_q_4.fr (fun j hj => ((congrFun eg_5 _).trans (va_up_ne _ _ (by omega)))))
          refine lv_bipush (v := nI (64)) hx hb dL_law_723 (by decide) ?_
          refine W_hz (N0 := 0) hb0 hP (by omega) (by omega) (fun hz => ?_)
          refine gnewa (atype := .int) (t := 1) (n0 := 64) (a0 := (64, .inl (fun x9 => nI ((fun _ => 0) x9)))) S hK hP hI hS (fun q h => by show b0 ≤ q; omega) hz.symm ma_int rfl (za_int 64) (by decide) (by decide) (Nat.le_of_ble_eq_true rfl) (Nat.le_trans (show _ ≤ 100000 by omega) (Nat.le_of_ble_eq_true rfl)) (Nat.le_trans (show _ ≤ 100000 by omega) (Nat.le_of_ble_eq_true rfl)) dL_law_725 (fun g_6 H eg_6 hP _ hS _ => ?_)
          have hI : MD (AB b0) (bd b0) (Nv + 2) := bd_MD
          have hRC : Nv + 2 ≤ room_1.cells ∧ Sv + 128 ≤ room_1.slots := ⟨(Nat.le_trans (show _ ≤ 100000 by omega) (Nat.le_of_ble_eq_true rfl)), (Nat.le_trans (show _ ≤ 100000 by omega) (Nat.le_of_ble_eq_true rfl))⟩
          have hNv___1_6 : g_6 (Nv + 1) = .inl (cy 1, 64, .inl (fun x9 => nI (((fun _ => 0)) x9))) := by rw [eg_6, va_up_self]
          have h114_6 : g_6 114 = .inl (cy 1, 64, .inl (fun x9 => nI (T2 x9))) := ((congrFun eg_6 _).trans (va_up_ne _ _ (by omega))).trans h114_5
          have h115_6 : g_6 115 = .inl (cy 1, 1, .inl (fun x9 => nI (BB x9))) := ((congrFun eg_6 _).trans (va_up_ne _ _ (by omega))).trans h115_5
          have h116_6 : g_6 116 = .inl (cy 1, 4, .inl (fun x9 => nI (BE x9))) := ((congrFun eg_6 _).trans (va_up_ne _ _ (by omega))).trans h116_5
          have h125_6 : g_6 125 = .inl (cy 1, 8, .inl (fun x9 => nI (O x9))) := ((congrFun eg_6 _).trans (va_up_ne _ _ (by omega))).trans h125_5
          have hNv_6 : g_6 Nv = .inl (cy 1, 64, .inl (fun x9 => nI (((fun _ => 0)) x9))) := ((congrFun eg_6 _).trans (va_up_ne _ _ (by omega))).trans hNv_5
          have hfact_o_6 : OB9 cy (b0 + 0) (fun i => g_6 (0 + i)) (bgW n) 4 (nI 0) 2 0 Tto Flo FBo Vlo VVo := (hfact_o_5.fr (fun j hj => ((congrFun eg_6 _).trans (va_up_ne _ _ (by omega)))))
          have hfact_q_6 : OB9 cy (b0 + 127) (fun i => g_6 (127 + i)) (bgW n) f (nI 0) 0 0 Ttq Flq FBq ((fun _ => 0)) ((fun _ _ => 0)) := (hfact_q_5.fr (fun j hj => ((congrFun eg_6 _).trans (va_up_ne _ _ (by omega)))))
          refine lv_aload hx hb dL_law_727 (lv_at hl 7 rfl) ?_
          refine lv_iconst (v := nI (0)) hx hb dL_law_729 (by decide) ?_
          refine kPMi (A := AB b0) (As := [.ref b, .int (nI (1 + (20 * f))), .int (nI (n)), .ref ((bd b0) 114), .ref ((bd b0) Nv), .ref ((bd b0) (Nv + 1)), .ref ((bd b0) 115), .int (nI (0))]) (rest := []) S hK hP hX hbl hbA AA_AB hS (c_L_figure l D cy (bd b0) (Nv + 2) g_6 bd_inj b L xs (1 + (20 * f)) (by omega) n hn hL 114 (Nv) (Nv + 1) 115 (by omega) (by omega) T2 h114_6 hNv_6 hNv___1_6 BB h115_6) cs_L_43 ⟨rfl, rfl⟩ rfl hl.1 rfl (Nat.le_of_ble_eq_true rfl) hRC dL_law_730 (fun r_7 g_7 H locs q_7 hP hS => ?_)
          obtain ⟨hq9, hS⟩ := SB_fresh hb0 hS
          refine W.fresh hq9 ?_
          obtain ⟨T_7, l_7, q_7, hl_7, hT_7, hX_7, m1_7, m2_7, f_7⟩ := q_7
          subst q_7
          have h116_7 : g_7 116 = .inl (cy 1, 4, .inl (fun x9 => nI (BE x9))) := (f_7 116 (by omega) (by omega) (by omega) (by omega)).trans h116_6
          have h125_7 : g_7 125 = .inl (cy 1, 8, .inl (fun x9 => nI (O x9))) := (f_7 125 (by omega) (by omega) (by omega) (by omega)).trans h125_6
          have hfact_o_7 : OB9 cy (b0 + 0) (fun i => g_7 (0 + i)) (bgW n) 4 (nI 0) 2 0 Tto Flo FBo Vlo VVo := (hfact_o_6.fr (fun j hj => (f_7 (0 + j) (by omega) (by omega) (by omega) (by omega))))
          have hfact_q_7 : OB9 cy (b0 + 127) (fun i => g_7 (127 + i)) (bgW n) f (nI 0) 0 0 Ttq Flq FBq ((fun _ => 0)) ((fun _ _ => 0)) := (hfact_q_6.fr (fun j hj => (f_7 (127 + j) (by omega) (by omega) (by omega) (by omega))))
          refine lv_istore (lv' := [(17, .int (nI (l_7))), (16, .int (nI (f))), (15, .int (dI 0)), (14, .ref ((bd b0) 127)), (0, .ref b), (1, .ref ((bd b0) 0)), (2, .int (nI (n))), (3, .ref ((bd b0) 114)), (4, .ref ((bd b0) 115)), (5, .ref ((bd b0) 116)), (6, .ref ((bd b0) 125)), (8, .int (nI (a)))]) hx hb dL_law_733 hl (by decide) rfl (fun ls hl => ?_)
          refine lv_aload hx hb dL_law_735 (lv_at hl 3 rfl) ?_
          refine lv_aload_n hx hb dL_law_737 rfl (lv_at hl 7 rfl) ?_
          refine lv_iload hx hb dL_law_738 (lv_at hl 0 rfl) ?_
          refine kSXi (A := AB b0) (As := [.ref ((bd b0) 127), .ref ((bd b0) 114), .int (nI (l_7))]) (rest := []) S hK hP hXF AA_AB hS (c_L_says l D cy b0 (Nv + 2) g_7 sq sv 127 114 l_7 T_7 m1_7 (by omega) (by omega) (bgW n) f (nI 0) 0 Ttq Flq FBq ((fun _ => 0)) ((fun _ _ => 0)) hfact_q_7 (by omega) (by omega) hT_7 (fgR xs L (1 + (20 * f)) n (fgI xs L (1 + (20 * f)))).1 (rw8 (fgR xs L (1 + (20 * f)) n (fgI xs L (1 + (20 * f))))) 0 0 hX_7 (Nat.le_trans fig_le (by decide))) cs_L_46 ⟨rfl, rfl⟩ rfl hl.1 rfl (Nat.le_of_ble_eq_true rfl) hRC dL_law_740 (fun r_8 g_8 H locs q_8 hP hS => ?_)
          obtain ⟨hq9, hS⟩ := SB_fresh hb0 hS
          refine W.fresh hq9 ?_
          obtain ⟨B_8, Tt_8, q_8, hB_8, o_8, f_8⟩ := q_8
          subst q_8
          have h114_8 : g_8 114 = .inl (cy 1, 64, .inl (fun x9 => nI (T_7 x9))) := (f_8 114 (by omega)).trans m1_7
          have h115_8 : g_8 115 = .inl (cy 1, 1, .inl (fun x9 => nI ((va_up BB 0 (fgR xs L (1 + (20 * f)) n (fgI xs L (1 + (20 * f)))).1) x9))) := (f_8 115 (by omega)).trans m2_7
          have h116_8 : g_8 116 = .inl (cy 1, 4, .inl (fun x9 => nI (BE x9))) := (f_8 116 (by omega)).trans h116_7
          have h125_8 : g_8 125 = .inl (cy 1, 8, .inl (fun x9 => nI (O x9))) := (f_8 125 (by omega)).trans h125_7
          have hfact_o_8 : OB9 cy (b0 + 0) (fun i => g_8 (0 + i)) (bgW n) 4 (nI 0) 2 0 Tto Flo FBo Vlo VVo := (hfact_o_7.fr (fun j hj => (f_8 (0 + j) (by omega))))
          refine lv_iload hx hb dL_law_743 (lv_at hl 1 rfl) ?_
          refine lv_icmp_eq (tgt := 750) hx hb dL_law_745 (by decide) (fun c_745 => ?_) (fun c_745 => ?_)
          · skip
            have c_745 := (nI_eq (by omega) (by omega)).mp c_745
            refine lv_iinc (v := nI (f + 1)) (lv' := [(16, .int (nI (f + 1))), (17, .int (nI (l_7))), (15, .int (dI 0)), (14, .ref ((bd b0) 127)), (0, .ref b), (1, .ref ((bd b0) 0)), (2, .int (nI (n))), (3, .ref ((bd b0) 114)), (4, .ref ((bd b0) 115)), (5, .ref ((bd b0) 116)), (6, .ref ((bd b0) 125)), (8, .int (nI (a)))]) hx hb dL_law_750 hl (k := 1) rfl (by exact nI_add f 1) (by decide) rfl (fun ls hl => ?_)
            refine lv_goto (tgt := 703) hx hb dL_law_753 (by decide) ?_
            exact ih703 (f + 1) (Nv + 2) (Sv + 128) T_7 (va_up BB 0 (fgR xs L (1 + (20 * f)) n (fgI xs L (1 + (20 * f)))).1) Tt_8 (va_up Flq f (fgR xs L (1 + (20 * f)) n (fgI xs L (1 + (20 * f)))).1) (va_up FBq f B_8) (by omega) (by omega) (by omega) (hFq.up hB_8) (by omega) g_8 _ h114_8 h115_8 h116_8 h125_8 hfact_o_8 o_8 hP hS _ (lv_sub hl [0, 2, 3, 4, 5, 6, 7, 8, 9, 10, 11] rfl)
          · skip
            have c_745 := (not_congr (nI_eq (by omega) (by omega))).mp c_745
            exact absurd rfl c_745
    exact L703 ((4 - 0) + 1) 0 241 29651 T2 BB (fun _ => 0) (fun _ => 0) (fun _ _ => 0) (by omega) (by omega) (by omega) (fun f h => absurd h (Nat.not_lt_zero _)) (Nat.lt_succ_self _) g_3 _ h114_3 h115_3 h116_3 h125_3 hfact_o_3 hfact_q_3 hP hS _ (lv_sub hl [0, 1, 2, 3, 4, 5, 6, 7, 8, 9, 10] rfl)
  · skip
    have c_692 := (not_congr (nI_eq (by omega) (by omega))).mp c_692
    exact absurd c_692 (by decide)

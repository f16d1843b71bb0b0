set_option maxHeartbeats 4000000 in
set_option maxRecDepth 100000 in
theorem lz2b {p : Program} {l : Launch} {e : Env} {s : State} {m : MethodId} {below : List Frame} {meth : Method} {c : Code} {D : va_G} {cy : Nat → ClassId} {b0 b L : Nat} {xs : Nat → Int32} {sq sv : Nat} (S : CallFix p m c cL_law 21 s #[.ref b] wsL_law RL) (hr : meth.sig.returnType = ret) (hlk : meth.locks = false) (hK : va_K D vwCl (tyv cy) s) (hN : NX s) (hX : va_X b L xs s s.heap) (hbl : b < s.heap.size) (hb0 : s.heap.size = b0) (hL : L < 1000) (hXF : XF (AB b0) sq sv s s.heap) {n : Nat} {a : Nat} {O : Nat → Nat} {BE : Nat → Nat} {T2 : Nat → Nat} {BB : Nat → Nat} {Tto : Nat → Nat} {Flo : Nat → Nat} {FBo : Nat → Nat → Nat} {Vlo : Nat → Nat} {VVo : Nat → Nat → Nat} (hn : 4 ≤ n ∧ n ≤ 8) (ha : a ≤ 7) (hO4 : ∀ j, O j < 4) (hBE : ∀ j, j < 4 → BE j = Flo j) (hFG : FGS xs L n 4 Flo FBo) (hVO : VVo 0 = O) (hVa : Vlo 0 = a) (g : Nat → va_E) (H : Heap) (ls : Array Slot) (hm114 : g 114 = .inl (cy 1, 64, .inl (fun x9 => nI (T2 x9)))) (hm115 : g 115 = .inl (cy 1, 1, .inl (fun x9 => nI (BB x9)))) (hm116 : g 116 = .inl (cy 1, 4, .inl (fun x9 => nI (BE x9)))) (hm125 : g 125 = .inl (cy 1, 8, .inl (fun x9 => nI (O x9)))) (hfo : OB9 cy (b0 + 0) (fun i => g (0 + i)) (bgW n) 4 (nI 0) 2 0 Tto Flo FBo Vlo VVo) (hP : MM D (bd b0) (127) g H) (hS : va_S (AB b0) s.heap H []) (hl : lv_has ls 21 [(0, .ref b), (1, .ref ((bd b0) 0)), (2, .int (nI (n))), (3, .ref ((bd b0) 114)), (4, .ref ((bd b0) 115)), (5, .ref ((bd b0) 116)), (6, .ref ((bd b0) 125)), (8, .int (nI (a)))]) : W p l e room_1 s m #[.ref b] below meth c H [] (127) (15124) (lw_Z below #[.ref b] s) (F0 m 624 ls []) := by
  have hx := S.1
  have hb := S.2.1
  have hI : MD (AB b0) (bd b0) (127) := bd_MD
  have hRC : 127 ≤ room_1.cells ∧ 15124 ≤ room_1.slots := ⟨(Nat.le_of_ble_eq_true rfl), (Nat.le_of_ble_eq_true rfl)⟩
  have hbA : ¬ AB b0 b := fun q => by unfold AB at q; omega
  refine lv_iconst (v := nI (0)) hx hb dL_law_624 (by decide) ?_
  refine lv_istore (lv' := [(14, .int (nI (0))), (0, .ref b), (1, .ref ((bd b0) 0)), (2, .int (nI (n))), (3, .ref ((bd b0) 114)), (4, .ref ((bd b0) 115)), (5, .ref ((bd b0) 116)), (6, .ref ((bd b0) 125)), (8, .int (nI (a)))]) hx hb dL_law_625 hl (by decide) rfl (fun ls hl => ?_)
  have L627 : ∀ (fu : Nat) (k : Nat), (k ≤ a) → (a - k) < fu → ∀ (g_1 : Nat → va_E) (H : Heap), g_1 114 = .inl (cy 1, 64, .inl (fun x9 => nI (T2 x9))) → g_1 115 = .inl (cy 1, 1, .inl (fun x9 => nI (BB x9))) → g_1 116 = .inl (cy 1, 4, .inl (fun x9 => nI (BE x9))) → g_1 125 = .inl (cy 1, 8, .inl (fun x9 => nI (O x9))) → (OB9 cy (b0 + 0) (fun i => g_1 (0 + i)) (bgW n) 4 (nI 0) 2 0 Tto Flo FBo Vlo VVo) → MM D (bd b0) (127) g_1 H → va_S (AB b0) s.heap H [] → ∀ (ls : Array Slot), lv_has ls 21 [(14, .int (nI (k))), (0, .ref b), (1, .ref ((bd b0) 0)), (2, .int (nI (n))), (3, .ref ((bd b0) 114)), (4, .ref ((bd b0) 115)), (5, .ref ((bd b0) 116)), (6, .ref ((bd b0) 125)), (8, .int (nI (a)))] → W p l e room_1 s m #[.ref b] below meth c H [] (127) (15124) (lw_Z below #[.ref b] s) (F0 m 627 ls []) := by
    intro fu
    induction fu with
    | zero => intro k hk hms g_1 H h114_1 h115_1 h116_1 h125_1 hfact_o_1 hP hS ls hl; exact absurd hms (Nat.not_lt_zero _)
    | succ fu ih627 =>
      intro k hk hms g_1 H h114_1 h115_1 h116_1 h125_1 hfact_o_1 hP hS ls hl
      refine lv_iload hx hb dL_law_627 (lv_at hl 0 rfl) ?_
      refine lv_iload hx hb dL_law_629 (lv_at hl 8 rfl) ?_
      refine lv_icmp_ge (tgt := 676) hx hb dL_law_631 (by decide) (fun c_631 => ?_) (fun c_631 => ?_)
      · skip
        have c_631 := (nI_leI (by omega) (by omega)).mp c_631
        exact lz3 S hr hlk hK hN hX hbl hb0 hL hXF hn (by omega) hO4 hBE hFG hVO hVa g_1 H _ h114_1 h115_1 h116_1 h125_1 hfact_o_1 hP hS (lv_sub hl [1, 2, 3, 4, 5, 6, 7, 8] rfl)
      · skip
        have c_631 := (not_congr (nI_leI (by omega) (by omega))).mp c_631
        have hOk := hO4 k
        refine lv_aload_n hx hb dL_law_634 rfl (lv_at hl 2 rfl) ?_
        refine lv_iconst (v := nI (0)) hx hb dL_law_635 (by decide) ?_
        refine lv_iconst (v := nI (0)) hx hb dL_law_636 (by decide) ?_
        refine lv_iload hx hb dL_law_637 (lv_at hl 0 rfl) ?_
        obtain ⟨fs_2, ho_2⟩ := hfact_o_1.ob
        refine kOi (M := 114) (k := 0) (As := [.int (nI (0)), .int (nI (0)), .int (nI (k))]) (rest := []) S hK hP hS AA_AB (by omega) (by decide) (ob_shared l D hfact_o_1 (nI (0)) (nI (0)) (nI (k))) cv_L_58 ho_2 ⟨_, _, rfl⟩ ⟨rfl, rfl⟩ rfl hl.1 rfl (Nat.le_of_ble_eq_true rfl) hRC dL_law_639 (fun r_2 u_2 g_2 H locs q_2 i_2 f_2 hP hS => ?_)
        obtain ⟨hq9, hS⟩ := SB_fresh hb0 hS
        refine W.fresh hq9 ?_
        obtain ⟨q_2, o_2⟩ := q_2
        subst q_2
        have hfact_o_2 : OB9 cy (b0 + 0) (fun i => g_2 (0 + i)) (bgW n) 4 (nI 0) 2 0 Tto Flo FBo Vlo VVo := o_2.fr i_2
        have h114_2 : g_2 114 = .inl (cy 1, 64, .inl (fun x9 => nI (T2 x9))) := (f_2 114 (by omega)).trans h114_1
        have h115_2 : g_2 115 = .inl (cy 1, 1, .inl (fun x9 => nI (BB x9))) := (f_2 115 (by omega)).trans h115_1
        have h116_2 : g_2 116 = .inl (cy 1, 4, .inl (fun x9 => nI (BE x9))) := (f_2 116 (by omega)).trans h116_1
        have h125_2 : g_2 125 = .inl (cy 1, 8, .inl (fun x9 => nI (O x9))) := (f_2 125 (by omega)).trans h125_1
        refine tpi (y := nI (O k)) (sh_e hVO hVa hO4 ha (by omega)) ?_
        refine lv_aload hx hb dL_law_642 (lv_at hl 7 rfl) ?_
        refine lv_iload hx hb dL_law_644 (lv_at hl 0 rfl) ?_
        refine mial S hK hP (by omega) h125_2 (vp_in_nI (by omega) (by omega)) dL_law_646 ?_
        refine tpi (congrArg ((fun x9 => nI (O x9))) (nI_clamp (by omega))) ?_
        refine lv_icmp_ne (tgt := 668) hx hb dL_law_647 (by decide) (fun c_647 => ?_) (fun c_647 => ?_)
        · skip
          have c_647 := (not_congr (nI_eq (by omega) (by omega))).mp c_647
          exact absurd rfl c_647
        · skip
          have c_647 := (nI_eq (by omega) (by omega)).mp c_647
          refine lv_aload_n hx hb dL_law_650 rfl (lv_at hl 2 rfl) ?_
          refine lv_iconst (v := nI (0)) hx hb dL_law_651 (by decide) ?_
          refine lv_bipush (v := nI (10)) hx hb dL_law_652 (by decide) ?_
          refine lv_iload hx hb dL_law_654 (lv_at hl 0 rfl) ?_
          refine lv_iadd hx hb dL_law_656 ?_
          refine tpi (nI_add 10 k) ?_
          obtain ⟨fs_3, ho_3⟩ := hfact_o_2.ob
          refine kOp (M := 114) (k := 0) (As := [.int (nI (0)), .int (nI (10 + k))]) (rest := []) S hK hP (by omega) (by decide) (ob_danceOf l D hfact_o_2 (nI (0)) (nI (10 + k))) cv_L_53 ho_3 ⟨_, _, rfl⟩ ⟨rfl, rfl⟩ rfl hl.1 rfl (Nat.le_of_ble_eq_true rfl) hRC dL_law_657 (fun r_3 q_3 => ?_)
          subst q_3
          refine tpi (y := nI (O k)) (da_y hVO hVa ha (by omega)) ?_
          refine lv_aload hx hb dL_law_660 (lv_at hl 7 rfl) ?_
          refine lv_iload hx hb dL_law_662 (lv_at hl 0 rfl) ?_
          refine mial S hK hP (by omega) h125_2 (vp_in_nI (by omega) (by omega)) dL_law_664 ?_
          refine tpi (congrArg ((fun x9 => nI (O x9))) (nI_clamp (by omega))) ?_
          refine lv_icmp_eq (tgt := 670) hx hb dL_law_665 (by decide) (fun c_665 => ?_) (fun c_665 => ?_)
          · skip
            have c_665 := (nI_eq (by omega) (by omega)).mp c_665
            refine lv_iinc (v := nI (k + 1)) (lv' := [(14, .int (nI (k + 1))), (0, .ref b), (1, .ref ((bd b0) 0)), (2, .int (nI (n))), (3, .ref ((bd b0) 114)), (4, .ref ((bd b0) 115)), (5, .ref ((bd b0) 116)), (6, .ref ((bd b0) 125)), (8, .int (nI (a)))]) hx hb dL_law_670 hl (k := 0) rfl (by exact nI_add k 1) (by decide) rfl (fun ls hl => ?_)
            refine lv_goto (tgt := 627) hx hb dL_law_673 (by decide) ?_
            exact ih627 (k + 1) (by omega) (by omega) g_2 _ h114_2 h115_2 h116_2 h125_2 hfact_o_2 hP hS _ (lv_sub hl [0, 1, 2, 3, 4, 5, 6, 7, 8] rfl)
          · skip
            have c_665 := (not_congr (nI_eq (by omega) (by omega))).mp c_665
            exact absurd rfl c_665
  exact L627 ((a - 0) + 1) 0 (by omega) (Nat.lt_succ_self _) g _ hm114 hm115 hm116 hm125 hfo hP hS _ (lv_sub hl [0, 1, 2, 3, 4, 5, 6, 7, 8] rfl)
set_option maxHeartbeats 4000000 in
set_option maxRecDepth 100000 in
theorem lz2a {p : Program} {l : Launch} {e : Env} {s : State} {m : MethodId} {below : List Frame} {meth : Method} {c : Code} {D : va_G} {cy : Nat → ClassId} {b0 b L : Nat} {xs : Nat → Int32} {sq sv : Nat} (S : CallFix p m c cL_law 21 s #[.ref b] wsL_law RL) (hr : meth.sig.returnType = ret) (hlk : meth.locks = false) (hK : va_K D vwCl (tyv cy) s) (hN : NX s) (hX : va_X b L xs s s.heap) (hbl : b < s.heap.size) (hb0 : s.heap.size = b0) (hL : L < 1000) (hXF : XF (AB b0) sq sv s s.heap) {n : Nat} {a : Nat} {O : Nat → Nat} {BE : Nat → Nat} {T2 : Nat → Nat} {BB : Nat → Nat} {Tto : Nat → Nat} {Flo : Nat → Nat} {FBo : Nat → Nat → Nat} {Vlo : Nat → Nat} {VVo : Nat → Nat → Nat} {PA : Nat → Nat} {c9 : Nat} (hn : 4 ≤ n ∧ n ≤ 8) (ha : a ≤ 7) (hO4 : ∀ j, O j < 4) (hBE : ∀ j, j < 4 → BE j = Flo j) (hFG : FGS xs L n 4 Flo FBo) (hVO : VVo 0 = O) (hVa : Vlo 0 = a) (hVP : VVo 1 = PA) (hVc : Vlo 1 = c9) (hP4 : ∀ j, PA j < 4) (hc9 : c9 ≤ 7) (g : Nat → va_E) (H : Heap) (ls : Array Slot) (hm114 : g 114 = .inl (cy 1, 64, .inl (fun x9 => nI (T2 x9)))) (hm115 : g 115 = .inl (cy 1, 1, .inl (fun x9 => nI (BB x9)))) (hm116 : g 116 = .inl (cy 1, 4, .inl (fun x9 => nI (BE x9)))) (hm125 : g 125 = .inl (cy 1, 8, .inl (fun x9 => nI (O x9)))) (hfo : OB9 cy (b0 + 0) (fun i => g (0 + i)) (bgW n) 4 (nI 0) 2 0 Tto Flo FBo Vlo VVo) (hP : MM D (bd b0) (127) g H) (hS : va_S (AB b0) s.heap H []) (hl : lv_has ls 21 [(0, .ref b), (1, .ref ((bd b0) 0)), (2, .int (nI (n))), (3, .ref ((bd b0) 114)), (4, .ref ((bd b0) 115)), (5, .ref ((bd b0) 116)), (6, .ref ((bd b0) 125)), (8, .int (nI (a))), (11, .int (nI (lc O PA a c9 0 0))), (12, .long (lN (kyr (sfg O PA a c9) (lc O PA a c9 0 0))))]) : W p l e room_1 s m #[.ref b] below meth c H [] (127) (15124) (lw_Z below #[.ref b] s) (F0 m 562 ls []) := by
  have hx := S.1
  have hb := S.2.1
  have hI : MD (AB b0) (bd b0) (127) := bd_MD
  have hRC : 127 ≤ room_1.cells ∧ 15124 ≤ room_1.slots := ⟨(Nat.le_of_ble_eq_true rfl), (Nat.le_of_ble_eq_true rfl)⟩
  have hbA : ¬ AB b0 b := fun q => by unfold AB at q; omega
  have hle := lc_le1 (V1 := O) (V2 := PA) (n1 := a) (n2 := c9) (fun k => Nat.lt_of_lt_of_le (hO4 k) (by omega))
  refine lv_iload hx hb dL_law_562 (lv_at hl 8 rfl) ?_
  refine lv_iconst (v := nI (1)) hx hb dL_law_564 (by decide) ?_
  refine lv_isub hx hb dL_law_565 ?_
  refine tpi (dI_sub (lc O PA a c9 0 0)) ?_
  refine lv_istore (lv' := [(14, .int (dI (lc O PA a c9 0 0))), (0, .ref b), (1, .ref ((bd b0) 0)), (2, .int (nI (n))), (3, .ref ((bd b0) 114)), (4, .ref ((bd b0) 115)), (5, .ref ((bd b0) 116)), (6, .ref ((bd b0) 125)), (8, .int (nI (a))), (11, .int (nI (lc O PA a c9 0 0))), (12, .long (lN (kyr (sfg O PA a c9) (lc O PA a c9 0 0))))]) hx hb dL_law_566 hl (by decide) rfl (fun ls hl => ?_)
  have L568 : ∀ (fu : Nat) (r : Nat), (r ≤ lc O PA a c9 0 0) → r < fu → ∀ (g_1 : Nat → va_E) (H : Heap), g_1 114 = .inl (cy 1, 64, .inl (fun x9 => nI (T2 x9))) → g_1 115 = .inl (cy 1, 1, .inl (fun x9 => nI (BB x9))) → g_1 116 = .inl (cy 1, 4, .inl (fun x9 => nI (BE x9))) → g_1 125 = .inl (cy 1, 8, .inl (fun x9 => nI (O x9))) → (OB9 cy (b0 + 0) (fun i => g_1 (0 + i)) (bgW n) 4 (nI 0) 2 0 Tto Flo FBo Vlo VVo) → MM D (bd b0) (127) g_1 H → va_S (AB b0) s.heap H [] → ∀ (ls : Array Slot), lv_has ls 21 [(14, .int (dI r)), (0, .ref b), (1, .ref ((bd b0) 0)), (2, .int (nI (n))), (3, .ref ((bd b0) 114)), (4, .ref ((bd b0) 115)), (5, .ref ((bd b0) 116)), (6, .ref ((bd b0) 125)), (8, .int (nI (a))), (11, .int (nI (lc O PA a c9 0 0))), (12, .long (lN (kyr (sfg O PA a c9) r)))] → W p l e room_1 s m #[.ref b] below meth c H [] (127) (15124) (lw_Z below #[.ref b] s) (F0 m 568 ls []) := by
    intro fu
    induction fu with
    | zero => intro r hr9 hms g_1 H h114_1 h115_1 h116_1 h125_1 hfact_o_1 hP hS ls hl; exact absurd hms (Nat.not_lt_zero _)
    | succ fu ih568 =>
      intro r hr9 hms g_1 H h114_1 h115_1 h116_1 h125_1 hfact_o_1 hP hS ls hl
      refine lv_iload hx hb dL_law_568 (lv_at hl 0 rfl) ?_
      refine lv_if_lt (tgt := 624) hx hb dL_law_570 (by decide) (fun c_570 => ?_) (fun c_570 => ?_)
      · skip
        exact lz2b S hr hlk hK hN hX hbl hb0 hL hXF hn (by omega) hO4 hBE hFG hVO hVa g_1 H _ h114_1 h115_1 h116_1 h125_1 hfact_o_1 hP hS (lv_sub hl [1, 2, 3, 4, 5, 6, 7, 8] rfl)
      · skip
        obtain ⟨i, hi9⟩ := dI_pos (c := r) rfl c_570
        subst hi9
        have hl : lv_has ls 21 [(14, .int (nI (i))), (0, .ref b), (1, .ref ((bd b0) 0)), (2, .int (nI (n))), (3, .ref ((bd b0) 114)), (4, .ref ((bd b0) 115)), (5, .ref ((bd b0) 116)), (6, .ref ((bd b0) 125)), (8, .int (nI (a))), (11, .int (nI (lc O PA a c9 0 0))), (12, .long (lN (kyr (sfg O PA a c9) (i + 1))))] := by rw [dI_s] at hl; exact hl
        have hs4 : (sfg O PA a c9) i < 4 := sfg_4 hO4 (by omega)
        have hky := ky_31 (r := (sfg O PA a c9)) (m := i + 1) (by omega) (fun c hc => sfg_4 hO4 (by omega))
        have hsb := sh_b (Vl := Vlo) (VV := VVo) hVO hVP hVa hVc hO4 ha (k := i) (by omega)
        refine lv_lload hx hb dL_law_573 (lv_at hl 10 rfl) ?_
        refine lv_ldc2 hx hb S.2.2.2.1 (S.2.2.2.2 _ m_L_56) dL_law_575 ?_
        refine tpl (show (4 : Int64) = lN 4 from rfl) ?_
        refine lv_lrem hx hb dL_law_578 (by decide) ?_
        refine tpl ((lrem4 hky).trans (congrArg lN (ky_m hs4))) ?_
        refine lv_l2i hx hb dL_law_579 rfl ?_
        refine tpi (lN_i _) ?_
        refine lv_istore (lv' := [(15, .int (nI ((sfg O PA a c9) i))), (14, .int (nI (i))), (0, .ref b), (1, .ref ((bd b0) 0)), (2, .int (nI (n))), (3, .ref ((bd b0) 114)), (4, .ref ((bd b0) 115)), (5, .ref ((bd b0) 116)), (6, .ref ((bd b0) 125)), (8, .int (nI (a))), (11, .int (nI (lc O PA a c9 0 0))), (12, .long (lN (kyr (sfg O PA a c9) (i + 1))))]) hx hb dL_law_580 hl (by decide) rfl (fun ls hl => ?_)
        refine lv_lload hx hb dL_law_582 (lv_at hl 11 rfl) ?_
        refine lv_ldc2 hx hb S.2.2.2.1 (S.2.2.2.2 _ m_L_56) dL_law_584 ?_
        refine tpl (show (4 : Int64) = lN 4 from rfl) ?_
        refine lv_ldiv hx hb dL_law_587 (by decide) ?_
        refine tpl ((ldiv4 hky).trans (congrArg lN (ky_d hs4))) ?_
        refine lv_lstore (lv' := [(12, .long (lN (kyr (sfg O PA a c9) i))), (15, .int (nI ((sfg O PA a c9) i))), (14, .int (nI (i))), (0, .ref b), (1, .ref ((bd b0) 0)), (2, .int (nI (n))), (3, .ref ((bd b0) 114)), (4, .ref ((bd b0) 115)), (5, .ref ((bd b0) 116)), (6, .ref ((bd b0) 125)), (8, .int (nI (a))), (11, .int (nI (lc O PA a c9 0 0)))]) hx hb dL_law_588 hl (by decide) rfl (fun ls hl => ?_)
        refine lv_aload_n hx hb dL_law_590 rfl (lv_at hl 4 rfl) ?_
        refine lv_iconst (v := nI (0)) hx hb dL_law_591 (by decide) ?_
        refine lv_iconst (v := nI (1)) hx hb dL_law_592 (by decide) ?_
        refine lv_iload hx hb dL_law_593 (lv_at hl 2 rfl) ?_
        obtain ⟨fs_2, ho_2⟩ := hfact_o_1.ob
        refine kOi (M := 114) (k := 0) (As := [.int (nI (0)), .int (nI (1)), .int (nI (i))]) (rest := []) S hK hP hS AA_AB (by omega) (by decide) (ob_shared l D hfact_o_1 (nI (0)) (nI (1)) (nI (i))) cv_L_58 ho_2 ⟨_, _, rfl⟩ ⟨rfl, rfl⟩ rfl hl.1 rfl (Nat.le_of_ble_eq_true rfl) hRC dL_law_595 (fun r_2 u_2 g_2 H locs q_2 i_2 f_2 hP hS => ?_)
        obtain ⟨hq9, hS⟩ := SB_fresh hb0 hS
        refine W.fresh hq9 ?_
        obtain ⟨q_2, o_2⟩ := q_2
        subst q_2
        have hfact_o_2 : OB9 cy (b0 + 0) (fun i => g_2 (0 + i)) (bgW n) 4 (nI 0) 2 0 Tto Flo FBo Vlo VVo := o_2.fr i_2
        have h114_2 : g_2 114 = .inl (cy 1, 64, .inl (fun x9 => nI (T2 x9))) := (f_2 114 (by omega)).trans h114_1
        have h115_2 : g_2 115 = .inl (cy 1, 1, .inl (fun x9 => nI (BB x9))) := (f_2 115 (by omega)).trans h115_1
        have h116_2 : g_2 116 = .inl (cy 1, 4, .inl (fun x9 => nI (BE x9))) := (f_2 116 (by omega)).trans h116_1
        have h125_2 : g_2 125 = .inl (cy 1, 8, .inl (fun x9 => nI (O x9))) := (f_2 125 (by omega)).trans h125_1
        refine tpi (y := nI ((sfg O PA a c9) i)) (hsb.1) ?_
        refine lv_iload hx hb dL_law_598 (lv_at hl 1 rfl) ?_
        refine lv_icmp_ne (tgt := 616) hx hb dL_law_600 (by decide) (fun c_600 => ?_) (fun c_600 => ?_)
        · skip
          have c_600 := (not_congr (nI_eq (by omega) (by omega))).mp c_600
          exact absurd rfl c_600
        · skip
          have c_600 := (nI_eq (by omega) (by omega)).mp c_600
          refine lv_aload_n hx hb dL_law_603 rfl (lv_at hl 4 rfl) ?_
          refine lv_iconst (v := nI (1)) hx hb dL_law_604 (by decide) ?_
          refine lv_iconst (v := nI (0)) hx hb dL_law_605 (by decide) ?_
          refine lv_iload hx hb dL_law_606 (lv_at hl 2 rfl) ?_
          obtain ⟨fs_3, ho_3⟩ := hfact_o_2.ob
          refine kOi (M := 114) (k := 0) (As := [.int (nI (1)), .int (nI (0)), .int (nI (i))]) (rest := []) S hK hP hS AA_AB (by omega) (by decide) (ob_shared l D hfact_o_2 (nI (1)) (nI (0)) (nI (i))) cv_L_58 ho_3 ⟨_, _, rfl⟩ ⟨rfl, rfl⟩ rfl hl.1 rfl (Nat.le_of_ble_eq_true rfl) hRC dL_law_608 (fun r_3 u_3 g_3 H locs q_3 i_3 f_3 hP hS => ?_)
          obtain ⟨hq9, hS⟩ := SB_fresh hb0 hS
          refine W.fresh hq9 ?_
          obtain ⟨q_3, o_3⟩ := q_3
          subst q_3
          have hfact_o_3 : OB9 cy (b0 + 0) (fun i => g_3 (0 + i)) (bgW n) 4 (nI 0) 2 0 Tto Flo FBo Vlo VVo := o_3.fr i_3
          have h114_3 : g_3 114 = .inl (cy 1, 64, .inl (fun x9 => nI (T2 x9))) := (f_3 114 (by omega)).trans h114_2
          have h115_3 : g_3 115 = .inl (cy 1, 1, .inl (fun x9 => nI (BB x9))) := (f_3 115 (by omega)).trans h115_2
          have h116_3 : g_3 116 = .inl (cy 1, 4, .inl (fun x9 => nI (BE x9))) := (f_3 116 (by omega)).trans h116_2
          have h125_3 : g_3 125 = .inl (cy 1, 8, .inl (fun x9 => nI (O x9))) := (f_3 125 (by omega)).trans h125_2
          refine tpi (y := nI ((sfg O PA a c9) i)) (hsb.2) ?_
          refine lv_iload hx hb dL_law_611 (lv_at hl 1 rfl) ?_
          refine lv_icmp_eq (tgt := 618) hx hb dL_law_613 (by decide) (fun c_613 => ?_) (fun c_613 => ?_)
          · skip
            have c_613 := (nI_eq (by omega) (by omega)).mp c_613
            refine lv_iinc (v := dI i) (lv' := [(14, .int (dI i)), (12, .long (lN (kyr (sfg O PA a c9) i))), (15, .int (nI ((sfg O PA a c9) i))), (0, .ref b), (1, .ref ((bd b0) 0)), (2, .int (nI (n))), (3, .ref ((bd b0) 114)), (4, .ref ((bd b0) 115)), (5, .ref ((bd b0) 116)), (6, .ref ((bd b0) 125)), (8, .int (nI (a))), (11, .int (nI (lc O PA a c9 0 0)))]) hx hb dL_law_618 hl (k := 2) rfl rfl (by decide) rfl (fun ls hl => ?_)
            refine lv_goto (tgt := 568) hx hb dL_law_621 (by decide) ?_
            exact ih568 i (by omega) (by omega) g_3 _ h114_3 h115_3 h116_3 h125_3 hfact_o_3 hP hS _ (lv_sub hl [0, 3, 4, 5, 6, 7, 8, 9, 10, 11, 1] rfl)
          · skip
            have c_613 := (not_congr (nI_eq (by omega) (by omega))).mp c_613
            exact absurd rfl c_613
  exact L568 (((lc O PA a c9 0 0)) + 1) (lc O PA a c9 0 0) (by omega) (Nat.lt_succ_self _) g _ hm114 hm115 hm116 hm125 hfo hP hS _ (lv_sub hl [0, 1, 2, 3, 4, 5, 6, 7, 8, 9, 10] rfl)
set_option maxHeartbeats 4000000 in
set_option maxRecDepth 100000 in
theorem lz2 {p : Program} {l : Launch} {e : Env} {s : State} {m : MethodId} {below : List Frame} {meth : Method} {c : Code} {D : va_G} {cy : Nat → ClassId} {b0 b L : Nat} {xs : Nat → Int32} {sq sv : Nat} (S : CallFix p m c cL_law 21 s #[.ref b] wsL_law RL) (hr : meth.sig.returnType = ret) (hlk : meth.locks = false) (hK : va_K D vwCl (tyv cy) s) (hN : NX s) (hX : va_X b L xs s s.heap) (hbl : b < s.heap.size) (hb0 : s.heap.size = b0) (hL : L < 1000) (hXF : XF (AB b0) sq sv s s.heap) {n : Nat} {a : Nat} {O : Nat → Nat} {BE : Nat → Nat} {T2 : Nat → Nat} {BB : Nat → Nat} {Tto : Nat → Nat} {Flo : Nat → Nat} {FBo : Nat → Nat → Nat} {Vlo : Nat → Nat} {VVo : Nat → Nat → Nat} {PA : Nat → Nat} {c9 : Nat} (hn : 4 ≤ n ∧ n ≤ 8) (ha : a ≤ 7) (hO4 : ∀ j, O j < 4) (hBE : ∀ j, j < 4 → BE j = Flo j) (hFG : FGS xs L n 4 Flo FBo) (hVO : VVo 0 = O) (hVa : Vlo 0 = a) (hVP : VVo 1 = PA) (hVc : Vlo 1 = c9) (hP4 : ∀ j, PA j < 4) (hc9 : c9 ≤ 7) (g : Nat → va_E) (H : Heap) (ls : Array Slot) (hm114 : g 114 = .inl (cy 1, 64, .inl (fun x9 => nI (T2 x9)))) (hm115 : g 115 = .inl (cy 1, 1, .inl (fun x9 => nI (BB x9)))) (hm116 : g 116 = .inl (cy 1, 4, .inl (fun x9 => nI (BE x9)))) (hm125 : g 125 = .inl (cy 1, 8, .inl (fun x9 => nI (O x9)))) (hfo : OB9 cy (b0 + 0) (fun i => g (0 + i)) (bgW n) 4 (nI 0) 2 0 Tto Flo FBo Vlo VVo) (hP : MM D (bd b0) (127) g H) (hS : va_S (AB b0) s.heap H []) (hl : lv_has ls 21 [(0, .ref b), (1, .ref ((bd b0) 0)), (2, .int (nI (n))), (3, .ref ((bd b0) 114)), (4, .ref ((bd b0) 115)), (5, .ref ((bd b0) 116)), (6, .ref ((bd b0) 125)), (8, .int (nI (a))), (11, .int (nI (lc O PA a c9 0 0))), (12, .long (lN (kyr (sfg O PA a c9) (lc O PA a c9 0 0))))]) : W p l e room_1 s m #[.ref b] below meth c H [] (127) (15124) (lw_Z below #[.ref b] s) (F0 m 497 ls []) := by
  have hx := S.1
  have hb := S.2.1
  have hI : MD (AB b0) (bd b0) (127) := bd_MD
  have hRC : 127 ≤ room_1.cells ∧ 15124 ≤ room_1.slots := ⟨(Nat.le_of_ble_eq_true rfl), (Nat.le_of_ble_eq_true rfl)⟩
  have hbA : ¬ AB b0 b := fun q => by unfold AB at q; omega
  have hle := lc_le1 (V1 := O) (V2 := PA) (n1 := a) (n2 := c9) (fun k => Nat.lt_of_lt_of_le (hO4 k) (by omega))
  have hsa := sh_a (Vl := Vlo) (VV := VVo) hVO hVP hVa hVc
  refine lv_aload_n hx hb dL_law_497 rfl (lv_at hl 1 rfl) ?_
  refine lv_iconst (v := nI (0)) hx hb dL_law_498 (by decide) ?_
  refine lv_iconst (v := nI (1)) hx hb dL_law_499 (by decide) ?_
  refine lv_bipush (v := (-4)) hx hb dL_law_500 (by decide) ?_
  obtain ⟨fs_1, ho_1⟩ := hfo.ob
  refine kOi (M := 114) (k := 0) (As := [.int (nI (0)), .int (nI (1)), .int (-4)]) (rest := []) S hK hP hS AA_AB (by omega) (by decide) (ob_shared l D hfo (nI (0)) (nI (1)) (-4)) cv_L_58 ho_1 ⟨_, _, rfl⟩ ⟨rfl, rfl⟩ rfl hl.1 rfl (Nat.le_of_ble_eq_true rfl) hRC dL_law_502 (fun r_1 u_1 g_1 H locs q_1 i_1 f_1 hP hS => ?_)
  obtain ⟨hq9, hS⟩ := SB_fresh hb0 hS
  refine W.fresh hq9 ?_
  obtain ⟨q_1, o_1⟩ := q_1
  subst q_1
  have hfact_o_1 : OB9 cy (b0 + 0) (fun i => g_1 (0 + i)) (bgW n) 4 (nI 0) 2 0 Tto Flo FBo Vlo VVo := o_1.fr i_1
  have h114_1 : g_1 114 = .inl (cy 1, 64, .inl (fun x9 => nI (T2 x9))) := (f_1 114 (by omega)).trans hm114
  have h115_1 : g_1 115 = .inl (cy 1, 1, .inl (fun x9 => nI (BB x9))) := (f_1 115 (by omega)).trans hm115
  have h116_1 : g_1 116 = .inl (cy 1, 4, .inl (fun x9 => nI (BE x9))) := (f_1 116 (by omega)).trans hm116
  have h125_1 : g_1 125 = .inl (cy 1, 8, .inl (fun x9 => nI (O x9))) := (f_1 125 (by omega)).trans hm125
  refine tpi (y := nI (lc O PA a c9 0 0)) (hsa.1) ?_
  refine lv_iload hx hb dL_law_505 (lv_at hl 8 rfl) ?_
  refine lv_icmp_ne (tgt := 560) hx hb dL_law_507 (by decide) (fun c_507 => ?_) (fun c_507 => ?_)
  · skip
    have c_507 := (not_congr (nI_eq (by omega) (by omega))).mp c_507
    exact absurd rfl c_507
  · skip
    have c_507 := (nI_eq (by omega) (by omega)).mp c_507
    refine lv_aload_n hx hb dL_law_510 rfl (lv_at hl 1 rfl) ?_
    refine lv_iconst (v := nI (1)) hx hb dL_law_511 (by decide) ?_
    refine lv_iconst (v := nI (0)) hx hb dL_law_512 (by decide) ?_
    refine lv_bipush (v := (-4)) hx hb dL_law_513 (by decide) ?_
    obtain ⟨fs_2, ho_2⟩ := hfact_o_1.ob
    refine kOi (M := 114) (k := 0) (As := [.int (nI (1)), .int (nI (0)), .int (-4)]) (rest := []) S hK hP hS AA_AB (by omega) (by decide) (ob_shared l D hfact_o_1 (nI (1)) (nI (0)) (-4)) cv_L_58 ho_2 ⟨_, _, rfl⟩ ⟨rfl, rfl⟩ rfl hl.1 rfl (Nat.le_of_ble_eq_true rfl) hRC dL_law_515 (fun r_2 u_2 g_2 H locs q_2 i_2 f_2 hP hS => ?_)
    obtain ⟨hq9, hS⟩ := SB_fresh hb0 hS
    refine W.fresh hq9 ?_
    obtain ⟨q_2, o_2⟩ := q_2
    subst q_2
    have hfact_o_2 : OB9 cy (b0 + 0) (fun i => g_2 (0 + i)) (bgW n) 4 (nI 0) 2 0 Tto Flo FBo Vlo VVo := o_2.fr i_2
    have h114_2 : g_2 114 = .inl (cy 1, 64, .inl (fun x9 => nI (T2 x9))) := (f_2 114 (by omega)).trans h114_1
    have h115_2 : g_2 115 = .inl (cy 1, 1, .inl (fun x9 => nI (BB x9))) := (f_2 115 (by omega)).trans h115_1
    have h116_2 : g_2 116 = .inl (cy 1, 4, .inl (fun x9 => nI (BE x9))) := (f_2 116 (by omega)).trans h116_1
    have h125_2 : g_2 125 = .inl (cy 1, 8, .inl (fun x9 => nI (O x9))) := (f_2 125 (by omega)).trans h125_1
    refine tpi (y := nI (lc O PA a c9 0 0)) (hsa.2.1) ?_
    refine lv_iload hx hb dL_law_518 (lv_at hl 8 rfl) ?_
    refine lv_icmp_ne (tgt := 560) hx hb dL_law_520 (by decide) (fun c_520 => ?_) (fun c_520 => ?_)
    · skip
      have c_520 := (not_congr (nI_eq (by omega) (by omega))).mp c_520
      exact absurd rfl c_520
    · skip
      have c_520 := (nI_eq (by omega) (by omega)).mp c_520
      refine lv_aload_n hx hb dL_law_523 rfl (lv_at hl 1 rfl) ?_
      refine lv_iconst (v := nI (0)) hx hb dL_law_524 (by decide) ?_
      refine lv_iconst (v := nI (0)) hx hb dL_law_525 (by decide) ?_
      refine lv_bipush (v := (-4)) hx hb dL_law_526 (by decide) ?_
      obtain ⟨fs_3, ho_3⟩ := hfact_o_2.ob
      refine kOi (M := 114) (k := 0) (As := [.int (nI (0)), .int (nI (0)), .int (-4)]) (rest := []) S hK hP hS AA_AB (by omega) (by decide) (ob_shared l D hfact_o_2 (nI (0)) (nI (0)) (-4)) cv_L_58 ho_3 ⟨_, _, rfl⟩ ⟨rfl, rfl⟩ rfl hl.1 rfl (Nat.le_of_ble_eq_true rfl) hRC dL_law_528 (fun r_3 u_3 g_3 H locs q_3 i_3 f_3 hP hS => ?_)
      obtain ⟨hq9, hS⟩ := SB_fresh hb0 hS
      refine W.fresh hq9 ?_
      obtain ⟨q_3, o_3⟩ := q_3
      subst q_3
      have hfact_o_3 : OB9 cy (b0 + 0) (fun i => g_3 (0 + i)) (bgW n) 4 (nI 0) 2 0 Tto Flo FBo Vlo VVo := o_3.fr i_3
      have h114_3 : g_3 114 = .inl (cy 1, 64, .inl (fun x9 => nI (T2 x9))) := (f_3 114 (by omega)).trans h114_2
      have h115_3 : g_3 115 = .inl (cy 1, 1, .inl (fun x9 => nI (BB x9))) := (f_3 115 (by omega)).trans h115_2
      have h116_3 : g_3 116 = .inl (cy 1, 4, .inl (fun x9 => nI (BE x9))) := (f_3 116 (by omega)).trans h116_2
      have h125_3 : g_3 125 = .inl (cy 1, 8, .inl (fun x9 => nI (O x9))) := (f_3 125 (by omega)).trans h125_2
      refine tpi (y := nI (a)) (hsa.2.2) ?_
      refine lv_iload hx hb dL_law_531 (lv_at hl 7 rfl) ?_
      refine lv_icmp_ne (tgt := 560) hx hb dL_law_533 (by decide) (fun c_533 => ?_) (fun c_533 => ?_)
      · skip
        have c_533 := (not_congr (nI_eq (by omega) (by omega))).mp c_533
        exact absurd rfl c_533
      · skip
        have c_533 := (nI_eq (by omega) (by omega)).mp c_533
        refine lv_aload_n hx hb dL_law_536 rfl (lv_at hl 1 rfl) ?_
        refine lv_iconst (v := nI (0)) hx hb dL_law_537 (by decide) ?_
        refine lv_iconst (v := nI (1)) hx hb dL_law_538 (by decide) ?_
        refine lv_iload hx hb dL_law_539 (lv_at hl 8 rfl) ?_
        obtain ⟨fs_4, ho_4⟩ := hfact_o_3.ob
        refine kOi (M := 114) (k := 0) (As := [.int (nI (0)), .int (nI (1)), .int (nI (lc O PA a c9 0 0))]) (rest := []) S hK hP hS AA_AB (by omega) (by decide) (ob_shared l D hfact_o_3 (nI (0)) (nI (1)) (nI (lc O PA a c9 0 0))) cv_L_58 ho_4 ⟨_, _, rfl⟩ ⟨rfl, rfl⟩ rfl hl.1 rfl (Nat.le_of_ble_eq_true rfl) hRC dL_law_541 (fun r_4 u_4 g_4 H locs q_4 i_4 f_4 hP hS => ?_)
        obtain ⟨hq9, hS⟩ := SB_fresh hb0 hS
        refine W.fresh hq9 ?_
        obtain ⟨q_4, o_4⟩ := q_4
        subst q_4
        have hfact_o_4 : OB9 cy (b0 + 0) (fun i => g_4 (0 + i)) (bgW n) 4 (nI 0) 2 0 Tto Flo FBo Vlo VVo := o_4.fr i_4
        have h114_4 : g_4 114 = .inl (cy 1, 64, .inl (fun x9 => nI (T2 x9))) := (f_4 114 (by omega)).trans h114_3
        have h115_4 : g_4 115 = .inl (cy 1, 1, .inl (fun x9 => nI (BB x9))) := (f_4 115 (by omega)).trans h115_3
        have h116_4 : g_4 116 = .inl (cy 1, 4, .inl (fun x9 => nI (BE x9))) := (f_4 116 (by omega)).trans h116_3
        have h125_4 : g_4 125 = .inl (cy 1, 8, .inl (fun x9 => nI (O x9))) := (f_4 125 (by omega)).trans h125_3
        refine tpi (y := -4) (sh_c hVO hVP hVa hVc hO4 ha) ?_
        refine lv_bipush (v := (-4)) hx hb dL_law_544 (by decide) ?_
        refine lv_icmp_ne (tgt := 560) hx hb dL_law_546 (by decide) (fun c_546 => ?_) (fun c_546 => ?_)
        · skip
          exact absurd rfl c_546
        · skip
          refine lv_aload_n hx hb dL_law_549 rfl (lv_at hl 1 rfl) ?_
          refine lv_iconst (v := nI (0)) hx hb dL_law_550 (by decide) ?_
          refine lv_iconst (v := nI (2)) hx hb dL_law_551 (by decide) ?_
          refine lv_iconst (v := nI (0)) hx hb dL_law_552 (by decide) ?_
          obtain ⟨fs_5, ho_5⟩ := hfact_o_4.ob
          refine kOi (M := 114) (k := 0) (As := [.int (nI (0)), .int (nI (2)), .int (nI (0))]) (rest := []) S hK hP hS AA_AB (by omega) (by decide) (ob_shared l D hfact_o_4 (nI (0)) (nI (2)) (nI (0))) cv_L_58 ho_5 ⟨_, _, rfl⟩ ⟨rfl, rfl⟩ rfl hl.1 rfl (Nat.le_of_ble_eq_true rfl) hRC dL_law_553 (fun r_5 u_5 g_5 H locs q_5 i_5 f_5 hP hS => ?_)
          obtain ⟨hq9, hS⟩ := SB_fresh hb0 hS
          refine W.fresh hq9 ?_
          obtain ⟨q_5, o_5⟩ := q_5
          subst q_5
          have hfact_o_5 : OB9 cy (b0 + 0) (fun i => g_5 (0 + i)) (bgW n) 4 (nI 0) 2 0 Tto Flo FBo Vlo VVo := o_5.fr i_5
          have h114_5 : g_5 114 = .inl (cy 1, 64, .inl (fun x9 => nI (T2 x9))) := (f_5 114 (by omega)).trans h114_4
          have h115_5 : g_5 115 = .inl (cy 1, 1, .inl (fun x9 => nI (BB x9))) := (f_5 115 (by omega)).trans h115_4
          have h116_5 : g_5 116 = .inl (cy 1, 4, .inl (fun x9 => nI (BE x9))) := (f_5 116 (by omega)).trans h116_4
          have h125_5 : g_5 125 = .inl (cy 1, 8, .inl (fun x9 => nI (O x9))) := (f_5 125 (by omega)).trans h125_4
          refine tpi (y := -1) (sh_d) ?_
          refine lv_iconst (v := (-1)) hx hb dL_law_556 (by decide) ?_
          refine lv_icmp_eq (tgt := 562) hx hb dL_law_557 (by decide) (fun c_557 => ?_) (fun c_557 => ?_)
          · skip
            exact lz2a S hr hlk hK hN hX hbl hb0 hL hXF hn (by omega) hO4 hBE hFG hVO hVa hVP hVc hP4 (by omega) g_5 H _ h114_5 h115_5 h116_5 h125_5 hfact_o_5 hP hS (lv_sub hl [0, 1, 2, 3, 4, 5, 6, 7, 8, 9] rfl)
          · skip
            exact absurd rfl c_557

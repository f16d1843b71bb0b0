set_option maxHeartbeats 4000000 in
set_option maxRecDepth 100000 in
theorem lz8s {p : Program} {l : Launch} {e : Env} {s : State} {m : MethodId} {below : List Frame} {meth : Method} {c : Code} {D : va_G} {cy : Nat → ClassId} {b0 b L : Nat} {xs : Nat → Int32} {sq sv : Nat} (S : CallFix p m c cL_law 21 s #[.ref b] wsL_law RL) (hr : meth.sig.returnType = ret) (hlk : meth.locks = false) (hK : va_K D vwCl (tyv cy) s) (hN : NX s) (hX : va_X b L xs s s.heap) (hbl : b < s.heap.size) (hb0 : s.heap.size = b0) (hL : L < 1000) (hXF : XF (AB b0) sq sv s s.heap) {n : Nat} {j : Nat} {u : WT} {lto : Int32} {Tto : Nat → Nat} {Flo : Nat → Nat} {FBo : Nat → Nat → Nat} {Vlo : Nat → Nat} {VVo : Nat → Nat → Nat} (hn : 4 ≤ n ∧ n ≤ 8) (hj : j < 16) (g : Nat → va_E) (H : Heap) (ls : Array Slot) (hfo : OB9 cy (b0 + 0) (fun i => g (0 + i)) u 4 lto 2 0 Tto Flo FBo Vlo VVo) (hP : MM D (bd b0) (249) g H) (hS : va_S (AB b0) s.heap H []) (hl : lv_has ls 21 [(1, .ref ((bd b0) 0)), (2, .int (nI (n))), (15, .int (nI (j)))]) : W p l e room_1 s m #[.ref b] below meth c H [] (249) (30163) (lw_Z below #[.ref b] s) (F0 m 992 ls []) := by
  have hx := S.1
  have hb := S.2.1
  have hI : MD (AB b0) (bd b0) (249) := bd_MD
  have hRC : 249 ≤ room_1.cells ∧ 30163 ≤ room_1.slots := ⟨(Nat.le_of_ble_eq_true rfl), (Nat.le_of_ble_eq_true rfl)⟩
  have hbA : ¬ AB b0 b := fun q => by unfold AB at q; omega
  refine lv_iconst (v := nI (0)) hx hb dL_law_992 (by decide) ?_
  refine lv_istore (lv' := [(16, .int (nI (0))), (1, .ref ((bd b0) 0)), (2, .int (nI (n))), (15, .int (nI (j)))]) hx hb dL_law_993 hl (by decide) rfl (fun ls hl => ?_)
  refine lv_iload hx hb dL_law_995 (lv_at hl 0 rfl) ?_
  refine lv_iload_n hx hb dL_law_997 rfl (lv_at hl 2 rfl) ?_
  refine lv_icmp_ge (tgt := 1047) hx hb dL_law_998 (by decide) (fun c_998 => ?_) (fun c_998 => ?_)
  · skip
    have c_998 := (nI_leI (by omega) (by omega)).mp c_998
    exact absurd c_998 (by omega)
  · skip
    have c_998 := (not_congr (nI_leI (by omega) (by omega))).mp c_998
    refine lv_iload hx hb dL_law_1001 (lv_at hl 3 rfl) ?_
    refine lv_if_ge (tgt := 1047) hx hb dL_law_1003 (by decide) (fun c_1003 => ?_) (fun c_1003 => ?_)
    · skip
      have c_1003 := (z_ge (by omega)).mp c_1003
      refine lv_iconst (v := nI (1)) hx hb dL_law_1047 (by decide) ?_
      exact W.widen (Nat.le_of_ble_eq_true rfl) (Nat.le_of_ble_eq_true rfl) (lw_ret hx hb hr hlk dL_law_1048)
    · skip
      have c_1003 := (not_congr (z_ge (by omega))).mp c_1003
      exact (c_1003 trivial).elim
set_option maxHeartbeats 4000000 in
set_option maxRecDepth 100000 in
theorem lz8d {p : Program} {l : Launch} {e : Env} {s : State} {m : MethodId} {below : List Frame} {meth : Method} {c : Code} {D : va_G} {cy : Nat → ClassId} {b0 b L : Nat} {xs : Nat → Int32} {sq sv : Nat} (S : CallFix p m c cL_law 21 s #[.ref b] wsL_law RL) (hr : meth.sig.returnType = ret) (hlk : meth.locks = false) (hK : va_K D vwCl (tyv cy) s) (hN : NX s) (hX : va_X b L xs s s.heap) (hbl : b < s.heap.size) (hb0 : s.heap.size = b0) (hL : L < 1000) (hXF : XF (AB b0) sq sv s s.heap) {n : Nat} {u : WT} {v : WT} {lto : Int32} {Tto : Nat → Nat} {Flo : Nat → Nat} {FBo : Nat → Nat → Nat} {Vlo : Nat → Nat} {VVo : Nat → Nat → Nat} (hn : 4 ≤ n ∧ n ≤ 8) (hq : QW u v) (hv : v = bgW n) (g : Nat → va_E) (H : Heap) (ls : Array Slot) (hfo : OB9 cy (b0 + 0) (fun i => g (0 + i)) u 4 lto 2 0 Tto Flo FBo Vlo VVo) (hP : MM D (bd b0) (249) g H) (hS : va_S (AB b0) s.heap H []) (hl : lv_has ls 21 [(1, .ref ((bd b0) 0)), (2, .int (nI (n))), (15, .int (dI 0))]) : W p l e room_1 s m #[.ref b] below meth c H [] (249) (30163) (lw_Z below #[.ref b] s) (F0 m 992 ls []) := by
  have hx := S.1
  have hb := S.2.1
  have hI : MD (AB b0) (bd b0) (249) := bd_MD
  have hRC : 249 ≤ room_1.cells ∧ 30163 ≤ room_1.slots := ⟨(Nat.le_of_ble_eq_true rfl), (Nat.le_of_ble_eq_true rfl)⟩
  have hbA : ¬ AB b0 b := fun q => by unfold AB at q; omega
  refine lv_iconst (v := nI (0)) hx hb dL_law_992 (by decide) ?_
  refine lv_istore (lv' := [(16, .int (nI (0))), (1, .ref ((bd b0) 0)), (2, .int (nI (n))), (15, .int (dI 0))]) hx hb dL_law_993 hl (by decide) rfl (fun ls hl => ?_)
  have L995 : ∀ (fu : Nat) (p9 : Nat), (p9 ≤ n) → (n - p9) < fu → ∀ (ls : Array Slot), lv_has ls 21 [(16, .int (nI (p9))), (1, .ref ((bd b0) 0)), (2, .int (nI (n))), (15, .int (dI 0))] → W p l e room_1 s m #[.ref b] below meth c H [] (249) (30163) (lw_Z below #[.ref b] s) (F0 m 995 ls []) := by
    intro fu
    induction fu with
    | zero => intro p9 hp9 hms ls hl; exact absurd hms (Nat.not_lt_zero _)
    | succ fu ih995 =>
      intro p9 hp9 hms ls hl
      refine lv_iload hx hb dL_law_995 (lv_at hl 0 rfl) ?_
      refine lv_iload_n hx hb dL_law_997 rfl (lv_at hl 2 rfl) ?_
      refine lv_icmp_ge (tgt := 1047) hx hb dL_law_998 (by decide) (fun c_998 => ?_) (fun c_998 => ?_)
      · skip
        have c_998 := (nI_leI (by omega) (by omega)).mp c_998
        refine lv_iconst (v := nI (1)) hx hb dL_law_1047 (by decide) ?_
        exact W.widen (Nat.le_of_ble_eq_true rfl) (Nat.le_of_ble_eq_true rfl) (lw_ret hx hb hr hlk dL_law_1048)
      · skip
        have c_998 := (not_congr (nI_leI (by omega) (by omega))).mp c_998
        refine lv_iload hx hb dL_law_1001 (lv_at hl 3 rfl) ?_
        refine lv_if_ge (tgt := 1047) hx hb dL_law_1003 (by decide) (fun c_1003 => ?_) (fun c_1003 => ?_)
        · skip
          exact absurd c_1003 (by decide)
        · skip
          refine lv_aload_n hx hb dL_law_1006 rfl (lv_at hl 1 rfl) ?_
          refine lv_iload hx hb dL_law_1007 (lv_at hl 0 rfl) ?_
          refine lv_iconst (v := nI (0)) hx hb dL_law_1009 (by decide) ?_
          obtain ⟨fs_1, ho_1⟩ := hfo.ob
          refine kOp (M := 114) (k := 0) (As := [.int (nI (p9)), .int (nI (0))]) (rest := []) S hK hP (by omega) (by decide) (ob_place l D hfo (nI (p9)) (nI (0))) cv_L_71 ho_1 ⟨_, _, rfl⟩ ⟨rfl, rfl⟩ rfl hl.1 rfl (Nat.le_of_ble_eq_true rfl) hRC dL_law_1010 (fun r_1 q_1 => ?_)
          subst q_1
          refine tpi (y := nI (p9)) (pl_0 hq hv hn.2 (by omega)) ?_
          refine lv_iload hx hb dL_law_1013 (lv_at hl 0 rfl) ?_
          refine lv_icmp_ne (tgt := 1039) hx hb dL_law_1015 (by decide) (fun c_1015 => ?_) (fun c_1015 => ?_)
          · skip
            have c_1015 := (not_congr (nI_eq (by omega) (by omega))).mp c_1015
            exact absurd rfl c_1015
          · skip
            have c_1015 := (nI_eq (by omega) (by omega)).mp c_1015
            refine lv_aload_n hx hb dL_law_1018 rfl (lv_at hl 1 rfl) ?_
            refine lv_iload hx hb dL_law_1019 (lv_at hl 0 rfl) ?_
            refine lv_iconst (v := nI (1)) hx hb dL_law_1021 (by decide) ?_
            obtain ⟨fs_2, ho_2⟩ := hfo.ob
            refine kOp (M := 114) (k := 0) (As := [.int (nI (p9)), .int (nI (1))]) (rest := []) S hK hP (by omega) (by decide) (ob_place l D hfo (nI (p9)) (nI (1))) cv_L_71 ho_2 ⟨_, _, rfl⟩ ⟨rfl, rfl⟩ rfl hl.1 rfl (Nat.le_of_ble_eq_true rfl) hRC dL_law_1022 (fun r_2 q_2 => ?_)
            subst q_2
            refine tpi (y := nI (1)) (pl_1 hq hv hn.2 (by omega)) ?_
            refine lv_iconst (v := nI (1)) hx hb dL_law_1025 (by decide) ?_
            refine lv_icmp_ne (tgt := 1039) hx hb dL_law_1026 (by decide) (fun c_1026 => ?_) (fun c_1026 => ?_)
            · skip
              have c_1026 := (not_congr (nI_eq (by omega) (by omega))).mp c_1026
              exact absurd c_1026 (by decide)
            · skip
              have c_1026 := (nI_eq (by omega) (by omega)).mp c_1026
              refine lv_aload_n hx hb dL_law_1029 rfl (lv_at hl 1 rfl) ?_
              refine lv_iload hx hb dL_law_1030 (lv_at hl 0 rfl) ?_
              refine lv_iconst (v := nI (3)) hx hb dL_law_1032 (by decide) ?_
              obtain ⟨fs_3, ho_3⟩ := hfo.ob
              refine kOp (M := 114) (k := 0) (As := [.int (nI (p9)), .int (nI (3))]) (rest := []) S hK hP (by omega) (by decide) (ob_blade l D hfo (nI (p9)) (nI (3))) cv_L_74 ho_3 ⟨_, _, rfl⟩ ⟨rfl, rfl⟩ rfl hl.1 rfl (Nat.le_of_ble_eq_true rfl) hRC dL_law_1033 (fun r_3 q_3 => ?_)
              subst q_3
              refine tpi (y := nI (0)) (bl_3 hq hv hn.2 (by omega)) ?_
              refine lv_if_eq (tgt := 1041) hx hb dL_law_1036 (by decide) (fun c_1036 => ?_) (fun c_1036 => ?_)
              · skip
                have c_1036 := (z_eq (by omega)).mp c_1036
                refine lv_iinc (v := nI (p9 + 1)) (lv' := [(16, .int (nI (p9 + 1))), (1, .ref ((bd b0) 0)), (2, .int (nI (n))), (15, .int (dI 0))]) hx hb dL_law_1041 hl (k := 0) rfl (by exact nI_add p9 1) (by decide) rfl (fun ls hl => ?_)
                refine lv_goto (tgt := 995) hx hb dL_law_1044 (by decide) ?_
                exact ih995 (p9 + 1) (by omega) (by omega) _ (lv_sub hl [0, 1, 2, 3] rfl)
              · skip
                have c_1036 := (not_congr (z_eq (by omega))).mp c_1036
                exact absurd c_1036 (by decide)
  exact L995 ((n - 0) + 1) 0 (by omega) (Nat.lt_succ_self _) _ (lv_sub hl [0, 1, 2, 3] rfl)

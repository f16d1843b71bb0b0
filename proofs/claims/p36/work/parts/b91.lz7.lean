set_option maxHeartbeats 4000000 in
set_option maxRecDepth 100000 in
theorem lz7d {p : Program} {l : Launch} {e : Env} {s : State} {m : MethodId} {below : List Frame} {meth : Method} {c : Code} {D : va_G} {cy : Nat → ClassId} {b0 b L : Nat} {xs : Nat → Int32} {sq sv : Nat} (S : CallFix p m c cL_law 21 s #[.ref b] wsL_law RL) (hr : meth.sig.returnType = ret) (hlk : meth.locks = false) (hK : va_K D vwCl (tyv cy) s) (hN : NX s) (hX : va_X b L xs s s.heap) (hbl : b < s.heap.size) (hb0 : s.heap.size = b0) (hL : L < 1000) (hXF : XF (AB b0) sq sv s s.heap) {n : Nat} {a : Nat} {u : WT} {O : Nat → Nat} {BE : Nat → Nat} {lto : Int32} {Tto : Nat → Nat} {Flo : Nat → Nat} {FBo : Nat → Nat → Nat} {Vlo : Nat → Nat} {VVo : Nat → Nat → Nat} (hn : 4 ≤ n ∧ n ≤ 8) (ha : a ≤ 7) (hO4 : ∀ j, O j < 4) (hBE : ∀ j, j < 4 → BE j = Flo j) (hFG : FGS xs L n 4 Flo FBo) (hok : ∀ i, i < a → (dnR FBo Flo O (bgW n) i).2.1 = 0) (hQa : QW u (wsq FBo Flo O (bgW n) a)) (g : Nat → va_E) (H : Heap) (ls : Array Slot) (hm116 : g 116 = .inl (cy 1, 4, .inl (fun x9 => nI (BE x9)))) (hm125 : g 125 = .inl (cy 1, 8, .inl (fun x9 => nI (O x9)))) (hfo : OB9 cy (b0 + 0) (fun i => g (0 + i)) u 4 lto 2 0 Tto Flo FBo Vlo VVo) (hP : MM D (bd b0) (249) g H) (hS : va_S (AB b0) s.heap H []) (hl : lv_has ls 21 [(1, .ref ((bd b0) 0)), (2, .int (nI (n))), (5, .ref ((bd b0) 116)), (6, .ref ((bd b0) 125)), (8, .int (nI (a))), (15, .int (dI 0))]) : W p l e room_1 s m #[.ref b] below meth c H [] (249) (30163) (lw_Z below #[.ref b] s) (F0 m 948 ls []) := by
  have hx := S.1
  have hb := S.2.1
  have hI : MD (AB b0) (bd b0) (249) := bd_MD
  have hRC : 249 ≤ room_1.cells ∧ 30163 ≤ room_1.slots := ⟨(Nat.le_of_ble_eq_true rfl), (Nat.le_of_ble_eq_true rfl)⟩
  have hbA : ¬ AB b0 b := fun q => by unfold AB at q; omega
  refine lv_iload hx hb dL_law_948 (lv_at hl 4 rfl) ?_
  refine lv_iconst (v := nI (1)) hx hb dL_law_950 (by decide) ?_
  refine lv_isub hx hb dL_law_951 ?_
  refine tpi (dI_sub a) ?_
  refine lv_istore (lv' := [(16, .int (dI a)), (1, .ref ((bd b0) 0)), (2, .int (nI (n))), (5, .ref ((bd b0) 116)), (6, .ref ((bd b0) 125)), (8, .int (nI (a))), (15, .int (dI 0))]) hx hb dL_law_952 hl (by decide) rfl (fun ls hl => ?_)
  have L954 : ∀ (fu : Nat) (r : Nat) (uu : WT) (lt9 : Int32), (r ≤ a) → (QW uu (wsq FBo Flo O (bgW n) r)) → r < fu → ∀ (g_1 : Nat → va_E) (H : Heap), g_1 116 = .inl (cy 1, 4, .inl (fun x9 => nI (BE x9))) → g_1 125 = .inl (cy 1, 8, .inl (fun x9 => nI (O x9))) → (OB9 cy (b0 + 0) (fun i => g_1 (0 + i)) uu 4 lt9 2 0 Tto Flo FBo Vlo VVo) → MM D (bd b0) (249) g_1 H → va_S (AB b0) s.heap H [] → ∀ (ls : Array Slot), lv_has ls 21 [(16, .int (dI r)), (1, .ref ((bd b0) 0)), (2, .int (nI (n))), (5, .ref ((bd b0) 116)), (6, .ref ((bd b0) 125)), (8, .int (nI (a))), (15, .int (dI 0))] → W p l e room_1 s m #[.ref b] below meth c H [] (249) (30163) (lw_Z below #[.ref b] s) (F0 m 954 ls []) := by
    intro fu
    induction fu with
    | zero => intro r uu lt9 hr9 hQ hms g_1 H h116_1 h125_1 hfact_o_1 hP hS ls hl; exact absurd hms (Nat.not_lt_zero _)
    | succ fu ih954 =>
      intro r uu lt9 hr9 hQ hms g_1 H h116_1 h125_1 hfact_o_1 hP hS ls hl
      refine lv_iload hx hb dL_law_954 (lv_at hl 0 rfl) ?_
      refine lv_if_lt (tgt := 992) hx hb dL_law_956 (by decide) (fun c_956 => ?_) (fun c_956 => ?_)
      · skip
        have hr0 : r = 0 := dI_neg (by omega) rfl c_956
        exact lz8d S hr hlk hK hN hX hbl hb0 hL hXF (u := uu) (v := bgW n) hn (by rw [hr0] at hQ; exact hQ) rfl g_1 H _ hfact_o_1 hP hS (lv_sub hl [1, 2, 6] rfl)
      · skip
        obtain ⟨i, hi9⟩ := dI_pos (c := r) rfl c_956
        subst hi9
        have hl : lv_has ls 21 [(16, .int (nI (i))), (1, .ref ((bd b0) 0)), (2, .int (nI (n))), (5, .ref ((bd b0) 116)), (6, .ref ((bd b0) 125)), (8, .int (nI (a))), (15, .int (dI 0))] := by rw [dI_s] at hl; exact hl
        have hOi := hO4 i
        have hFi := hFG.le (hO4 i)
        refine lv_iload hx hb dL_law_959 (lv_at hl 6 rfl) ?_
        refine lv_if_ge (tgt := 992) hx hb dL_law_961 (by decide) (fun c_961 => ?_) (fun c_961 => ?_)
        · skip
          exact absurd c_961 (by decide)
        · skip
          refine lv_aload_n hx hb dL_law_964 rfl (lv_at hl 1 rfl) ?_
          refine lv_aload hx hb dL_law_965 (lv_at hl 4 rfl) ?_
          refine lv_iload hx hb dL_law_967 (lv_at hl 0 rfl) ?_
          refine mial S hK hP (by omega) h125_1 (vp_in_nI (by omega) (by omega)) dL_law_969 ?_
          refine tpi (congrArg ((fun x9 => nI (O x9))) (nI_clamp (by omega))) ?_
          have hbk := bk_ok (B := FBo (O i)) (len := Flo (O i)) hfact_o_1.bd.1 (wsq_ok (FB := FBo) (Fl := Flo) (V := O) (bgW_ok hn) i).1 (fun j hj => hFG.s (by omega) hn.2 (hO4 i) hj) (hok i (by omega)) hQ
          obtain ⟨fs_2, ho_2⟩ := hfact_o_1.ob
          refine kOi (M := 114) (k := 0) (As := [.int (nI (O i))]) (rest := []) S hK hP hS AA_AB (by omega) (by decide) (ob_back l D hfact_o_1 (f := O i) (hO4 i)) cv_L_80 ho_2 ⟨_, _, rfl⟩ ⟨rfl, rfl⟩ rfl hl.1 rfl (Nat.le_of_ble_eq_true rfl) hRC dL_law_970 (fun r_2 u_2 g_2 H locs q_2 i_2 f_2 hP hS => ?_)
          obtain ⟨hq9, hS⟩ := SB_fresh hb0 hS
          refine W.fresh hq9 ?_
          obtain ⟨q_2, o_2⟩ := q_2
          subst q_2
          have hfact_o_2 : OB9 cy (b0 + 0) (fun i => g_2 (0 + i)) ((bkW (FBo (O i)) (Flo (O i)) uu).2.2.1) 4 ((bkW (FBo (O i)) (Flo (O i)) uu).2.1) 2 0 Tto Flo FBo Vlo VVo := o_2.fr i_2
          have h116_2 : g_2 116 = .inl (cy 1, 4, .inl (fun x9 => nI (BE x9))) := (f_2 116 (by omega)).trans h116_1
          have h125_2 : g_2 125 = .inl (cy 1, 8, .inl (fun x9 => nI (O x9))) := (f_2 125 (by omega)).trans h125_1
          refine tpi (y := nI (Flo (O i))) (hbk.1) ?_
          refine lv_aload hx hb dL_law_973 (lv_at hl 3 rfl) ?_
          refine lv_aload hx hb dL_law_975 (lv_at hl 4 rfl) ?_
          refine lv_iload hx hb dL_law_977 (lv_at hl 0 rfl) ?_
          refine mial S hK hP (by omega) h125_2 (vp_in_nI (by omega) (by omega)) dL_law_979 ?_
          refine tpi (congrArg ((fun x9 => nI (O x9))) (nI_clamp (by omega))) ?_
          refine mial S hK hP (by omega) h116_2 (vp_in_nI (by omega) (by omega)) dL_law_980 ?_
          refine tpi (congrArg ((fun x9 => nI (BE x9))) (nI_clamp (by omega))) ?_
          refine tpi (y := nI (Flo (O i))) (congrArg nI (hBE _ (hO4 i))) ?_
          refine lv_icmp_eq (tgt := 986) hx hb dL_law_981 (by decide) (fun c_981 => ?_) (fun c_981 => ?_)
          · skip
            have c_981 := (nI_eq (by omega) (by omega)).mp c_981
            refine lv_iinc (v := dI i) (lv' := [(16, .int (dI i)), (1, .ref ((bd b0) 0)), (2, .int (nI (n))), (5, .ref ((bd b0) 116)), (6, .ref ((bd b0) 125)), (8, .int (nI (a))), (15, .int (dI 0))]) hx hb dL_law_986 hl (k := 0) rfl rfl (by decide) rfl (fun ls hl => ?_)
            refine lv_goto (tgt := 954) hx hb dL_law_989 (by decide) ?_
            exact ih954 i ((bkW (FBo (O i)) (Flo (O i)) uu).2.2.1) ((bkW (FBo (O i)) (Flo (O i)) uu).2.1) (by omega) hbk.2 (by omega) g_2 _ h116_2 h125_2 hfact_o_2 hP hS _ (lv_sub hl [0, 1, 2, 3, 4, 5, 6] rfl)
          · skip
            have c_981 := (not_congr (nI_eq (by omega) (by omega))).mp c_981
            exact absurd rfl c_981
  exact L954 (a + 1) a u lto (by omega) hQa (Nat.lt_succ_self _) g _ hm116 hm125 hfo hP hS _ (lv_sub hl [0, 1, 2, 3, 4, 5, 6] rfl)
set_option maxHeartbeats 4000000 in
set_option maxRecDepth 100000 in
theorem lz7s {p : Program} {l : Launch} {e : Env} {s : State} {m : MethodId} {below : List Frame} {meth : Method} {c : Code} {D : va_G} {cy : Nat → ClassId} {b0 b L : Nat} {xs : Nat → Int32} {sq sv : Nat} (S : CallFix p m c cL_law 21 s #[.ref b] wsL_law RL) (hr : meth.sig.returnType = ret) (hlk : meth.locks = false) (hK : va_K D vwCl (tyv cy) s) (hN : NX s) (hX : va_X b L xs s s.heap) (hbl : b < s.heap.size) (hb0 : s.heap.size = b0) (hL : L < 1000) (hXF : XF (AB b0) sq sv s s.heap) {n : Nat} {a : Nat} {j : Nat} {u : WT} {lto : Int32} {Tto : Nat → Nat} {Flo : Nat → Nat} {FBo : Nat → Nat → Nat} {Vlo : Nat → Nat} {VVo : Nat → Nat → Nat} (hn : 4 ≤ n ∧ n ≤ 8) (ha : a ≤ 7) (hj : j < a) (g : Nat → va_E) (H : Heap) (ls : Array Slot) (hfo : OB9 cy (b0 + 0) (fun i => g (0 + i)) u 4 lto 2 0 Tto Flo FBo Vlo VVo) (hP : MM D (bd b0) (249) g H) (hS : va_S (AB b0) s.heap H []) (hl : lv_has ls 21 [(1, .ref ((bd b0) 0)), (2, .int (nI (n))), (8, .int (nI (a))), (15, .int (nI (j)))]) : W p l e room_1 s m #[.ref b] below meth c H [] (249) (30163) (lw_Z below #[.ref b] s) (F0 m 948 ls []) := by
  have hx := S.1
  have hb := S.2.1
  have hI : MD (AB b0) (bd b0) (249) := bd_MD
  have hRC : 249 ≤ room_1.cells ∧ 30163 ≤ room_1.slots := ⟨(Nat.le_of_ble_eq_true rfl), (Nat.le_of_ble_eq_true rfl)⟩
  have hbA : ¬ AB b0 b := fun q => by unfold AB at q; omega
  refine lv_iload hx hb dL_law_948 (lv_at hl 2 rfl) ?_
  refine lv_iconst (v := nI (1)) hx hb dL_law_950 (by decide) ?_
  refine lv_isub hx hb dL_law_951 ?_
  refine tpi (pk_sub (a := a) (b := 1) (by omega)) ?_
  refine lv_istore (lv' := [(16, .int (nI (a - 1))), (1, .ref ((bd b0) 0)), (2, .int (nI (n))), (8, .int (nI (a))), (15, .int (nI (j)))]) hx hb dL_law_952 hl (by decide) rfl (fun ls hl => ?_)
  refine lv_iload hx hb dL_law_954 (lv_at hl 0 rfl) ?_
  refine lv_if_lt (tgt := 992) hx hb dL_law_956 (by decide) (fun c_956 => ?_) (fun c_956 => ?_)
  · skip
    have c_956 := (z_lt (by omega)).mp c_956
    exact c_956.elim
  · skip
    have c_956 := (not_congr (z_lt (by omega))).mp c_956
    refine lv_iload hx hb dL_law_959 (lv_at hl 4 rfl) ?_
    refine lv_if_ge (tgt := 992) hx hb dL_law_961 (by decide) (fun c_961 => ?_) (fun c_961 => ?_)
    · skip
      have c_961 := (z_ge (by omega)).mp c_961
      exact lz8s S hr hlk hK hN hX hbl hb0 hL hXF hn (by omega) g H _ hfo hP hS (lv_sub hl [1, 2, 4] rfl)
    · skip
      have c_961 := (not_congr (z_ge (by omega))).mp c_961
      exact (c_961 trivial).elim
set_option maxHeartbeats 4000000 in
set_option maxRecDepth 100000 in
theorem lz6d {p : Program} {l : Launch} {e : Env} {s : State} {m : MethodId} {below : List Frame} {meth : Method} {c : Code} {D : va_G} {cy : Nat → ClassId} {b0 b L : Nat} {xs : Nat → Int32} {sq sv : Nat} (S : CallFix p m c cL_law 21 s #[.ref b] wsL_law RL) (hr : meth.sig.returnType = ret) (hlk : meth.locks = false) (hK : va_K D vwCl (tyv cy) s) (hN : NX s) (hX : va_X b L xs s s.heap) (hbl : b < s.heap.size) (hb0 : s.heap.size = b0) (hL : L < 1000) (hXF : XF (AB b0) sq sv s s.heap) {n : Nat} {a : Nat} {v : WT} {lto : Int32} {Tto : Nat → Nat} {Flo : Nat → Nat} {FBo : Nat → Nat → Nat} {Vlo : Nat → Nat} {VVo : Nat → Nat → Nat} {ltq : Int32} {Ttq : Nat → Nat} {Flq : Nat → Nat} {FBq : Nat → Nat → Nat} {Vlq : Nat → Nat} {VVq : Nat → Nat → Nat} {O : Nat → Nat} {BE : Nat → Nat} (hn : 4 ≤ n ∧ n ≤ 8) (ha : a ≤ 7) (hO4 : ∀ j, O j < 4) (hBE : ∀ j, j < 4 → BE j = Flo j) (hFG : FGS xs L n 4 Flo FBo) (hok : ∀ i, i < a → (dnR FBo Flo O (bgW n) i).2.1 = 0) (hQa : QW v (wsq FBo Flo O (bgW n) a)) (g : Nat → va_E) (H : Heap) (ls : Array Slot) (hm116 : g 116 = .inl (cy 1, 4, .inl (fun x9 => nI (BE x9)))) (hm125 : g 125 = .inl (cy 1, 8, .inl (fun x9 => nI (O x9)))) (hfo : OB9 cy (b0 + 0) (fun i => g (0 + i)) v 4 lto 2 0 Tto Flo FBo Vlo VVo) (hfq : OB9 cy (b0 + 127) (fun i => g (127 + i)) v 4 ltq 0 0 Ttq Flq FBq Vlq VVq) (hP : MM D (bd b0) (249) g H) (hS : va_S (AB b0) s.heap H []) (hl : lv_has ls 21 [(1, .ref ((bd b0) 0)), (2, .int (nI (n))), (5, .ref ((bd b0) 116)), (6, .ref ((bd b0) 125)), (8, .int (nI (a))), (14, .ref ((bd b0) 127)), (15, .int (dI 0))]) : W p l e room_1 s m #[.ref b] below meth c H [] (249) (30163) (lw_Z below #[.ref b] s) (F0 m 840 ls []) := by
  have hx := S.1
  have hb := S.2.1
  have hI : MD (AB b0) (bd b0) (249) := bd_MD
  have hRC : 249 ≤ room_1.cells ∧ 30163 ≤ room_1.slots := ⟨(Nat.le_of_ble_eq_true rfl), (Nat.le_of_ble_eq_true rfl)⟩
  have hbA : ¬ AB b0 b := fun q => by unfold AB at q; omega
  refine lv_iconst (v := nI (0)) hx hb dL_law_840 (by decide) ?_
  refine lv_istore (lv' := [(16, .int (nI (0))), (1, .ref ((bd b0) 0)), (2, .int (nI (n))), (5, .ref ((bd b0) 116)), (6, .ref ((bd b0) 125)), (8, .int (nI (a))), (14, .ref ((bd b0) 127)), (15, .int (dI 0))]) hx hb dL_law_841 hl (by decide) rfl (fun ls hl => ?_)
  have L843 : ∀ (fu : Nat) (p9 : Nat), (p9 ≤ n) → (n - p9) < fu → ∀ (ls : Array Slot), lv_has ls 21 [(16, .int (nI (p9))), (1, .ref ((bd b0) 0)), (2, .int (nI (n))), (5, .ref ((bd b0) 116)), (6, .ref ((bd b0) 125)), (8, .int (nI (a))), (14, .ref ((bd b0) 127)), (15, .int (dI 0))] → W p l e room_1 s m #[.ref b] below meth c H [] (249) (30163) (lw_Z below #[.ref b] s) (F0 m 843 ls []) := by
    intro fu
    induction fu with
    | zero => intro p9 hp9 hms ls hl; exact absurd hms (Nat.not_lt_zero _)
    | succ fu ih843 =>
      intro p9 hp9 hms ls hl
      refine lv_iload hx hb dL_law_843 (lv_at hl 0 rfl) ?_
      refine lv_iload_n hx hb dL_law_845 rfl (lv_at hl 2 rfl) ?_
      refine lv_icmp_ge (tgt := 948) hx hb dL_law_846 (by decide) (fun c_846 => ?_) (fun c_846 => ?_)
      · skip
        have c_846 := (nI_leI (by omega) (by omega)).mp c_846
        exact lz7d S hr hlk hK hN hX hbl hb0 hL hXF (u := v) hn ha hO4 hBE hFG hok hQa g H _ hm116 hm125 hfo hP hS (lv_sub hl [1, 2, 3, 4, 5, 7] rfl)
      · skip
        have c_846 := (not_congr (nI_leI (by omega) (by omega))).mp c_846
        refine lv_aload_n hx hb dL_law_849 rfl (lv_at hl 1 rfl) ?_
        refine lv_iload hx hb dL_law_850 (lv_at hl 0 rfl) ?_
        refine lv_iconst (v := nI (0)) hx hb dL_law_852 (by decide) ?_
        obtain ⟨fs_1, ho_1⟩ := hfo.ob
        refine kOp (M := 114) (k := 0) (As := [.int (nI (p9)), .int (nI (0))]) (rest := []) S hK hP (by omega) (by decide) (ob_place l D hfo (nI (p9)) (nI (0))) cv_L_71 ho_1 ⟨_, _, rfl⟩ ⟨rfl, rfl⟩ rfl hl.1 rfl (Nat.le_of_ble_eq_true rfl) hRC dL_law_853 (fun r_1 q_1 => ?_)
        subst q_1
        refine lv_aload hx hb dL_law_856 (lv_at hl 6 rfl) ?_
        refine lv_iload hx hb dL_law_858 (lv_at hl 0 rfl) ?_
        refine lv_iconst (v := nI (0)) hx hb dL_law_860 (by decide) ?_
        obtain ⟨fs_2, ho_2⟩ := hfq.ob
        refine kOp (M := 114) (k := 127) (As := [.int (nI (p9)), .int (nI (0))]) (rest := [.int (plA v (nI (p9)) (nI (0)))]) S hK hP (by omega) (by decide) (ob_place l D hfq (nI (p9)) (nI (0))) cv_L_71 ho_2 ⟨_, _, rfl⟩ ⟨rfl, rfl⟩ rfl hl.1 rfl (Nat.le_of_ble_eq_true rfl) hRC dL_law_861 (fun r_2 q_2 => ?_)
        subst q_2
        refine lv_icmp_ne (tgt := 903) hx hb dL_law_864 (by decide) (fun c_864 => ?_) (fun c_864 => ?_)
        · skip
          exact absurd rfl c_864
        · skip
          refine lv_aload_n hx hb dL_law_867 rfl (lv_at hl 1 rfl) ?_
          refine lv_iload hx hb dL_law_868 (lv_at hl 0 rfl) ?_
          refine lv_iconst (v := nI (1)) hx hb dL_law_870 (by decide) ?_
          obtain ⟨fs_3, ho_3⟩ := hfo.ob
          refine kOp (M := 114) (k := 0) (As := [.int (nI (p9)), .int (nI (1))]) (rest := []) S hK hP (by omega) (by decide) (ob_blade l D hfo (nI (p9)) (nI (1))) cv_L_74 ho_3 ⟨_, _, rfl⟩ ⟨rfl, rfl⟩ rfl hl.1 rfl (Nat.le_of_ble_eq_true rfl) hRC dL_law_871 (fun r_3 q_3 => ?_)
          subst q_3
          refine lv_aload hx hb dL_law_874 (lv_at hl 6 rfl) ?_
          refine lv_iload hx hb dL_law_876 (lv_at hl 0 rfl) ?_
          refine lv_iconst (v := nI (1)) hx hb dL_law_878 (by decide) ?_
          obtain ⟨fs_4, ho_4⟩ := hfq.ob
          refine kOp (M := 114) (k := 127) (As := [.int (nI (p9)), .int (nI (1))]) (rest := [.int (if isI (nI (p9)) (wn v) then blN v (nI (p9)).toNatClampNeg (nI (1)) else -1)]) S hK hP (by omega) (by decide) (ob_blade l D hfq (nI (p9)) (nI (1))) cv_L_74 ho_4 ⟨_, _, rfl⟩ ⟨rfl, rfl⟩ rfl hl.1 rfl (Nat.le_of_ble_eq_true rfl) hRC dL_law_879 (fun r_4 q_4 => ?_)
          subst q_4
          refine lv_icmp_ne (tgt := 903) hx hb dL_law_882 (by decide) (fun c_882 => ?_) (fun c_882 => ?_)
          · skip
            exact absurd rfl c_882
          · skip
            refine lv_aload_n hx hb dL_law_885 rfl (lv_at hl 1 rfl) ?_
            refine lv_iload hx hb dL_law_886 (lv_at hl 0 rfl) ?_
            refine lv_iconst (v := nI (3)) hx hb dL_law_888 (by decide) ?_
            obtain ⟨fs_5, ho_5⟩ := hfo.ob
            refine kOp (M := 114) (k := 0) (As := [.int (nI (p9)), .int (nI (3))]) (rest := []) S hK hP (by omega) (by decide) (ob_blade l D hfo (nI (p9)) (nI (3))) cv_L_74 ho_5 ⟨_, _, rfl⟩ ⟨rfl, rfl⟩ rfl hl.1 rfl (Nat.le_of_ble_eq_true rfl) hRC dL_law_889 (fun r_5 q_5 => ?_)
            subst q_5
            refine lv_aload hx hb dL_law_892 (lv_at hl 6 rfl) ?_
            refine lv_iload hx hb dL_law_894 (lv_at hl 0 rfl) ?_
            refine lv_iconst (v := nI (3)) hx hb dL_law_896 (by decide) ?_
            obtain ⟨fs_6, ho_6⟩ := hfq.ob
            refine kOp (M := 114) (k := 127) (As := [.int (nI (p9)), .int (nI (3))]) (rest := [.int (if isI (nI (p9)) (wn v) then blN v (nI (p9)).toNatClampNeg (nI (3)) else -1)]) S hK hP (by omega) (by decide) (ob_blade l D hfq (nI (p9)) (nI (3))) cv_L_74 ho_6 ⟨_, _, rfl⟩ ⟨rfl, rfl⟩ rfl hl.1 rfl (Nat.le_of_ble_eq_true rfl) hRC dL_law_897 (fun r_6 q_6 => ?_)
            subst q_6
            refine lv_icmp_eq (tgt := 905) hx hb dL_law_900 (by decide) (fun c_900 => ?_) (fun c_900 => ?_)
            · skip
              refine lv_iconst (v := nI (0)) hx hb dL_law_905 (by decide) ?_
              refine lv_istore (lv' := [(17, .int (nI (0))), (16, .int (nI (p9))), (1, .ref ((bd b0) 0)), (2, .int (nI (n))), (5, .ref ((bd b0) 116)), (6, .ref ((bd b0) 125)), (8, .int (nI (a))), (14, .ref ((bd b0) 127)), (15, .int (dI 0))]) hx hb dL_law_906 hl (by decide) rfl (fun ls hl => ?_)
              have L908 : ∀ (fu : Nat) (j9 : Nat), (j9 ≤ n) → (n - j9) < fu → ∀ (ls : Array Slot), lv_has ls 21 [(17, .int (nI (j9))), (16, .int (nI (p9))), (1, .ref ((bd b0) 0)), (2, .int (nI (n))), (5, .ref ((bd b0) 116)), (6, .ref ((bd b0) 125)), (8, .int (nI (a))), (14, .ref ((bd b0) 127)), (15, .int (dI 0))] → W p l e room_1 s m #[.ref b] below meth c H [] (249) (30163) (lw_Z below #[.ref b] s) (F0 m 908 ls []) := by
                intro fu
                induction fu with
                | zero => intro j9 hj9 hms ls hl; exact absurd hms (Nat.not_lt_zero _)
                | succ fu ih908 =>
                  intro j9 hj9 hms ls hl
                  refine lv_iload hx hb dL_law_908 (lv_at hl 0 rfl) ?_
                  refine lv_iload_n hx hb dL_law_910 rfl (lv_at hl 3 rfl) ?_
                  refine lv_icmp_ge (tgt := 942) hx hb dL_law_911 (by decide) (fun c_911 => ?_) (fun c_911 => ?_)
                  · skip
                    have c_911 := (nI_leI (by omega) (by omega)).mp c_911
                    refine lv_iinc (v := nI (p9 + 1)) (lv' := [(16, .int (nI (p9 + 1))), (17, .int (nI (j9))), (1, .ref ((bd b0) 0)), (2, .int (nI (n))), (5, .ref ((bd b0) 116)), (6, .ref ((bd b0) 125)), (8, .int (nI (a))), (14, .ref ((bd b0) 127)), (15, .int (dI 0))]) hx hb dL_law_942 hl (k := 1) rfl (by exact nI_add p9 1) (by decide) rfl (fun ls hl => ?_)
                    refine lv_goto (tgt := 843) hx hb dL_law_945 (by decide) ?_
                    exact ih843 (p9 + 1) (by omega) (by omega) _ (lv_sub hl [0, 2, 3, 4, 5, 6, 7, 8] rfl)
                  · skip
                    have c_911 := (not_congr (nI_leI (by omega) (by omega))).mp c_911
                    refine lv_aload_n hx hb dL_law_914 rfl (lv_at hl 2 rfl) ?_
                    refine lv_iload hx hb dL_law_915 (lv_at hl 1 rfl) ?_
                    refine lv_iload hx hb dL_law_917 (lv_at hl 0 rfl) ?_
                    obtain ⟨fs_7, ho_7⟩ := hfo.ob
                    refine kOp (M := 114) (k := 0) (As := [.int (nI (p9)), .int (nI (j9))]) (rest := []) S hK hP (by omega) (by decide) (ob_over l D hfo (nI (p9)) (nI (j9))) cv_L_77 ho_7 ⟨_, _, rfl⟩ ⟨rfl, rfl⟩ rfl hl.1 rfl (Nat.le_of_ble_eq_true rfl) hRC dL_law_919 (fun r_7 q_7 => ?_)
                    subst q_7
                    refine lv_aload hx hb dL_law_922 (lv_at hl 7 rfl) ?_
                    refine lv_iload hx hb dL_law_924 (lv_at hl 1 rfl) ?_
                    refine lv_iload hx hb dL_law_926 (lv_at hl 0 rfl) ?_
                    obtain ⟨fs_8, ho_8⟩ := hfq.ob
                    refine kOp (M := 114) (k := 127) (As := [.int (nI (p9)), .int (nI (j9))]) (rest := [.int (ovA v (nI (p9)) (nI (j9)))]) S hK hP (by omega) (by decide) (ob_over l D hfq (nI (p9)) (nI (j9))) cv_L_77 ho_8 ⟨_, _, rfl⟩ ⟨rfl, rfl⟩ rfl hl.1 rfl (Nat.le_of_ble_eq_true rfl) hRC dL_law_928 (fun r_8 q_8 => ?_)
                    subst q_8
                    refine lv_icmp_eq (tgt := 936) hx hb dL_law_931 (by decide) (fun c_931 => ?_) (fun c_931 => ?_)
                    · skip
                      refine lv_iinc (v := nI (j9 + 1)) (lv' := [(17, .int (nI (j9 + 1))), (16, .int (nI (p9))), (1, .ref ((bd b0) 0)), (2, .int (nI (n))), (5, .ref ((bd b0) 116)), (6, .ref ((bd b0) 125)), (8, .int (nI (a))), (14, .ref ((bd b0) 127)), (15, .int (dI 0))]) hx hb dL_law_936 hl (k := 0) rfl (by exact nI_add j9 1) (by decide) rfl (fun ls hl => ?_)
                      refine lv_goto (tgt := 908) hx hb dL_law_939 (by decide) ?_
                      exact ih908 (j9 + 1) (by omega) (by omega) _ (lv_sub hl [0, 1, 2, 3, 4, 5, 6, 7, 8] rfl)
                    · skip
                      exact absurd rfl c_931
              exact L908 ((n - 0) + 1) 0 (by omega) (Nat.lt_succ_self _) _ (lv_sub hl [0, 1, 2, 3, 4, 5, 6, 7, 8] rfl)
            · skip
              exact absurd rfl c_900
  exact L843 ((n - 0) + 1) 0 (by omega) (Nat.lt_succ_self _) _ (lv_sub hl [0, 1, 2, 3, 4, 5, 6, 7] rfl)
set_option maxHeartbeats 4000000 in
set_option maxRecDepth 100000 in
theorem lz6s {p : Program} {l : Launch} {e : Env} {s : State} {m : MethodId} {below : List Frame} {meth : Method} {c : Code} {D : va_G} {cy : Nat → ClassId} {b0 b L : Nat} {xs : Nat → Int32} {sq sv : Nat} (S : CallFix p m c cL_law 21 s #[.ref b] wsL_law RL) (hr : meth.sig.returnType = ret) (hlk : meth.locks = false) (hK : va_K D vwCl (tyv cy) s) (hN : NX s) (hX : va_X b L xs s s.heap) (hbl : b < s.heap.size) (hb0 : s.heap.size = b0) (hL : L < 1000) (hXF : XF (AB b0) sq sv s s.heap) {n : Nat} {a : Nat} {v : WT} {lto : Int32} {Tto : Nat → Nat} {Flo : Nat → Nat} {FBo : Nat → Nat → Nat} {Vlo : Nat → Nat} {VVo : Nat → Nat → Nat} {ltq : Int32} {Ttq : Nat → Nat} {Flq : Nat → Nat} {FBq : Nat → Nat → Nat} {Vlq : Nat → Nat} {VVq : Nat → Nat → Nat} {j : Nat} (hn : 4 ≤ n ∧ n ≤ 8) (ha : a ≤ 7) (hj : j < a) (g : Nat → va_E) (H : Heap) (ls : Array Slot) (hfo : OB9 cy (b0 + 0) (fun i => g (0 + i)) v 4 lto 2 0 Tto Flo FBo Vlo VVo) (hfq : OB9 cy (b0 + 127) (fun i => g (127 + i)) v 4 ltq 0 0 Ttq Flq FBq Vlq VVq) (hP : MM D (bd b0) (249) g H) (hS : va_S (AB b0) s.heap H []) (hl : lv_has ls 21 [(1, .ref ((bd b0) 0)), (2, .int (nI (n))), (8, .int (nI (a))), (14, .ref ((bd b0) 127)), (15, .int (nI (j)))]) : W p l e room_1 s m #[.ref b] below meth c H [] (249) (30163) (lw_Z below #[.ref b] s) (F0 m 840 ls []) := by
  have hx := S.1
  have hb := S.2.1
  have hI : MD (AB b0) (bd b0) (249) := bd_MD
  have hRC : 249 ≤ room_1.cells ∧ 30163 ≤ room_1.slots := ⟨(Nat.le_of_ble_eq_true rfl), (Nat.le_of_ble_eq_true rfl)⟩
  have hbA : ¬ AB b0 b := fun q => by unfold AB at q; omega
  refine lv_iconst (v := nI (0)) hx hb dL_law_840 (by decide) ?_
  refine lv_istore (lv' := [(16, .int (nI (0))), (1, .ref ((bd b0) 0)), (2, .int (nI (n))), (8, .int (nI (a))), (14, .ref ((bd b0) 127)), (15, .int (nI (j)))]) hx hb dL_law_841 hl (by decide) rfl (fun ls hl => ?_)
  have L843 : ∀ (fu : Nat) (p9 : Nat), (p9 ≤ n) → (n - p9) < fu → ∀ (ls : Array Slot), lv_has ls 21 [(16, .int (nI (p9))), (1, .ref ((bd b0) 0)), (2, .int (nI (n))), (8, .int (nI (a))), (14, .ref ((bd b0) 127)), (15, .int (nI (j)))] → W p l e room_1 s m #[.ref b] below meth c H [] (249) (30163) (lw_Z below #[.ref b] s) (F0 m 843 ls []) := by
    intro fu
    induction fu with
    | zero => intro p9 hp9 hms ls hl; exact absurd hms (Nat.not_lt_zero _)
    | succ fu ih843 =>
      intro p9 hp9 hms ls hl
      refine lv_iload hx hb dL_law_843 (lv_at hl 0 rfl) ?_
      refine lv_iload_n hx hb dL_law_845 rfl (lv_at hl 2 rfl) ?_
      refine lv_icmp_ge (tgt := 948) hx hb dL_law_846 (by decide) (fun c_846 => ?_) (fun c_846 => ?_)
      · skip
        have c_846 := (nI_leI (by omega) (by omega)).mp c_846
        exact lz7s S hr hlk hK hN hX hbl hb0 hL hXF (u := v) hn ha hj g H _ hfo hP hS (lv_sub hl [1, 2, 3, 5] rfl)
      · skip
        have c_846 := (not_congr (nI_leI (by omega) (by omega))).mp c_846
        refine lv_aload_n hx hb dL_law_849 rfl (lv_at hl 1 rfl) ?_
        refine lv_iload hx hb dL_law_850 (lv_at hl 0 rfl) ?_
        refine lv_iconst (v := nI (0)) hx hb dL_law_852 (by decide) ?_
        obtain ⟨fs_1, ho_1⟩ := hfo.ob
        refine kOp (M := 114) (k := 0) (As := [.int (nI (p9)), .int (nI (0))]) (rest := []) S hK hP (by omega) (by decide) (ob_place l D hfo (nI (p9)) (nI (0))) cv_L_71 ho_1 ⟨_, _, rfl⟩ ⟨rfl, rfl⟩ rfl hl.1 rfl (Nat.le_of_ble_eq_true rfl) hRC dL_law_853 (fun r_1 q_1 => ?_)
        subst q_1
        refine lv_aload hx hb dL_law_856 (lv_at hl 4 rfl) ?_
        refine lv_iload hx hb dL_law_858 (lv_at hl 0 rfl) ?_
        refine lv_iconst (v := nI (0)) hx hb dL_law_860 (by decide) ?_
        obtain ⟨fs_2, ho_2⟩ := hfq.ob
        refine kOp (M := 114) (k := 127) (As := [.int (nI (p9)), .int (nI (0))]) (rest := [.int (plA v (nI (p9)) (nI (0)))]) S hK hP (by omega) (by decide) (ob_place l D hfq (nI (p9)) (nI (0))) cv_L_71 ho_2 ⟨_, _, rfl⟩ ⟨rfl, rfl⟩ rfl hl.1 rfl (Nat.le_of_ble_eq_true rfl) hRC dL_law_861 (fun r_2 q_2 => ?_)
        subst q_2
        refine lv_icmp_ne (tgt := 903) hx hb dL_law_864 (by decide) (fun c_864 => ?_) (fun c_864 => ?_)
        · skip
          exact absurd rfl c_864
        · skip
          refine lv_aload_n hx hb dL_law_867 rfl (lv_at hl 1 rfl) ?_
          refine lv_iload hx hb dL_law_868 (lv_at hl 0 rfl) ?_
          refine lv_iconst (v := nI (1)) hx hb dL_law_870 (by decide) ?_
          obtain ⟨fs_3, ho_3⟩ := hfo.ob
          refine kOp (M := 114) (k := 0) (As := [.int (nI (p9)), .int (nI (1))]) (rest := []) S hK hP (by omega) (by decide) (ob_blade l D hfo (nI (p9)) (nI (1))) cv_L_74 ho_3 ⟨_, _, rfl⟩ ⟨rfl, rfl⟩ rfl hl.1 rfl (Nat.le_of_ble_eq_true rfl) hRC dL_law_871 (fun r_3 q_3 => ?_)
          subst q_3
          refine lv_aload hx hb dL_law_874 (lv_at hl 4 rfl) ?_
          refine lv_iload hx hb dL_law_876 (lv_at hl 0 rfl) ?_
          refine lv_iconst (v := nI (1)) hx hb dL_law_878 (by decide) ?_
          obtain ⟨fs_4, ho_4⟩ := hfq.ob
          refine kOp (M := 114) (k := 127) (As := [.int (nI (p9)), .int (nI (1))]) (rest := [.int (if isI (nI (p9)) (wn v) then blN v (nI (p9)).toNatClampNeg (nI (1)) else -1)]) S hK hP (by omega) (by decide) (ob_blade l D hfq (nI (p9)) (nI (1))) cv_L_74 ho_4 ⟨_, _, rfl⟩ ⟨rfl, rfl⟩ rfl hl.1 rfl (Nat.le_of_ble_eq_true rfl) hRC dL_law_879 (fun r_4 q_4 => ?_)
          subst q_4
          refine lv_icmp_ne (tgt := 903) hx hb dL_law_882 (by decide) (fun c_882 => ?_) (fun c_882 => ?_)
          · skip
            exact absurd rfl c_882
          · skip
            refine lv_aload_n hx hb dL_law_885 rfl (lv_at hl 1 rfl) ?_
            refine lv_iload hx hb dL_law_886 (lv_at hl 0 rfl) ?_
            refine lv_iconst (v := nI (3)) hx hb dL_law_888 (by decide) ?_
            obtain ⟨fs_5, ho_5⟩ := hfo.ob
            refine kOp (M := 114) (k := 0) (As := [.int (nI (p9)), .int (nI (3))]) (rest := []) S hK hP (by omega) (by decide) (ob_blade l D hfo (nI (p9)) (nI (3))) cv_L_74 ho_5 ⟨_, _, rfl⟩ ⟨rfl, rfl⟩ rfl hl.1 rfl (Nat.le_of_ble_eq_true rfl) hRC dL_law_889 (fun r_5 q_5 => ?_)
            subst q_5
            refine lv_aload hx hb dL_law_892 (lv_at hl 4 rfl) ?_
            refine lv_iload hx hb dL_law_894 (lv_at hl 0 rfl) ?_
            refine lv_iconst (v := nI (3)) hx hb dL_law_896 (by decide) ?_
            obtain ⟨fs_6, ho_6⟩ := hfq.ob
            refine kOp (M := 114) (k := 127) (As := [.int (nI (p9)), .int (nI (3))]) (rest := [.int (if isI (nI (p9)) (wn v) then blN v (nI (p9)).toNatClampNeg (nI (3)) else -1)]) S hK hP (by omega) (by decide) (ob_blade l D hfq (nI (p9)) (nI (3))) cv_L_74 ho_6 ⟨_, _, rfl⟩ ⟨rfl, rfl⟩ rfl hl.1 rfl (Nat.le_of_ble_eq_true rfl) hRC dL_law_897 (fun r_6 q_6 => ?_)
            subst q_6
            refine lv_icmp_eq (tgt := 905) hx hb dL_law_900 (by decide) (fun c_900 => ?_) (fun c_900 => ?_)
            · skip
              refine lv_iconst (v := nI (0)) hx hb dL_law_905 (by decide) ?_
              refine lv_istore (lv' := [(17, .int (nI (0))), (16, .int (nI (p9))), (1, .ref ((bd b0) 0)), (2, .int (nI (n))), (8, .int (nI (a))), (14, .ref ((bd b0) 127)), (15, .int (nI (j)))]) hx hb dL_law_906 hl (by decide) rfl (fun ls hl => ?_)
              have L908 : ∀ (fu : Nat) (j9 : Nat), (j9 ≤ n) → (n - j9) < fu → ∀ (ls : Array Slot), lv_has ls 21 [(17, .int (nI (j9))), (16, .int (nI (p9))), (1, .ref ((bd b0) 0)), (2, .int (nI (n))), (8, .int (nI (a))), (14, .ref ((bd b0) 127)), (15, .int (nI (j)))] → W p l e room_1 s m #[.ref b] below meth c H [] (249) (30163) (lw_Z below #[.ref b] s) (F0 m 908 ls []) := by
                intro fu
                induction fu with
                | zero => intro j9 hj9 hms ls hl; exact absurd hms (Nat.not_lt_zero _)
                | succ fu ih908 =>
                  intro j9 hj9 hms ls hl
                  refine lv_iload hx hb dL_law_908 (lv_at hl 0 rfl) ?_
                  refine lv_iload_n hx hb dL_law_910 rfl (lv_at hl 3 rfl) ?_
                  refine lv_icmp_ge (tgt := 942) hx hb dL_law_911 (by decide) (fun c_911 => ?_) (fun c_911 => ?_)
                  · skip
                    have c_911 := (nI_leI (by omega) (by omega)).mp c_911
                    refine lv_iinc (v := nI (p9 + 1)) (lv' := [(16, .int (nI (p9 + 1))), (17, .int (nI (j9))), (1, .ref ((bd b0) 0)), (2, .int (nI (n))), (8, .int (nI (a))), (14, .ref ((bd b0) 127)), (15, .int (nI (j)))]) hx hb dL_law_942 hl (k := 1) rfl (by exact nI_add p9 1) (by decide) rfl (fun ls hl => ?_)
                    refine lv_goto (tgt := 843) hx hb dL_law_945 (by decide) ?_
                    exact ih843 (p9 + 1) (by omega) (by omega) _ (lv_sub hl [0, 2, 3, 4, 5, 6] rfl)
                  · skip
                    have c_911 := (not_congr (nI_leI (by omega) (by omega))).mp c_911
                    refine lv_aload_n hx hb dL_law_914 rfl (lv_at hl 2 rfl) ?_
                    refine lv_iload hx hb dL_law_915 (lv_at hl 1 rfl) ?_
                    refine lv_iload hx hb dL_law_917 (lv_at hl 0 rfl) ?_
                    obtain ⟨fs_7, ho_7⟩ := hfo.ob
                    refine kOp (M := 114) (k := 0) (As := [.int (nI (p9)), .int (nI (j9))]) (rest := []) S hK hP (by omega) (by decide) (ob_over l D hfo (nI (p9)) (nI (j9))) cv_L_77 ho_7 ⟨_, _, rfl⟩ ⟨rfl, rfl⟩ rfl hl.1 rfl (Nat.le_of_ble_eq_true rfl) hRC dL_law_919 (fun r_7 q_7 => ?_)
                    subst q_7
                    refine lv_aload hx hb dL_law_922 (lv_at hl 5 rfl) ?_
                    refine lv_iload hx hb dL_law_924 (lv_at hl 1 rfl) ?_
                    refine lv_iload hx hb dL_law_926 (lv_at hl 0 rfl) ?_
                    obtain ⟨fs_8, ho_8⟩ := hfq.ob
                    refine kOp (M := 114) (k := 127) (As := [.int (nI (p9)), .int (nI (j9))]) (rest := [.int (ovA v (nI (p9)) (nI (j9)))]) S hK hP (by omega) (by decide) (ob_over l D hfq (nI (p9)) (nI (j9))) cv_L_77 ho_8 ⟨_, _, rfl⟩ ⟨rfl, rfl⟩ rfl hl.1 rfl (Nat.le_of_ble_eq_true rfl) hRC dL_law_928 (fun r_8 q_8 => ?_)
                    subst q_8
                    refine lv_icmp_eq (tgt := 936) hx hb dL_law_931 (by decide) (fun c_931 => ?_) (fun c_931 => ?_)
                    · skip
                      refine lv_iinc (v := nI (j9 + 1)) (lv' := [(17, .int (nI (j9 + 1))), (16, .int (nI (p9))), (1, .ref ((bd b0) 0)), (2, .int (nI (n))), (8, .int (nI (a))), (14, .ref ((bd b0) 127)), (15, .int (nI (j)))]) hx hb dL_law_936 hl (k := 0) rfl (by exact nI_add j9 1) (by decide) rfl (fun ls hl => ?_)
                      refine lv_goto (tgt := 908) hx hb dL_law_939 (by decide) ?_
                      exact ih908 (j9 + 1) (by omega) (by omega) _ (lv_sub hl [0, 1, 2, 3, 4, 5, 6] rfl)
                    · skip
                      exact absurd rfl c_931
              exact L908 ((n - 0) + 1) 0 (by omega) (Nat.lt_succ_self _) _ (lv_sub hl [0, 1, 2, 3, 4, 5, 6] rfl)
            · skip
              exact absurd rfl c_900
  exact L843 ((n - 0) + 1) 0 (by omega) (Nat.lt_succ_self _) _ (lv_sub hl [0, 1, 2, 3, 4, 5] rfl)

theorem lt_all {P : Nat → Prop} {k : Nat} (h : ∀ i, i < k → P i) (hk : P k) : ∀ i, i < k + 1 → P i := fun i hi => by
  by_cases e : i = k
  · subst e; exact hk
  · exact h i (by omega)
set_option maxHeartbeats 4000000 in
set_option maxRecDepth 100000 in
theorem lz5d {p : Program} {l : Launch} {e : Env} {s : State} {m : MethodId} {below : List Frame} {meth : Method} {c : Code} {D : va_G} {cy : Nat → ClassId} {b0 b L : Nat} {xs : Nat → Int32} {sq sv : Nat} (S : CallFix p m c cL_law 21 s #[.ref b] wsL_law RL) (hr : meth.sig.returnType = ret) (hlk : meth.locks = false) (hK : va_K D vwCl (tyv cy) s) (hN : NX s) (hX : va_X b L xs s s.heap) (hbl : b < s.heap.size) (hb0 : s.heap.size = b0) (hL : L < 1000) (hXF : XF (AB b0) sq sv s s.heap) {n : Nat} {a : Nat} {O : Nat → Nat} {BE : Nat → Nat} {Tto : Nat → Nat} {Flo : Nat → Nat} {FBo : Nat → Nat → Nat} {Vlo : Nat → Nat} {VVo : Nat → Nat → Nat} {Ttq : Nat → Nat} {Flq : Nat → Nat} {FBq : Nat → Nat → Nat} {Vlq : Nat → Nat} {VVq : Nat → Nat → Nat} {ltq : Int32} (hn : 4 ≤ n ∧ n ≤ 8) (ha : a ≤ 7) (hO4 : ∀ j, O j < 4) (hBE : ∀ j, j < 4 → BE j = Flo j) (hFG : FGS xs L n 4 Flo FBo) (hFq : FGS xs L n 4 Flq FBq) (hVO : VVo 0 = O) (hVa : Vlo 0 = a) (hok : ∀ i, i < a → (dnR FBq Flq O (bgW n) i).2.1 = 0) (g : Nat → va_E) (H : Heap) (ls : Array Slot) (hm116 : g 116 = .inl (cy 1, 4, .inl (fun x9 => nI (BE x9)))) (hm125 : g 125 = .inl (cy 1, 8, .inl (fun x9 => nI (O x9)))) (hfo : OB9 cy (b0 + 0) (fun i => g (0 + i)) (bgW n) 4 (nI 0) 2 0 Tto Flo FBo Vlo VVo) (hfq : OB9 cy (b0 + 127) (fun i => g (127 + i)) (wsq FBq Flq O (bgW n) a) 4 ltq 0 0 Ttq Flq FBq Vlq VVq) (hP : MM D (bd b0) (249) g H) (hS : va_S (AB b0) s.heap H []) (hl : lv_has ls 21 [(1, .ref ((bd b0) 0)), (2, .int (nI (n))), (5, .ref ((bd b0) 116)), (6, .ref ((bd b0) 125)), (8, .int (nI (a))), (14, .ref ((bd b0) 127)), (15, .int (dI 0))]) : W p l e room_1 s m #[.ref b] below meth c H [] (249) (30163) (lw_Z below #[.ref b] s) (F0 m 798 ls []) := by
  have hx := S.1
  have hb := S.2.1
  have hI : MD (AB b0) (bd b0) (249) := bd_MD
  have hRC : 249 ≤ room_1.cells ∧ 30163 ≤ room_1.slots := ⟨(Nat.le_of_ble_eq_true rfl), (Nat.le_of_ble_eq_true rfl)⟩
  have hbA : ¬ AB b0 b := fun q => by unfold AB at q; omega
  refine lv_aload_n hx hb dL_law_798 rfl (lv_at hl 0 rfl) ?_
  refine lv_iconst (v := nI (0)) hx hb dL_law_799 (by decide) ?_
  obtain ⟨fs_1, ho_1⟩ := hfo.ob
  refine kOi (M := 114) (k := 0) (As := [.int (nI (0))]) (rest := []) S hK hP hS AA_AB (by omega) (by decide) (ob_perform l D hfo (v := 0) (by decide)) cv_L_65 ho_1 ⟨_, _, rfl⟩ ⟨rfl, rfl⟩ rfl hl.1 rfl (Nat.le_of_ble_eq_true rfl) hRC dL_law_800 (fun r_1 u_1 g_1 H locs q_1 i_1 f_1 hP hS => ?_)
  obtain ⟨hq9, hS⟩ := SB_fresh hb0 hS
  refine W.fresh hq9 ?_
  obtain ⟨S9, hS1, hS2, q_1, o_1⟩ := q_1
  have hfact_o_1 : OB9 cy (b0 + 0) (fun i => g_1 (0 + i)) ((pfA FBo Flo 4 (VVo 0) (Vlo 0) (Vlo 0) S9 0).2.1.1) 4 ((pfA FBo Flo 4 (VVo 0) (Vlo 0) (Vlo 0) S9 0).2.2.2) 2 0 Tto Flo FBo Vlo VVo := o_1.fr i_1
  have h116_1 : g_1 116 = .inl (cy 1, 4, .inl (fun x9 => nI (BE x9))) := (f_1 116 (by omega)).trans hm116
  have h125_1 : g_1 125 = .inl (cy 1, 8, .inl (fun x9 => nI (O x9))) := (f_1 125 (by omega)).trans hm125
  have hfact_q_1 : OB9 cy (b0 + 127) (fun i => g_1 (127 + i)) (wsq FBq Flq O (bgW n) a) 4 ltq 0 0 Ttq Flq FBq Vlq VVq := (hfq.fr (fun j hj => (f_1 (127 + j) (by omega))))
  have hpv := perf_all hVO hVa (bgW_ok hn) hfo.bd.2.2.2.2.1 hO4 (fun f hf => hFG.co hFq hf) hok hS1 hS2
  rw [hpv.1] at q_1
  subst q_1
  have hfp : OB9 cy (b0 + 0) (fun i => g_1 (0 + i)) (wsq FBq Flq O (bgW n) a) 4 0 2 0 Tto Flo FBo Vlo VVo := by have h := hfact_o_1; rw [hpv.2.1, hpv.2.2] at h; exact h
  refine lv_iload hx hb dL_law_803 (lv_at hl 6 rfl) ?_
  refine lv_if_ge (tgt := 813) hx hb dL_law_805 (by decide) (fun c_805 => ?_) (fun c_805 => ?_)
  · skip
    exact absurd c_805 (by decide)
  · skip
    refine lv_iload hx hb dL_law_808 (lv_at hl 4 rfl) ?_
    refine lv_goto (tgt := 818) hx hb dL_law_810 (by decide) ?_
    refine lv_icmp_ne (tgt := 838) hx hb dL_law_818 (by decide) (fun c_818 => ?_) (fun c_818 => ?_)
    · skip
      have c_818 := (not_congr (nI_eq (by omega) (by omega))).mp c_818
      exact absurd rfl c_818
    · skip
      have c_818 := (nI_eq (by omega) (by omega)).mp c_818
      refine lv_iload hx hb dL_law_821 (lv_at hl 6 rfl) ?_
      refine lv_if_lt (tgt := 840) hx hb dL_law_823 (by decide) (fun c_823 => ?_) (fun c_823 => ?_)
      · skip
        exact lz6d S hr hlk hK hN hX hbl hb0 hL hXF (v := wsq FBq Flq O (bgW n) a) hn (by omega) hO4 hBE hFG (fun i hi => by rw [dnR_co (a := a) (fun k _ => hFG.co hFq (hO4 k)) hi]; exact hok i hi) (by rw [wsq_co (a := a) (fun k _ => hFG.co hFq (hO4 k)) a (Nat.le_refl _)]; exact QW.rf _) g_1 H _ h116_1 h125_1 hfp hfact_q_1 hP hS (lv_sub hl [0, 1, 2, 3, 4, 5, 6] rfl)
      · skip
        exact absurd (by decide) c_823
set_option maxHeartbeats 4000000 in
set_option maxRecDepth 100000 in
theorem lz5s {p : Program} {l : Launch} {e : Env} {s : State} {m : MethodId} {below : List Frame} {meth : Method} {c : Code} {D : va_G} {cy : Nat → ClassId} {b0 b L : Nat} {xs : Nat → Int32} {sq sv : Nat} (S : CallFix p m c cL_law 21 s #[.ref b] wsL_law RL) (hr : meth.sig.returnType = ret) (hlk : meth.locks = false) (hK : va_K D vwCl (tyv cy) s) (hN : NX s) (hX : va_X b L xs s s.heap) (hbl : b < s.heap.size) (hb0 : s.heap.size = b0) (hL : L < 1000) (hXF : XF (AB b0) sq sv s s.heap) {n : Nat} {a : Nat} {O : Nat → Nat} {BE : Nat → Nat} {j : Nat} {Tto : Nat → Nat} {Flo : Nat → Nat} {FBo : Nat → Nat → Nat} {Vlo : Nat → Nat} {VVo : Nat → Nat → Nat} {Ttq : Nat → Nat} {Flq : Nat → Nat} {FBq : Nat → Nat → Nat} {Vlq : Nat → Nat} {VVq : Nat → Nat → Nat} (hn : 4 ≤ n ∧ n ≤ 8) (ha : a ≤ 7) (hO4 : ∀ j, O j < 4) (hBE : ∀ j, j < 4 → BE j = Flo j) (hFG : FGS xs L n 4 Flo FBo) (hFq : FGS xs L n 4 Flq FBq) (hVO : VVo 0 = O) (hVa : Vlo 0 = a) (hj : j < a) (hok : ∀ i, i < j → (dnR FBq Flq O (bgW n) i).2.1 = 0) (hno : ¬ (dnR FBq Flq O (bgW n) j).2.1 = 0) (g : Nat → va_E) (H : Heap) (ls : Array Slot) (hm116 : g 116 = .inl (cy 1, 4, .inl (fun x9 => nI (BE x9)))) (hm125 : g 125 = .inl (cy 1, 8, .inl (fun x9 => nI (O x9)))) (hfo : OB9 cy (b0 + 0) (fun i => g (0 + i)) (bgW n) 4 (nI 0) 2 0 Tto Flo FBo Vlo VVo) (hfq : OB9 cy (b0 + 127) (fun i => g (127 + i)) (wsq FBq Flq O (bgW n) (j + 1)) 4 ((dnR FBq Flq O (bgW n) j).2.1) 0 0 Ttq Flq FBq Vlq VVq) (hP : MM D (bd b0) (249) g H) (hS : va_S (AB b0) s.heap H []) (hl : lv_has ls 21 [(1, .ref ((bd b0) 0)), (2, .int (nI (n))), (5, .ref ((bd b0) 116)), (6, .ref ((bd b0) 125)), (8, .int (nI (a))), (14, .ref ((bd b0) 127)), (15, .int (nI (j)))]) : W p l e room_1 s m #[.ref b] below meth c H [] (249) (30163) (lw_Z below #[.ref b] s) (F0 m 798 ls []) := by
  have hx := S.1
  have hb := S.2.1
  have hI : MD (AB b0) (bd b0) (249) := bd_MD
  have hRC : 249 ≤ room_1.cells ∧ 30163 ≤ room_1.slots := ⟨(Nat.le_of_ble_eq_true rfl), (Nat.le_of_ble_eq_true rfl)⟩
  have hbA : ¬ AB b0 b := fun q => by unfold AB at q; omega
  refine lv_aload_n hx hb dL_law_798 rfl (lv_at hl 0 rfl) ?_
  refine lv_iconst (v := nI (0)) hx hb dL_law_799 (by decide) ?_
  obtain ⟨fs_1, ho_1⟩ := hfo.ob
  refine kOi (M := 114) (k := 0) (As := [.int (nI (0))]) (rest := []) S hK hP hS AA_AB (by omega) (by decide) (ob_perform l D hfo (v := 0) (by decide)) cv_L_65 ho_1 ⟨_, _, rfl⟩ ⟨rfl, rfl⟩ rfl hl.1 rfl (Nat.le_of_ble_eq_true rfl) hRC dL_law_800 (fun r_1 u_1 g_1 H locs q_1 i_1 f_1 hP hS => ?_)
  obtain ⟨hq9, hS⟩ := SB_fresh hb0 hS
  refine W.fresh hq9 ?_
  obtain ⟨S9, hS1, hS2, q_1, o_1⟩ := q_1
  have hfact_o_1 : OB9 cy (b0 + 0) (fun i => g_1 (0 + i)) ((pfA FBo Flo 4 (VVo 0) (Vlo 0) (Vlo 0) S9 0).2.1.1) 4 ((pfA FBo Flo 4 (VVo 0) (Vlo 0) (Vlo 0) S9 0).2.2.2) 2 0 Tto Flo FBo Vlo VVo := o_1.fr i_1
  have h116_1 : g_1 116 = .inl (cy 1, 4, .inl (fun x9 => nI (BE x9))) := (f_1 116 (by omega)).trans hm116
  have h125_1 : g_1 125 = .inl (cy 1, 8, .inl (fun x9 => nI (O x9))) := (f_1 125 (by omega)).trans hm125
  have hfact_q_1 : OB9 cy (b0 + 127) (fun i => g_1 (127 + i)) (wsq FBq Flq O (bgW n) (j + 1)) 4 ((dnR FBq Flq O (bgW n) j).2.1) 0 0 Ttq Flq FBq Vlq VVq := (hfq.fr (fun j hj => (f_1 (127 + j) (by omega))))
  have hpv := perf_one hVO hVa (bgW_ok hn) hfo.bd.2.2.2.2.1 hO4 (fun f hf => hFG.co hFq hf) hj hok hno hS1
  rw [hpv.1] at q_1
  subst q_1
  have hfp : OB9 cy (b0 + 0) (fun i => g_1 (0 + i)) (wsq FBq Flq O (bgW n) (j + 1)) 4 ((dnR FBq Flq O (bgW n) j).2.1) 2 0 Tto Flo FBo Vlo VVo := by have h := hfact_o_1; rw [hpv.2.1, hpv.2.2] at h; exact h
  refine lv_iload hx hb dL_law_803 (lv_at hl 6 rfl) ?_
  refine lv_if_ge (tgt := 813) hx hb dL_law_805 (by decide) (fun c_805 => ?_) (fun c_805 => ?_)
  · skip
    have c_805 := (z_ge (by omega)).mp c_805
    refine lv_bipush (v := (-100)) hx hb dL_law_813 (by decide) ?_
    refine lv_iload hx hb dL_law_815 (lv_at hl 6 rfl) ?_
    refine lv_isub hx hb dL_law_817 ?_
    refine lv_icmp_ne (tgt := 838) hx hb dL_law_818 (by decide) (fun c_818 => ?_) (fun c_818 => ?_)
    · skip
      exact absurd rfl c_818
    · skip
      refine lv_iload hx hb dL_law_821 (lv_at hl 6 rfl) ?_
      refine lv_if_lt (tgt := 840) hx hb dL_law_823 (by decide) (fun c_823 => ?_) (fun c_823 => ?_)
      · skip
        have c_823 := (z_lt (by omega)).mp c_823
        exact c_823.elim
      · skip
        have c_823 := (not_congr (z_lt (by omega))).mp c_823
        refine lv_aload_n hx hb dL_law_826 rfl (lv_at hl 0 rfl) ?_
        obtain ⟨fs_2, ho_2⟩ := hfp.ob
        refine kOp (M := 114) (k := 0) (As := []) (rest := []) S hK hP (by omega) (by decide) (ob_why l D hfp) cv_L_68 ho_2 ⟨_, _, rfl⟩ ⟨rfl, rfl⟩ rfl hl.1 rfl (Nat.le_of_ble_eq_true rfl) hRC dL_law_827 (fun r_2 q_2 => ?_)
        subst q_2
        refine lv_aload hx hb dL_law_830 (lv_at hl 5 rfl) ?_
        obtain ⟨fs_3, ho_3⟩ := hfact_q_1.ob
        refine kOp (M := 114) (k := 127) (As := []) (rest := [.int ((dnR FBq Flq O (bgW n) j).2.1)]) S hK hP (by omega) (by decide) (ob_why l D hfact_q_1) cv_L_68 ho_3 ⟨_, _, rfl⟩ ⟨rfl, rfl⟩ rfl hl.1 rfl (Nat.le_of_ble_eq_true rfl) hRC dL_law_832 (fun r_3 q_3 => ?_)
        subst q_3
        refine lv_icmp_eq (tgt := 840) hx hb dL_law_835 (by decide) (fun c_835 => ?_) (fun c_835 => ?_)
        · skip
          exact lz6s S hr hlk hK hN hX hbl hb0 hL hXF (v := wsq FBq Flq O (bgW n) (j + 1)) hn (by omega) (by omega) g_1 H _ hfp hfact_q_1 hP hS (lv_sub hl [0, 1, 4, 5, 6] rfl)
        · skip
          exact absurd rfl c_835
  · skip
    have c_805 := (not_congr (z_ge (by omega))).mp c_805
    exact (c_805 trivial).elim
set_option maxHeartbeats 4000000 in
set_option maxRecDepth 100000 in
theorem lz4 {p : Program} {l : Launch} {e : Env} {s : State} {m : MethodId} {below : List Frame} {meth : Method} {c : Code} {D : va_G} {cy : Nat → ClassId} {b0 b L : Nat} {xs : Nat → Int32} {sq sv : Nat} (S : CallFix p m c cL_law 21 s #[.ref b] wsL_law RL) (hr : meth.sig.returnType = ret) (hlk : meth.locks = false) (hK : va_K D vwCl (tyv cy) s) (hN : NX s) (hX : va_X b L xs s s.heap) (hbl : b < s.heap.size) (hb0 : s.heap.size = b0) (hL : L < 1000) (hXF : XF (AB b0) sq sv s s.heap) {n : Nat} {a : Nat} {O : Nat → Nat} {BE : Nat → Nat} {Tto : Nat → Nat} {Flo : Nat → Nat} {FBo : Nat → Nat → Nat} {Vlo : Nat → Nat} {VVo : Nat → Nat → Nat} {Ttq : Nat → Nat} {Flq : Nat → Nat} {FBq : Nat → Nat → Nat} {Vlq : Nat → Nat} {VVq : Nat → Nat → Nat} (hn : 4 ≤ n ∧ n ≤ 8) (ha : a ≤ 7) (hO4 : ∀ j, O j < 4) (hBE : ∀ j, j < 4 → BE j = Flo j) (hFG : FGS xs L n 4 Flo FBo) (hFq : FGS xs L n 4 Flq FBq) (hVO : VVo 0 = O) (hVa : Vlo 0 = a) (g : Nat → va_E) (H : Heap) (ls : Array Slot) (hm116 : g 116 = .inl (cy 1, 4, .inl (fun x9 => nI (BE x9)))) (hm125 : g 125 = .inl (cy 1, 8, .inl (fun x9 => nI (O x9)))) (hfo : OB9 cy (b0 + 0) (fun i => g (0 + i)) (bgW n) 4 (nI 0) 2 0 Tto Flo FBo Vlo VVo) (hfq : OB9 cy (b0 + 127) (fun i => g (127 + i)) (bgW n) 4 (nI 0) 0 0 Ttq Flq FBq Vlq VVq) (hP : MM D (bd b0) (249) g H) (hS : va_S (AB b0) s.heap H []) (hl : lv_has ls 21 [(1, .ref ((bd b0) 0)), (2, .int (nI (n))), (5, .ref ((bd b0) 116)), (6, .ref ((bd b0) 125)), (8, .int (nI (a))), (14, .ref ((bd b0) 127)), (15, .int (dI 0))]) : W p l e room_1 s m #[.ref b] below meth c H [] (249) (30163) (lw_Z below #[.ref b] s) (F0 m 756 ls []) := by
  have hx := S.1
  have hb := S.2.1
  have hI : MD (AB b0) (bd b0) (249) := bd_MD
  have hRC : 249 ≤ room_1.cells ∧ 30163 ≤ room_1.slots := ⟨(Nat.le_of_ble_eq_true rfl), (Nat.le_of_ble_eq_true rfl)⟩
  have hbA : ¬ AB b0 b := fun q => by unfold AB at q; omega
  refine lv_iconst (v := nI (0)) hx hb dL_law_756 (by decide) ?_
  refine lv_istore (lv' := [(16, .int (nI (0))), (1, .ref ((bd b0) 0)), (2, .int (nI (n))), (5, .ref ((bd b0) 116)), (6, .ref ((bd b0) 125)), (8, .int (nI (a))), (14, .ref ((bd b0) 127)), (15, .int (dI 0))]) hx hb dL_law_757 hl (by decide) rfl (fun ls hl => ?_)
  have L759 : ∀ (fu : Nat) (k st : Nat) (lq : Int32), (k ≤ a) → ((st = 0 ∧ ∀ i, i < k → (dnR FBq Flq O (bgW n) i).2.1 = 0) ∨ (∃ j, k = j + 1 ∧ st = j + 1 ∧ (∀ i, i < j → (dnR FBq Flq O (bgW n) i).2.1 = 0) ∧ ¬ (dnR FBq Flq O (bgW n) j).2.1 = 0 ∧ lq = (dnR FBq Flq O (bgW n) j).2.1)) → (a - k) < fu → ∀ (g_1 : Nat → va_E) (H : Heap), g_1 116 = .inl (cy 1, 4, .inl (fun x9 => nI (BE x9))) → g_1 125 = .inl (cy 1, 8, .inl (fun x9 => nI (O x9))) → (OB9 cy (b0 + 0) (fun i => g_1 (0 + i)) (bgW n) 4 (nI 0) 2 0 Tto Flo FBo Vlo VVo) → (OB9 cy (b0 + 127) (fun i => g_1 (127 + i)) (wsq FBq Flq O (bgW n) k) 4 lq 0 0 Ttq Flq FBq Vlq VVq) → MM D (bd b0) (249) g_1 H → va_S (AB b0) s.heap H [] → ∀ (ls : Array Slot), lv_has ls 21 [(16, .int (nI (k))), (1, .ref ((bd b0) 0)), (2, .int (nI (n))), (5, .ref ((bd b0) 116)), (6, .ref ((bd b0) 125)), (8, .int (nI (a))), (14, .ref ((bd b0) 127)), (15, .int (dI st))] → W p l e room_1 s m #[.ref b] below meth c H [] (249) (30163) (lw_Z below #[.ref b] s) (F0 m 759 ls []) := by
    intro fu
    induction fu with
    | zero => intro k st lq hk hst hms g_1 H h116_1 h125_1 hfact_o_1 hfact_q_1 hP hS ls hl; exact absurd hms (Nat.not_lt_zero _)
    | succ fu ih759 =>
      intro k st lq hk hst hms g_1 H h116_1 h125_1 hfact_o_1 hfact_q_1 hP hS ls hl
      refine lv_iload hx hb dL_law_759 (lv_at hl 0 rfl) ?_
      refine lv_iload hx hb dL_law_761 (lv_at hl 5 rfl) ?_
      refine lv_icmp_ge (tgt := 798) hx hb dL_law_763 (by decide) (fun c_763 => ?_) (fun c_763 => ?_)
      · skip
        have c_763 := (nI_leI (by omega) (by omega)).mp c_763
        rcases hst with ⟨h0, hok⟩ | ⟨j, hk9, hs9, hok, hno, hlq⟩
        · subst h0
          obtain rfl : k = a := by omega
          exact lz5d S hr hlk hK hN hX hbl hb0 hL hXF hn (by omega) hO4 hBE hFG hFq hVO hVa hok g_1 H _ h116_1 h125_1 hfact_o_1 hfact_q_1 hP hS (lv_sub hl [1, 2, 3, 4, 5, 6, 7] rfl)
        · subst hk9 hs9 hlq
          have hl : lv_has ls 21 [(16, .int (nI ((j + 1)))), (1, .ref ((bd b0) 0)), (2, .int (nI (n))), (5, .ref ((bd b0) 116)), (6, .ref ((bd b0) 125)), (8, .int (nI (a))), (14, .ref ((bd b0) 127)), (15, .int (nI (j)))] := by rw [dI_s] at hl; exact hl
          exact lz5s S hr hlk hK hN hX hbl hb0 hL hXF hn (by omega) hO4 hBE hFG hFq hVO hVa (by omega) hok hno g_1 H _ h116_1 h125_1 hfact_o_1 hfact_q_1 hP hS (lv_sub hl [1, 2, 3, 4, 5, 6, 7] rfl)
      · skip
        have c_763 := (not_congr (nI_leI (by omega) (by omega))).mp c_763
        refine lv_iload hx hb dL_law_766 (lv_at hl 7 rfl) ?_
        refine lv_if_ge (tgt := 798) hx hb dL_law_768 (by decide) (fun c_768 => ?_) (fun c_768 => ?_)
        · skip
          rcases hst with ⟨h0, hok⟩ | ⟨j, hk9, hs9, hok, hno, hlq⟩
          · subst h0
            exact absurd c_768 (by decide)
          · subst hk9 hs9 hlq
            have hl : lv_has ls 21 [(16, .int (nI ((j + 1)))), (1, .ref ((bd b0) 0)), (2, .int (nI (n))), (5, .ref ((bd b0) 116)), (6, .ref ((bd b0) 125)), (8, .int (nI (a))), (14, .ref ((bd b0) 127)), (15, .int (nI (j)))] := by rw [dI_s] at hl; exact hl
            exact lz5s S hr hlk hK hN hX hbl hb0 hL hXF hn (by omega) hO4 hBE hFG hFq hVO hVa (by omega) hok hno g_1 H _ h116_1 h125_1 hfact_o_1 hfact_q_1 hP hS (lv_sub hl [1, 2, 3, 4, 5, 6, 7] rfl)
        · skip
          have hst0 : st = 0 ∧ ∀ i, i < k → (dnR FBq Flq O (bgW n) i).2.1 = 0 := by rcases hst with h | ⟨j, h1, h2, h3⟩; exact h; exact absurd (show 0 ≤ dI st by rw [h2, dI_s]; exact nI_pos' (by omega)) c_768
          obtain ⟨hst0, hok⟩ := hst0
          have hle := dnW_le (B := FBq (O k)) (len := Flq (O k)) (wsq_ok (FB := FBq) (Fl := Flq) (V := O) (bgW_ok hn) k).1
          have hF9 := hFq.le (hO4 k)
          have hOk := hO4 k
          have hd9 : (dnR FBq Flq O (bgW n) k).1 ≤ 200 := Nat.le_trans hle (by omega)
          refine lv_aload hx hb dL_law_771 (lv_at hl 6 rfl) ?_
          refine lv_aload hx hb dL_law_773 (lv_at hl 4 rfl) ?_
          refine lv_iload hx hb dL_law_775 (lv_at hl 0 rfl) ?_
          refine mial S hK hP (by omega) h125_1 (vp_in_nI (by omega) (by omega)) dL_law_777 ?_
          refine tpi (congrArg ((fun x9 => nI (O x9))) (nI_clamp (by omega))) ?_
          obtain ⟨fs_2, ho_2⟩ := hfact_q_1.ob
          refine kOi (M := 114) (k := 127) (As := [.int (nI (O k))]) (rest := []) S hK hP hS AA_AB (by omega) (by decide) (ob_dance l D hfact_q_1 (f := O k) (hO4 k)) cv_L_62 ho_2 ⟨_, _, rfl⟩ ⟨rfl, rfl⟩ rfl hl.1 rfl (Nat.le_of_ble_eq_true rfl) hRC dL_law_778 (fun r_2 u_2 g_2 H locs q_2 i_2 f_2 hP hS => ?_)
          obtain ⟨hq9, hS⟩ := SB_fresh hb0 hS
          refine W.fresh hq9 ?_
          obtain ⟨q_2, o_2⟩ := q_2
          subst q_2
          have hfact_q_2 : OB9 cy (b0 + 127) (fun i => g_2 (127 + i)) (wsq FBq Flq O (bgW n) (k + 1)) 4 ((dnR FBq Flq O (bgW n) k).2.1) 0 0 Ttq Flq FBq Vlq VVq := o_2.fr i_2
          have h116_2 : g_2 116 = .inl (cy 1, 4, .inl (fun x9 => nI (BE x9))) := (f_2 116 (by omega)).trans h116_1
          have h125_2 : g_2 125 = .inl (cy 1, 8, .inl (fun x9 => nI (O x9))) := (f_2 125 (by omega)).trans h125_1
          have hfact_o_2 : OB9 cy (b0 + 0) (fun i => g_2 (0 + i)) (bgW n) 4 (nI 0) 2 0 Tto Flo FBo Vlo VVo := (hfact_o_1.fr (fun j hj => (f_2 (0 + j) (by omega))))
          refine lv_if_ge (tgt := 789) hx hb dL_law_781 (by decide) (fun c_781 => ?_) (fun c_781 => ?_)
          · skip
            refine lv_iconst (v := (-1)) hx hb dL_law_789 (by decide) ?_
            refine tpi (y := dI 0) ((by decide)) ?_
            refine lv_istore (lv' := [(15, .int (dI 0)), (16, .int (nI (k))), (1, .ref ((bd b0) 0)), (2, .int (nI (n))), (5, .ref ((bd b0) 116)), (6, .ref ((bd b0) 125)), (8, .int (nI (a))), (14, .ref ((bd b0) 127))]) hx hb dL_law_790 hl (by decide) rfl (fun ls hl => ?_)
            refine lv_iinc (v := nI (k + 1)) (lv' := [(16, .int (nI (k + 1))), (15, .int (dI 0)), (1, .ref ((bd b0) 0)), (2, .int (nI (n))), (5, .ref ((bd b0) 116)), (6, .ref ((bd b0) 125)), (8, .int (nI (a))), (14, .ref ((bd b0) 127))]) hx hb dL_law_792 hl (k := 1) rfl (by exact nI_add k 1) (by decide) rfl (fun ls hl => ?_)
            refine lv_goto (tgt := 759) hx hb dL_law_795 (by decide) ?_
            exact ih759 (k + 1) 0 ((dnR FBq Flq O (bgW n) k).2.1) (by omega) (Or.inl ⟨rfl, lt_all hok (dn_gy hd9 c_781)⟩) (by omega) g_2 _ h116_2 h125_2 hfact_o_2 hfact_q_2 hP hS _ (lv_sub hl [0, 2, 3, 4, 5, 6, 7, 1] rfl)
          · skip
            refine lv_iload hx hb dL_law_784 (lv_at hl 0 rfl) ?_
            refine tpi (y := dI (k + 1)) ((dI_s k).symm) ?_
            refine lv_goto (tgt := 790) hx hb dL_law_786 (by decide) ?_
            refine lv_istore (lv' := [(15, .int (dI (k + 1))), (16, .int (nI (k))), (1, .ref ((bd b0) 0)), (2, .int (nI (n))), (5, .ref ((bd b0) 116)), (6, .ref ((bd b0) 125)), (8, .int (nI (a))), (14, .ref ((bd b0) 127))]) hx hb dL_law_790 hl (by decide) rfl (fun ls hl => ?_)
            refine lv_iinc (v := nI (k + 1)) (lv' := [(16, .int (nI (k + 1))), (15, .int (dI (k + 1))), (1, .ref ((bd b0) 0)), (2, .int (nI (n))), (5, .ref ((bd b0) 116)), (6, .ref ((bd b0) 125)), (8, .int (nI (a))), (14, .ref ((bd b0) 127))]) hx hb dL_law_792 hl (k := 1) rfl (by exact nI_add k 1) (by decide) rfl (fun ls hl => ?_)
            refine lv_goto (tgt := 759) hx hb dL_law_795 (by decide) ?_
            exact ih759 (k + 1) (k + 1) ((dnR FBq Flq O (bgW n) k).2.1) (by omega) (Or.inr ⟨k, rfl, rfl, hok, dn_ly hd9 c_781, rfl⟩) (by omega) g_2 _ h116_2 h125_2 hfact_o_2 hfact_q_2 hP hS _ (lv_sub hl [0, 2, 3, 4, 5, 6, 7, 1] rfl)
  exact L759 ((a - 0) + 1) 0 0 (nI 0) (by omega) (Or.inl ⟨rfl, fun i hi => absurd hi (Nat.not_lt_zero _)⟩) (Nat.lt_succ_self _) g _ hm116 hm125 hfo hfq hP hS _ (lv_sub hl [0, 1, 2, 3, 4, 5, 6, 7] rfl)

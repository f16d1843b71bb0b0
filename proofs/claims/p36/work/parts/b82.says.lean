theorem feed_TT {T TT : Nat → Nat} {n z : Nat} (hc : ∀ i, cT T n z i < 256) (h : ∀ j, j < z → j < n → TT j = T j) : ∀ j, j < z + 8 → j < n → feT TT z (byV (cT T n z) 8) 8 j = T j := fun j a b => by
  have q := feT_at (T := TT) (len := z) hc 8 (Nat.le_refl _)
  rcases Nat.lt_or_ge j z with y | y
  · rw [q.1 j y]; exact h j y b
  · obtain ⟨d, rfl⟩ : ∃ d, j = z + d := ⟨j - z, by omega⟩
    rw [q.2 d (by omega)]
    unfold cT
    rw [if_pos b]
set_option maxHeartbeats 4000000 in
set_option maxRecDepth 100000 in
theorem c_L_says (l : Launch) (D : va_G) (cy : Nat → ClassId) (b0 : Nat) (N : Nat) (g : Nat → va_E) (sq sv : Nat) (k : Nat) (kt : Nat) (n : Nat) (T : Nat → Nat) (ht : g kt = .inl (cy 1, 64, .inl (fun x9 => nI (T x9)))) (hkN : k + 114 ≤ N) (hkt : kt < N ∧ (kt < k ∨ k + 114 ≤ kt)) (w : WT) (fc : Nat) (lt : Int32) (vc : Nat) (T0 : Nat → Nat) (Fl : Nat → Nat) (FB : Nat → Nat → Nat) (Vl : Nat → Nat) (VV : Nat → Nat → Nat) (hob : OB9 cy (b0 + k) (fun i => g (k + i)) w fc lt vc 0 T0 Fl FB Vl VV) (hfc : fc < 8) (hn : n ≤ 64) (hT : ∀ j, j < n → T j < 128) (many : Nat) (Rw : Nat → Nat) (f9 : Nat) (m9 : Nat) (hTX : TXP T n many Rw 0 0 f9 m9) (hmany : many ≤ 200) : Met l yL_says (WS yL_says cL_says 7 (some .int)) (rmF 7 156) (PPX [.ref ((bd b0) k), .ref ((bd b0) kt), .int (nI (n))] D cy (bd b0) N g sq sv) (QI (fun r g1 => ∃ (B1 : Nat → Nat), ∃ (T9 : Nat → Nat), (r = nI (fc)) ∧ (∀ i, i < many → B1 i = Rw i) ∧ (OB9 cy (b0 + k) (fun i => g1 (k + i)) w (fc + 1) lt vc 0 T9 (va_up Fl fc many) (va_up FB fc B1) Vl VV) ∧ (∀ j, (j < k ∨ k + 114 ≤ j) → g1 j = g j)) D (bd b0) N) 0 0 (AA (bd b0) N) := by
  refine xentry (by decide) (Nat.le_of_ble_eq_true rfl) (fun p e s m below meth c ls S hr hlk hnm hP hK hXF hl => ?_)
  have S : CallFix p m c cL_says 7 s _ wsL_law RL := S
  have hx := S.1
  have hb := S.2.1
  have hl : lv_has ls 7 [(0, .ref ((bd b0) k)), (1, .ref ((bd b0) kt)), (2, .int (nI (n)))] := hl
  have hI : MD (AA (bd b0) N) (bd b0) N := MD.in bd_inj
  have hS : va_S (AA (bd b0) N) s.heap s.heap [] := va_S.rf
  have hfr : ∀ j : Nat, g j = g j := fun _ => rfl
  refine lv_iconst (v := nI (0)) hx hb dL_says_0 (by decide) ?_
  refine lv_istore_n (lv' := [(3, .int (nI (0))), (0, .ref ((bd b0) k)), (1, .ref ((bd b0) kt)), (2, .int (nI (n)))]) hx hb dL_says_1 rfl hl (by decide) rfl (fun ls hl => ?_)
  have L2 : ∀ (fu : Nat) (z : Nat) (TT : Nat → Nat), (z % 8 = 0 ∧ z ≤ 64) → (∀ j, j < z → j < n → TT j = T j) → (72 - z) < fu → ∀ (g_1 : Nat → va_E) (H : Heap) (locs : List Loc), g_1 kt = .inl (cy 1, 64, .inl (fun x9 => nI (T x9))) → (OB9 cy (b0 + k) (fun i => g_1 (k + i)) w fc lt vc z TT Fl FB Vl VV) → (∀ j : Nat, (j < k ∨ k + 114 ≤ j) → g_1 j = g j) → MM D (bd b0) N g_1 H → va_S (AA (bd b0) N) s.heap H locs → ∀ (ls : Array Slot), lv_has ls 7 [(3, .int (nI (z))), (0, .ref ((bd b0) k)), (1, .ref ((bd b0) kt)), (2, .int (nI (n)))] → W p l e (rmF 7 156) s m [.ref ((bd b0) k), .ref ((bd b0) kt), .int (nI (n))].toArray below meth c H locs 0 0 (MQ below (QI (fun r g1 => ∃ (B1 : Nat → Nat), ∃ (T9 : Nat → Nat), (r = nI (fc)) ∧ (∀ i, i < many → B1 i = Rw i) ∧ (OB9 cy (b0 + k) (fun i => g1 (k + i)) w (fc + 1) lt vc 0 T9 (va_up Fl fc many) (va_up FB fc B1) Vl VV) ∧ (∀ j, (j < k ∨ k + 114 ≤ j) → g1 j = g j)) D (bd b0) N) [.ref ((bd b0) k), .ref ((bd b0) kt), .int (nI (n))].toArray s 0 0 (AA (bd b0) N)) (F0 m 2 ls []) := by
    intro fu
    induction fu with
    | zero => intro z TT hz8 hTT hms g_1 H locs hkt_1 hfact_o_1 hfr_1 hP hS ls hl; exact absurd hms (Nat.not_lt_zero _)
    | succ fu ih2 =>
      intro z TT hz8 hTT hms g_1 H locs hkt_1 hfact_o_1 hfr_1 hP hS ls hl
      refine lv_iload_n hx hb dL_says_2 rfl (lv_at hl 0 rfl) ?_
      refine lv_iload_n hx hb dL_says_3 rfl (lv_at hl 3 rfl) ?_
      refine lv_icmp_ge (tgt := 74) hx hb dL_says_4 (by decide) (fun c_4 => ?_) (fun c_4 => ?_)
      · skip
        have c_4 := (nI_leI (by omega) (by omega)).mp c_4
        have hTT : ∀ j, j < n → TT j = T j := fun j hj => hTT j (by omega) hj
        refine lv_aload_n hx hb dL_says_74 rfl (lv_at hl 1 rfl) ?_
        refine lv_iload_n hx hb dL_says_75 rfl (lv_at hl 3 rfl) ?_
        obtain ⟨fs_2, ho_2⟩ := hfact_o_1.ob
        refine kOi (M := 114) (k := k) (As := [.int (nI (n))]) (rest := []) S hK hP hS (fun _ h => h) hkN (by decide) (ob_end l D hfact_o_1 (x := n) (by omega)) cv_L_15 ho_2 ⟨_, _, rfl⟩ ⟨rfl, rfl⟩ rfl hl.1 rfl (Nat.le_of_ble_eq_true rfl) ⟨Nat.zero_le _, Nat.zero_le _⟩ dL_says_76 (fun r_2 u_2 g_2 H locs q_2 i_2 f_2 hP hS => ?_)
        obtain ⟨q_2, o_2⟩ := q_2
        subst q_2
        have hfact_o_2 : OB9 cy (b0 + k) (fun i => g_2 (k + i)) w fc lt vc n TT Fl FB Vl VV := o_2.fr i_2
        have hkt_2 : g_2 kt = .inl (cy 1, 64, .inl (fun x9 => nI (T x9))) := (f_2 kt (by omega)).trans hkt_1
        have hfr_2 : ∀ j : Nat, (j < k ∨ k + 114 ≤ j) → g_2 j = g j := fun j n0 => (f_2 j n0).trans (hfr_1 j n0)
        refine lv_iload_n hx hb dL_says_79 rfl (lv_at hl 3 rfl) ?_
        refine lv_icmp_ge (tgt := 88) hx hb dL_says_80 (by decide) (fun c_80 => ?_) (fun c_80 => ?_)
        · skip
          have c_80 := (nI_leI (by omega) (by omega)).mp c_80
          refine lv_aload_n hx hb dL_says_88 rfl (lv_at hl 1 rfl) ?_
          obtain ⟨fs_3, ho_3⟩ := hfact_o_2.ob
          refine kOx (M := 114) (k := k) (As := []) (rest := []) S hK hP hXF hS (fun _ h => h) hkN (by decide) (ob_figure l D hfact_o_2 sq sv hfc hTX hTT hmany) cv_L_19 ho_3 ⟨_, _, rfl⟩ ⟨rfl, rfl⟩ rfl hl.1 rfl (Nat.le_of_ble_eq_true rfl) ⟨Nat.zero_le _, Nat.zero_le _⟩ dL_says_89 (fun r_3 u_3 g_3 H locs q_3 i_3 f_3 hP hS => ?_)
          obtain ⟨q_3, B1, hB1, o_3⟩ := q_3
          subst q_3
          have hfact_o_3 : OB9 cy (b0 + k) (fun i => g_3 (k + i)) w (fc + 1) lt vc 0 TT (va_up Fl fc many) (va_up FB fc B1) Vl VV := o_3.fr i_3
          have hkt_3 : g_3 kt = .inl (cy 1, 64, .inl (fun x9 => nI (T x9))) := (f_3 kt (by omega)).trans hkt_2
          have hfr_3 : ∀ j : Nat, (j < k ∨ k + 114 ≤ j) → g_3 j = g j := fun j n0 => (f_3 j n0).trans (hfr_2 j n0)
          exact rMi S hr hlk hP hS ⟨B1, _, rfl, hB1, hfact_o_3, hfr_3⟩ dL_says_92
        · skip
          have c_80 := (not_congr (nI_leI (by omega) (by omega))).mp c_80
          exact absurd c_80 (by omega)
      · skip
        have c_4 := (not_congr (nI_leI (by omega) (by omega))).mp c_4
        refine lv_lconst (v := lN 0) hx hb dL_says_7 (by decide) ?_
        refine lv_lstore (lv' := [(4, .long (lN 0)), (3, .int (nI (z))), (0, .ref ((bd b0) k)), (1, .ref ((bd b0) kt)), (2, .int (nI (n)))]) hx hb dL_says_8 hl (by decide) rfl (fun ls hl => ?_)
        refine lv_iload_n hx hb dL_says_10 rfl (lv_at hl 1 rfl) ?_
        refine lv_istore (lv' := [(6, .int (nI (z))), (4, .long (lN 0)), (3, .int (nI (z))), (0, .ref ((bd b0) k)), (1, .ref ((bd b0) kt)), (2, .int (nI (n)))]) hx hb dL_says_11 hl (by decide) rfl (fun ls hl => ?_)
        have L13 : ∀ (fu : Nat) (d : Nat), (d ≤ 8) → (8 - d) < fu → ∀ (ls : Array Slot), lv_has ls 7 [(6, .int (nI (z + d))), (4, .long (lN (byV (cT T n z) d))), (3, .int (nI (z))), (0, .ref ((bd b0) k)), (1, .ref ((bd b0) kt)), (2, .int (nI (n)))] → W p l e (rmF 7 156) s m [.ref ((bd b0) k), .ref ((bd b0) kt), .int (nI (n))].toArray below meth c H locs 0 0 (MQ below (QI (fun r g1 => ∃ (B1 : Nat → Nat), ∃ (T9 : Nat → Nat), (r = nI (fc)) ∧ (∀ i, i < many → B1 i = Rw i) ∧ (OB9 cy (b0 + k) (fun i => g1 (k + i)) w (fc + 1) lt vc 0 T9 (va_up Fl fc many) (va_up FB fc B1) Vl VV) ∧ (∀ j, (j < k ∨ k + 114 ≤ j) → g1 j = g j)) D (bd b0) N) [.ref ((bd b0) k), .ref ((bd b0) kt), .int (nI (n))].toArray s 0 0 (AA (bd b0) N)) (F0 m 13 ls []) := by
          intro fu
          induction fu with
          | zero => intro d hd hms ls hl; exact absurd hms (Nat.not_lt_zero _)
          | succ fu ih13 =>
            intro d hd hms ls hl
            refine lv_iload hx hb dL_says_13 (lv_at hl 0 rfl) ?_
            refine lv_iload_n hx hb dL_says_15 rfl (lv_at hl 2 rfl) ?_
            refine lv_bipush (v := nI (8)) hx hb dL_says_16 (by decide) ?_
            refine lv_iadd hx hb dL_says_18 ?_
            refine tpi (nI_add z 8) ?_
            refine lv_icmp_ge (tgt := 52) hx hb dL_says_19 (by decide) (fun c_19 => ?_) (fun c_19 => ?_)
            · skip
              have c_19 := (nI_leI (by omega) (by omega)).mp c_19
              obtain rfl : d = 8 := by omega
              refine lv_aload_n hx hb dL_says_52 rfl (lv_at hl 3 rfl) ?_
              refine lv_lload hx hb dL_says_53 (lv_at hl 1 rfl) ?_
              obtain ⟨fs_4, ho_4⟩ := hfact_o_1.ob
              refine kOi (M := 114) (k := k) (As := [.long (lN (byV (cT T n z) 8))]) (rest := []) S hK hP hS (fun _ h => h) hkN (by decide) (ob_feed l D hfact_o_1 (by omega) (byV_64 (cT_lt hT) (Nat.le_refl 8))) cv_L_9 ho_4 ⟨_, _, rfl⟩ ⟨rfl, rfl⟩ rfl hl.1 rfl (Nat.le_of_ble_eq_true rfl) ⟨Nat.zero_le _, Nat.zero_le _⟩ dL_says_55 (fun r_4 u_4 g_4 H locs q_4 i_4 f_4 hP hS => ?_)
              obtain ⟨q_4, o_4⟩ := q_4
              subst q_4
              have hfact_o_4 : OB9 cy (b0 + k) (fun i => g_4 (k + i)) w fc lt vc (z + 8) (feT TT z (byV (cT T n z) 8) 8) Fl FB Vl VV := o_4.fr i_4
              have hkt_4 : g_4 kt = .inl (cy 1, 64, .inl (fun x9 => nI (T x9))) := (f_4 kt (by omega)).trans hkt_1
              have hfr_4 : ∀ j : Nat, (j < k ∨ k + 114 ≤ j) → g_4 j = g j := fun j n0 => (f_4 j n0).trans (hfr_1 j n0)
              refine lv_iload_n hx hb dL_says_58 rfl (lv_at hl 2 rfl) ?_
              refine lv_bipush (v := nI (8)) hx hb dL_says_59 (by decide) ?_
              refine lv_iadd hx hb dL_says_61 ?_
              refine tpi (nI_add z 8) ?_
              refine lv_icmp_eq (tgt := 68) hx hb dL_says_62 (by decide) (fun c_62 => ?_) (fun c_62 => ?_)
              · skip
                have c_62 := (nI_eq (by omega) (by omega)).mp c_62
                refine lv_iinc (v := nI (z + 8)) (lv' := [(3, .int (nI (z + 8))), (6, .int (nI (z + 8))), (4, .long (lN (byV (cT T n z) 8))), (0, .ref ((bd b0) k)), (1, .ref ((bd b0) kt)), (2, .int (nI (n)))]) hx hb dL_says_68 hl (k := 2) rfl (by exact nI_add z 8) (by decide) rfl (fun ls hl => ?_)
                refine lv_goto (tgt := 2) hx hb dL_says_71 (by decide) ?_
                exact ih2 (z + 8) (feT TT z (byV (cT T n z) 8) 8) (by omega) (fun j a b => feed_TT (cT_lt hT) hTT j a b) (by omega) g_4 _ _ hkt_4 hfact_o_4 hfr_4 hP hS _ (lv_sub hl [0, 3, 4, 5] rfl)
              · skip
                have c_62 := (not_congr (nI_eq (by omega) (by omega))).mp c_62
                exact absurd rfl c_62
            · skip
              have c_19 := (not_congr (nI_leI (by omega) (by omega))).mp c_19
              refine lv_lload hx hb dL_says_22 (lv_at hl 1 rfl) ?_
              refine lv_bipush (v := nI (8)) hx hb dL_says_24 (by decide) ?_
              have hbd := byV_56 (c := (cT T n z)) (cT_lt hT) (d := d) (by omega)
              refine lv_lshl hx hb dL_says_26 rfl ?_
              refine tpl (wb_shl (byV (cT T n z) d) (k := 8) (by omega)) ?_
              refine lv_iload hx hb dL_says_27 (lv_at hl 0 rfl) ?_
              refine lv_iload_n hx hb dL_says_29 rfl (lv_at hl 5 rfl) ?_
              refine lv_icmp_ge (tgt := 40) hx hb dL_says_30 (by decide) (fun c_30 => ?_) (fun c_30 => ?_)
              · skip
                have c_30 := (nI_leI (by omega) (by omega)).mp c_30
                refine lv_bipush (v := nI (32)) hx hb dL_says_40 (by decide) ?_
                refine lv_i2l hx hb dL_says_42 rfl ?_
                refine tpl (nI_l (by omega)) ?_
                refine lv_lor hx hb dL_says_43 ?_
                refine tpl (wb_or (byV_56 (cT_lt hT) (by omega)) (by omega)) ?_
                refine tpl (congrArg lN (byV_s (c := (cT T n z)) (by omega) (by unfold cT; first | exact if_pos (by omega) | exact if_neg (by omega)))) ?_
                refine lv_lstore (lv' := [(4, .long (lN (byV (cT T n z) (d + 1)))), (6, .int (nI (z + d))), (3, .int (nI (z))), (0, .ref ((bd b0) k)), (1, .ref ((bd b0) kt)), (2, .int (nI (n)))]) hx hb dL_says_44 hl (by decide) rfl (fun ls hl => ?_)
                refine lv_iinc (v := nI ((z + d) + 1)) (lv' := [(6, .int (nI ((z + d) + 1))), (4, .long (lN (byV (cT T n z) (d + 1)))), (3, .int (nI (z))), (0, .ref ((bd b0) k)), (1, .ref ((bd b0) kt)), (2, .int (nI (n)))]) hx hb dL_says_46 hl (k := 1) rfl (by exact nI_add (z + d) 1) (by decide) rfl (fun ls hl => ?_)
                refine lv_goto (tgt := 13) hx hb dL_says_49 (by decide) ?_
                exact ih13 (d + 1) (by omega) (by omega) _ (lv_sub hl [0, 1, 2, 3, 4, 5] rfl)
              · skip
                have c_30 := (not_congr (nI_leI (by omega) (by omega))).mp c_30
                have hTb := hT (z + d) (by omega)
                refine lv_aload_n hx hb dL_says_33 rfl (lv_at hl 4 rfl) ?_
                refine lv_iload hx hb dL_says_34 (lv_at hl 0 rfl) ?_
                refine mial S hK hP (by omega) hkt_1 (vp_in_nI (by omega) (by omega)) dL_says_36 ?_
                refine tpi (congrArg ((fun x9 => nI (T x9))) (nI_clamp (by omega))) ?_
                refine lv_goto (tgt := 42) hx hb dL_says_37 (by decide) ?_
                refine lv_i2l hx hb dL_says_42 rfl ?_
                refine tpl (nI_l (by omega)) ?_
                refine lv_lor hx hb dL_says_43 ?_
                refine tpl (wb_or (byV_56 (cT_lt hT) (by omega)) (by omega)) ?_
                refine tpl (congrArg lN (byV_s (c := (cT T n z)) (by omega) (by unfold cT; first | exact if_pos (by omega) | exact if_neg (by omega)))) ?_
                refine lv_lstore (lv' := [(4, .long (lN (byV (cT T n z) (d + 1)))), (6, .int (nI (z + d))), (3, .int (nI (z))), (0, .ref ((bd b0) k)), (1, .ref ((bd b0) kt)), (2, .int (nI (n)))]) hx hb dL_says_44 hl (by decide) rfl (fun ls hl => ?_)
                refine lv_iinc (v := nI ((z + d) + 1)) (lv' := [(6, .int (nI ((z + d) + 1))), (4, .long (lN (byV (cT T n z) (d + 1)))), (3, .int (nI (z))), (0, .ref ((bd b0) k)), (1, .ref ((bd b0) kt)), (2, .int (nI (n)))]) hx hb dL_says_46 hl (k := 1) rfl (by exact nI_add (z + d) 1) (by decide) rfl (fun ls hl => ?_)
                refine lv_goto (tgt := 13) hx hb dL_says_49 (by decide) ?_
                exact ih13 (d + 1) (by omega) (by omega) _ (lv_sub hl [0, 1, 2, 3, 4, 5] rfl)
        exact L13 ((8 - 0) + 1) 0 (by omega) (Nat.lt_succ_self _) _ (lv_sub hl [0, 1, 2, 3, 4, 5] rfl)
  exact L2 ((72 - 0) + 1) 0 T0 (by omega) (fun j q => absurd q (Nat.not_lt_zero _)) (Nat.lt_succ_self _) g _ _ ht hob (fun j n0 => hfr j ) hP hS _ (lv_sub hl [0, 1, 2, 3] rfl)

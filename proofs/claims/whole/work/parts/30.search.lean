set_option maxHeartbeats 4000000 in
set_option maxRecDepth 100000 in
theorem c_X2_goesOn (l : Launch) (D : va_G) (cy : Nat → ClassId) (ad : Nat → Nat) (N : Nat) (g : Nat → va_E) (b : Nat) (hbN : b + 10 ≤ N) (gk : Int64) (sd : Int32) (mc : Nat) (go : Int32) (an9 : Int32) (hg : g b = .inr (2, [.ref (ad (b + 1)), .ref (ad (b + 2)), .ref (ad (b + 3)), .ref (ad (b + 4)), .ref (ad (b + 5)), .ref (ad (b + 6)), .ref (ad (b + 7)), .ref (ad (b + 8)), .ref (ad (b + 9)), .long gk, .int sd, .int (nI (mc)), .int go, .int an9])) (hmc : mc ≤ 1500) : Met l yX2_goesOn (WS yX2_goesOn cX2_goesOn 1 (some .boolean)) (rmF 0 0) (PP [.ref (ad b)] D cy ad N g) (vp_Si (fun r => r = if ¬ 0 ≤ go ∧ mc < 1500 then 1 else 0)) 0 0 (fun _ => False) := by
  refine mentry (by decide) (Nat.le_of_ble_eq_true rfl) (fun p e s m below meth c ls S hr hlk hnm hP hK hl => ?_)
  have S : CallFix p m c cX2_goesOn 1 s _ wsL_law RX2 := S
  have hx := S.1
  have hb := S.2.1
  have hl : lv_has ls 1 [(0, .ref (ad b))] := hl
  refine lv_aload_n hx hb dX2_goesOn_0 rfl (lv_at hl 0 rfl) ?_
  refine mg S hK hP (by omega) hg fd_X2_74 rfl dX2_goesOn_1 ?_
  refine lv_if_ge (tgt := 21) hx hb dX2_goesOn_4 (by decide) (fun c_4 => ?_) (fun c_4 => ?_)
  · skip
    refine lv_iconst (v := nI (0)) hx hb dX2_goesOn_21 (by decide) ?_
    exact rSz S hr hlk (by first | exact Or.inl rfl | exact Or.inr rfl) (by first | exact ifT ⟨c_4, by omega⟩ | exact ifF (fun q => q.1 c_4) | exact ifF (fun q => absurd q.2 (by omega))) dX2_goesOn_22
  · skip
    refine lv_aload_n hx hb dX2_goesOn_7 rfl (lv_at hl 0 rfl) ?_
    refine mg S hK hP (by omega) hg fd_X2_70 rfl dX2_goesOn_8 ?_
    refine lv_sipush (v := nI (1500)) hx hb dX2_goesOn_11 (by decide) ?_
    refine lv_icmp_ge (tgt := 21) hx hb dX2_goesOn_14 (by decide) (fun c_14 => ?_) (fun c_14 => ?_)
    · skip
      have c_14 := (nI_leI (by omega) (by omega)).mp c_14
      refine lv_iconst (v := nI (0)) hx hb dX2_goesOn_21 (by decide) ?_
      exact rSz S hr hlk (by first | exact Or.inl rfl | exact Or.inr rfl) (by first | exact ifT ⟨c_4, by omega⟩ | exact ifF (fun q => q.1 c_4) | exact ifF (fun q => absurd q.2 (by omega))) dX2_goesOn_22
    · skip
      have c_14 := (not_congr (nI_leI (by omega) (by omega))).mp c_14
      refine lv_iconst (v := nI (1)) hx hb dX2_goesOn_17 (by decide) ?_
      refine lv_goto (tgt := 22) hx hb dX2_goesOn_18 (by decide) ?_
      exact rSz S hr hlk (by first | exact Or.inl rfl | exact Or.inr rfl) (by first | exact ifT ⟨c_4, by omega⟩ | exact ifF (fun q => q.1 c_4) | exact ifF (fun q => absurd q.2 (by omega))) dX2_goesOn_22
set_option maxHeartbeats 4000000 in
set_option maxRecDepth 100000 in
theorem c_X2_slotOf (l : Launch) (D : va_G) (cy : Nat → ClassId) (ad : Nat → Nat) (N : Nat) (g : Nat → va_E) (b : Nat) (hbN : b + 10 ≤ N) (gk : Int64) (sd : Int32) (mc : Nat) (go : Int32) (an9 : Int32) (hg : g b = .inr (2, [.ref (ad (b + 1)), .ref (ad (b + 2)), .ref (ad (b + 3)), .ref (ad (b + 4)), .ref (ad (b + 5)), .ref (ad (b + 6)), .ref (ad (b + 7)), .ref (ad (b + 8)), .ref (ad (b + 9)), .long gk, .int sd, .int (nI (mc)), .int go, .int an9])) (KY : Nat → Int64) (hk9 : g (b + 3) = .inl (cy 2, 1500, .inr (.inl KY))) (OV : Nat → Int64) (ho9 : g (b + 2) = .inl (cy 2, 1500, .inr (.inl OV))) (SL : Nat → Nat) (hs9 : g (b + 6) = .inl (cy 1, 4096, .inl (fun x9 => nI (SL x9)))) (hSL : ∀ s, s < 4096 → SL s ≤ 1500) (ky : Int64) (ov : Int64) : Met l yX2_slotOf (WS yX2_slotOf cX2_slotOf 10 (some .int)) (rmF 0 0) (PP [.ref (ad b), .long ky, .long ov] D cy ad N g) (vp_Si (fun r => r = nI (slt SL KY OV ky ov))) 0 0 (fun _ => False) := by
  refine mentry (by decide) (Nat.le_of_ble_eq_true rfl) (fun p e s m below meth c ls S hr hlk hnm hP hK hl => ?_)
  have S : CallFix p m c cX2_slotOf 10 s _ wsL_law RX2 := S
  have hx := S.1
  have hb := S.2.1
  have hl : lv_has ls 10 [(0, .ref (ad b)), (1, .long ky), (3, .long ov)] := hl
  refine lv_lload_n hx hb dX2_slotOf_0 rfl (lv_at hl 1 rfl) ?_
  refine lv_ldc2 hx hb S.2.2.2.1 (S.2.2.2.2 _ m_X2_114) dX2_slotOf_1 ?_
  refine lv_lmul hx hb dX2_slotOf_4 ?_
  refine lv_lload_n hx hb dX2_slotOf_5 rfl (lv_at hl 2 rfl) ?_
  refine lv_lxor hx hb dX2_slotOf_6 ?_
  refine lv_ldc2 hx hb S.2.2.2.1 (S.2.2.2.2 _ m_X2_116) dX2_slotOf_7 ?_
  refine lv_lmul hx hb dX2_slotOf_10 ?_
  refine lv_lstore (lv' := [(5, .long (((ky * ((-7046029254386353131))) ^^^ ov) * ((-4417276706812531889)))), (0, .ref (ad b)), (1, .long ky), (3, .long ov)]) hx hb dX2_slotOf_11 hl (by decide) rfl (fun ls hl => ?_)
  refine lv_lload hx hb dX2_slotOf_13 (lv_at hl 0 rfl) ?_
  refine lv_bipush (v := nI (52)) hx hb dX2_slotOf_15 (by decide) ?_
  refine lv_lushr hx hb dX2_slotOf_17 rfl ?_
  refine lv_l2i hx hb dX2_slotOf_18 rfl ?_
  refine tpi (hom_k0 ky ov) ?_
  refine lv_sipush (v := nI (4095)) hx hb dX2_slotOf_19 (by decide) ?_
  refine lv_iand hx hb dX2_slotOf_22 ?_
  refine tpi (nx_and ((hom ky ov + 0) % 4096) 4095) ?_
  refine tpi (congrArg nI (hom_m0 (hom ky ov + 0))) ?_
  refine lv_istore (lv' := [(7, .int (nI ((hom ky ov + 0) % 4096))), (5, .long (((ky * ((-7046029254386353131))) ^^^ ov) * ((-4417276706812531889)))), (0, .ref (ad b)), (1, .long ky), (3, .long ov)]) hx hb dX2_slotOf_23 hl (by decide) rfl (fun ls hl => ?_)
  refine lv_iconst (v := nI (0)) hx hb dX2_slotOf_25 (by decide) ?_
  refine lv_istore (lv' := [(8, .int (nI (0))), (7, .int (nI ((hom ky ov + 0) % 4096))), (5, .long (((ky * ((-7046029254386353131))) ^^^ ov) * ((-4417276706812531889)))), (0, .ref (ad b)), (1, .long ky), (3, .long ov)]) hx hb dX2_slotOf_26 hl (by decide) rfl (fun ls hl => ?_)
  have L28 : ∀ (fu : Nat) (d : Nat), (d ≤ 4096) → (∀ j, j < d → stP SL KY OV (hom ky ov) ky ov j = false) → (4096 - d) < fu → ∀ (ls : Array Slot), lv_has ls 10 [(8, .int (nI (d))), (7, .int (nI ((hom ky ov + d) % 4096))), (0, .ref (ad b)), (1, .long ky), (3, .long ov)] → W p l e (rmF 0 0) s m [.ref (ad b), .long ky, .long ov].toArray below meth c s.heap [] 0 0 (MQ below (vp_Si (fun r => r = nI (slt SL KY OV ky ov))) [.ref (ad b), .long ky, .long ov].toArray s 0 0 (fun _ => False)) (F0 m 28 ls []) := by
    intro fu
    induction fu with
    | zero => intro d hd hno hms ls hl; exact absurd hms (Nat.not_lt_zero _)
    | succ fu ih28 =>
      intro d hd hno hms ls hl
      refine lv_iload hx hb dX2_slotOf_28 (lv_at hl 0 rfl) ?_
      refine lv_sipush (v := nI (4096)) hx hb dX2_slotOf_30 (by decide) ?_
      refine lv_icmp_ge (tgt := 113) hx hb dX2_slotOf_33 (by decide) (fun c_33 => ?_) (fun c_33 => ?_)
      · skip
        have c_33 := (nI_leI (by omega) (by omega)).mp c_33
        have hR : slt SL KY OV ky ov = (hom ky ov + d) % 4096 := slt_no hno (by omega)
        refine lv_iload hx hb dX2_slotOf_113 (lv_at hl 1 rfl) ?_
        exact rSi S hr hlk (by rw [hR]) dX2_slotOf_115
      · skip
        have c_33 := (not_congr (nI_leI (by omega) (by omega))).mp c_33
        have hSd := hSL ((hom ky ov + d) % 4096) (Nat.mod_lt _ (by decide))
        refine lv_aload_n hx hb dX2_slotOf_36 rfl (lv_at hl 2 rfl) ?_
        refine mg S hK hP (by omega) hg fd_X2_28 rfl dX2_slotOf_37 ?_
        refine lv_iload hx hb dX2_slotOf_40 (lv_at hl 1 rfl) ?_
        refine mial S hK hP (by omega) hs9 (vp_in_nI (by omega) (by omega)) dX2_slotOf_42 ?_
        refine tpi (congrArg ((fun x9 => nI (SL x9))) (nI_clamp (by omega))) ?_
        refine lv_if_eq (tgt := 113) hx hb dX2_slotOf_43 (by decide) (fun c_43 => ?_) (fun c_43 => ?_)
        · skip
          have c_43 := (z_eq (by omega)).mp c_43
          have hR : slt SL KY OV ky ov = (hom ky ov + d) % 4096 := slt_at hno (stP_0 c_43) (by omega)
          refine lv_iload hx hb dX2_slotOf_113 (lv_at hl 1 rfl) ?_
          exact rSi S hr hlk (by rw [hR]) dX2_slotOf_115
        · skip
          have c_43 := (not_congr (z_eq (by omega))).mp c_43
          refine lv_aload_n hx hb dX2_slotOf_46 rfl (lv_at hl 2 rfl) ?_
          refine mg S hK hP (by omega) hg fd_X2_28 rfl dX2_slotOf_47 ?_
          refine lv_iload hx hb dX2_slotOf_50 (lv_at hl 1 rfl) ?_
          refine mial S hK hP (by omega) hs9 (vp_in_nI (by omega) (by omega)) dX2_slotOf_52 ?_
          refine tpi (congrArg ((fun x9 => nI (SL x9))) (nI_clamp (by omega))) ?_
          refine lv_iconst (v := nI (1)) hx hb dX2_slotOf_53 (by decide) ?_
          refine lv_isub hx hb dX2_slotOf_54 ?_
          refine tpi (pk_sub (a := SL ((hom ky ov + d) % 4096)) (b := 1) (by omega)) ?_
          refine lv_istore (lv' := [(9, .int (nI ((SL ((hom ky ov + d) % 4096)) - 1))), (8, .int (nI (d))), (7, .int (nI ((hom ky ov + d) % 4096))), (0, .ref (ad b)), (1, .long ky), (3, .long ov)]) hx hb dX2_slotOf_55 hl (by decide) rfl (fun ls hl => ?_)
          refine lv_iload hx hb dX2_slotOf_57 (lv_at hl 0 rfl) ?_
          refine lv_if_lt (tgt := 113) hx hb dX2_slotOf_59 (by decide) (fun c_59 => ?_) (fun c_59 => ?_)
          · skip
            have c_59 := (z_lt (by omega)).mp c_59
            exact c_59.elim
          · skip
            have c_59 := (not_congr (z_lt (by omega))).mp c_59
            refine lv_iload hx hb dX2_slotOf_62 (lv_at hl 0 rfl) ?_
            refine lv_sipush (v := nI (1500)) hx hb dX2_slotOf_64 (by decide) ?_
            refine lv_icmp_ge (tgt := 113) hx hb dX2_slotOf_67 (by decide) (fun c_67 => ?_) (fun c_67 => ?_)
            · skip
              have c_67 := (nI_leI (by omega) (by omega)).mp c_67
              exact absurd c_67 (by omega)
            · skip
              have c_67 := (not_congr (nI_leI (by omega) (by omega))).mp c_67
              refine lv_aload_n hx hb dX2_slotOf_70 rfl (lv_at hl 3 rfl) ?_
              refine mg S hK hP (by omega) hg fd_X2_18 rfl dX2_slotOf_71 ?_
              refine lv_iload hx hb dX2_slotOf_74 (lv_at hl 0 rfl) ?_
              refine mlal S hK hP (by omega) hk9 (vp_in_nI (by omega) (by omega)) dX2_slotOf_76 ?_
              refine tpl (congrArg KY (nI_clamp (by omega))) ?_
              refine lv_lload_n hx hb dX2_slotOf_77 rfl (lv_at hl 4 rfl) ?_
              refine W.lcmp hx hb dX2_slotOf_78 ?_
              refine lv_if_ne (tgt := 97) hx hb dX2_slotOf_79 (by decide) (fun c_79 => ?_) (fun c_79 => ?_)
              · skip
                have c_79 := (not_congr (lg_cmp_eq _ _)).mp c_79
                refine lv_iload hx hb dX2_slotOf_97 (lv_at hl 2 rfl) ?_
                refine lv_iconst (v := nI (1)) hx hb dX2_slotOf_99 (by decide) ?_
                refine lv_iadd hx hb dX2_slotOf_100 ?_
                refine tpi (nI_add ((hom ky ov + d) % 4096) 1) ?_
                refine lv_sipush (v := nI (4095)) hx hb dX2_slotOf_101 (by decide) ?_
                refine lv_iand hx hb dX2_slotOf_104 ?_
                refine tpi (nx_and (((hom ky ov + d) % 4096) + 1) 4095) ?_
                refine tpi (congrArg nI sl_nx) ?_
                refine lv_istore (lv' := [(7, .int (nI ((hom ky ov + (d + 1)) % 4096))), (9, .int (nI ((SL ((hom ky ov + d) % 4096)) - 1))), (8, .int (nI (d))), (0, .ref (ad b)), (1, .long ky), (3, .long ov)]) hx hb dX2_slotOf_105 hl (by decide) rfl (fun ls hl => ?_)
                refine lv_iinc (v := nI (d + 1)) (lv' := [(8, .int (nI (d + 1))), (7, .int (nI ((hom ky ov + (d + 1)) % 4096))), (9, .int (nI ((SL ((hom ky ov + d) % 4096)) - 1))), (0, .ref (ad b)), (1, .long ky), (3, .long ov)]) hx hb dX2_slotOf_107 hl (k := 2) rfl (by exact nI_add d 1) (by decide) rfl (fun ls hl => ?_)
                refine lv_goto (tgt := 28) hx hb dX2_slotOf_110 (by decide) ?_
                exact ih28 (d + 1) (by omega) (lt_sn hno (by first | exact stP_f c_43 (Or.inl c_79) | exact stP_f c_43 (Or.inr c_91))) (by omega) _ (lv_sub hl [0, 1, 3, 4, 5] rfl)
              · skip
                have c_79 := (lg_cmp_eq _ _).mp c_79
                refine lv_aload_n hx hb dX2_slotOf_82 rfl (lv_at hl 3 rfl) ?_
                refine mg S hK hP (by omega) hg fd_X2_15 rfl dX2_slotOf_83 ?_
                refine lv_iload hx hb dX2_slotOf_86 (lv_at hl 0 rfl) ?_
                refine mlal S hK hP (by omega) ho9 (vp_in_nI (by omega) (by omega)) dX2_slotOf_88 ?_
                refine tpl (congrArg OV (nI_clamp (by omega))) ?_
                refine lv_lload_n hx hb dX2_slotOf_89 rfl (lv_at hl 5 rfl) ?_
                refine W.lcmp hx hb dX2_slotOf_90 ?_
                refine lv_if_ne (tgt := 97) hx hb dX2_slotOf_91 (by decide) (fun c_91 => ?_) (fun c_91 => ?_)
                · skip
                  have c_91 := (not_congr (lg_cmp_eq _ _)).mp c_91
                  refine lv_iload hx hb dX2_slotOf_97 (lv_at hl 2 rfl) ?_
                  refine lv_iconst (v := nI (1)) hx hb dX2_slotOf_99 (by decide) ?_
                  refine lv_iadd hx hb dX2_slotOf_100 ?_
                  refine tpi (nI_add ((hom ky ov + d) % 4096) 1) ?_
                  refine lv_sipush (v := nI (4095)) hx hb dX2_slotOf_101 (by decide) ?_
                  refine lv_iand hx hb dX2_slotOf_104 ?_
                  refine tpi (nx_and (((hom ky ov + d) % 4096) + 1) 4095) ?_
                  refine tpi (congrArg nI sl_nx) ?_
                  refine lv_istore (lv' := [(7, .int (nI ((hom ky ov + (d + 1)) % 4096))), (9, .int (nI ((SL ((hom ky ov + d) % 4096)) - 1))), (8, .int (nI (d))), (0, .ref (ad b)), (1, .long ky), (3, .long ov)]) hx hb dX2_slotOf_105 hl (by decide) rfl (fun ls hl => ?_)
                  refine lv_iinc (v := nI (d + 1)) (lv' := [(8, .int (nI (d + 1))), (7, .int (nI ((hom ky ov + (d + 1)) % 4096))), (9, .int (nI ((SL ((hom ky ov + d) % 4096)) - 1))), (0, .ref (ad b)), (1, .long ky), (3, .long ov)]) hx hb dX2_slotOf_107 hl (k := 2) rfl (by exact nI_add d 1) (by decide) rfl (fun ls hl => ?_)
                  refine lv_goto (tgt := 28) hx hb dX2_slotOf_110 (by decide) ?_
                  exact ih28 (d + 1) (by omega) (lt_sn hno (by first | exact stP_f c_43 (Or.inl c_79) | exact stP_f c_43 (Or.inr c_91))) (by omega) _ (lv_sub hl [0, 1, 3, 4, 5] rfl)
                · skip
                  have c_91 := (lg_cmp_eq _ _).mp c_91
                  have hR : slt SL KY OV ky ov = (hom ky ov + d) % 4096 := slt_at hno (stP_t c_79 c_91) (by omega)
                  refine lv_goto (tgt := 113) hx hb dX2_slotOf_94 (by decide) ?_
                  refine lv_iload hx hb dX2_slotOf_113 (lv_at hl 2 rfl) ?_
                  exact rSi S hr hlk (by rw [hR]) dX2_slotOf_115
  exact L28 ((4096 - 0) + 1) 0 (by omega) (fun j q => absurd q (Nat.not_lt_zero _)) (Nat.lt_succ_self _) _ (lv_sub hl [0, 1, 3, 4, 5] rfl)

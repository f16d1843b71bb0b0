set_option maxHeartbeats 4000000 in
set_option maxRecDepth 100000 in
theorem c_X3_lengthAt (l : Launch) (D : va_G) (cy : Nat → ClassId) (ad : Nat → Nat) (N : Nat) (g : Nat → va_E) (b : Nat) (hbN : b + 21 ≤ N) (hg : g b = .inr (3, [.ref (ad (b + 1)), .ref (ad (b + 19))])) (rfn : Nat → Option Nat) (hgo : g (b + 1) = .inl (cy 7, 17, .inr (.inr (.inr (.inr rfn))))) (hrf : ∀ j, j < 17 → rfn j = some (ad (b + 2 + j))) (Lm : Nat → Nat → Nat) (hLm : (∀ j : Nat, j < 17 → g (b + 2 + j) = .inl (cy 1, 17, .inl (fun x9 => nI ((Lm j) x9))))) (hLmb : ∀ i j, Lm i j ≤ 100) (k1 : Nat) (hk1 : k1 < N) (kv1 : Nat) (hkv1 : kv1 < N) (n1 : Nat) (V1 : Nat → Nat) (hv1 : g k1 = .inr (7, [.ref (ad kv1), .int (nI (n1))])) (hvv1 : g kv1 = .inl (cy 1, 16, .inl (fun x9 => nI (V1 x9)))) (hk1kv : k1 ≠ kv1) (hn1 : n1 ≤ 16) (hV1 : ∀ i, V1 i < 8) (hko1 : (k1 < b ∨ b + 21 ≤ k1) ∧ (kv1 < b ∨ b + 21 ≤ kv1)) (k2 : Nat) (hk2 : k2 < N) (kv2 : Nat) (hkv2 : kv2 < N) (n2 : Nat) (V2 : Nat → Nat) (hv2 : g k2 = .inr (7, [.ref (ad kv2), .int (nI (n2))])) (hvv2 : g kv2 = .inl (cy 1, 16, .inl (fun x9 => nI (V2 x9)))) (hk2kv : k2 ≠ kv2) (hn2 : n2 ≤ 16) (hV2 : ∀ i, V2 i < 8) (hko2 : (k2 < b ∨ b + 21 ≤ k2) ∧ (kv2 < b ∨ b + 21 ≤ kv2)) (i : Nat) (j : Nat) (hi : i < n1) (hj : j < n2) (hL1 : Lm (i + 1) (j + 1) = lc V1 V2 n1 n2 (i + 1) (j + 1)) (hL2 : Lm (i + 1) j = lc V1 V2 n1 n2 (i + 1) j) (hL3 : Lm i (j + 1) = lc V1 V2 n1 n2 i (j + 1)) : Met l yX3_lengthAt (WS yX3_lengthAt cX3_lengthAt 5 (some .int)) (rmF 1 21) (PP [.ref (ad b), .ref (ad k1), .int (nI (i)), .ref (ad k2), .int (nI (j))] D cy ad N g) (vp_Si (fun r => r = nI (lc V1 V2 n1 n2 i j))) 0 0 (fun _ => False) := by
  refine mentry (by decide) (Nat.le_of_ble_eq_true rfl) (fun p e s m below meth c ls S hr hlk hnm hP hK hl => ?_)
  have S : CallFix p m c cX3_lengthAt 5 s _ wsL_law RX3 := S
  have hx := S.1
  have hb := S.2.1
  have hl : lv_has ls 5 [(0, .ref (ad b)), (1, .ref (ad k1)), (2, .int (nI (i))), (3, .ref (ad k2)), (4, .int (nI (j)))] := hl
  refine lv_iload_n hx hb dX3_lengthAt_0 rfl (lv_at hl 2 rfl) ?_
  refine lv_if_lt (tgt := 22) hx hb dX3_lengthAt_1 (by decide) (fun c_1 => ?_) (fun c_1 => ?_)
  · skip
    have c_1 := (z_lt (by omega)).mp c_1
    exact c_1.elim
  · skip
    have c_1 := (not_congr (z_lt (by omega))).mp c_1
    refine lv_iload_n hx hb dX3_lengthAt_4 rfl (lv_at hl 2 rfl) ?_
    refine lv_bipush (v := nI (16)) hx hb dX3_lengthAt_5 (by decide) ?_
    refine lv_icmp_ge (tgt := 22) hx hb dX3_lengthAt_7 (by decide) (fun c_7 => ?_) (fun c_7 => ?_)
    · skip
      have c_7 := (nI_leI (by omega) (by omega)).mp c_7
      exact absurd c_7 (by omega)
    · skip
      have c_7 := (not_congr (nI_leI (by omega) (by omega))).mp c_7
      refine lv_iload hx hb dX3_lengthAt_10 (lv_at hl 4 rfl) ?_
      refine lv_if_lt (tgt := 22) hx hb dX3_lengthAt_12 (by decide) (fun c_12 => ?_) (fun c_12 => ?_)
      · skip
        have c_12 := (z_lt (by omega)).mp c_12
        exact c_12.elim
      · skip
        have c_12 := (not_congr (z_lt (by omega))).mp c_12
        refine lv_iload hx hb dX3_lengthAt_15 (lv_at hl 4 rfl) ?_
        refine lv_bipush (v := nI (16)) hx hb dX3_lengthAt_17 (by decide) ?_
        refine lv_icmp_lt (tgt := 24) hx hb dX3_lengthAt_19 (by decide) (fun c_19 => ?_) (fun c_19 => ?_)
        · skip
          have c_19 := (nI_ltI (by omega) (by omega)).mp c_19
          refine lv_aload_n hx hb dX3_lengthAt_24 rfl (lv_at hl 1 rfl) ?_
          refine lv_iload_n hx hb dX3_lengthAt_25 rfl (lv_at hl 2 rfl) ?_
          refine kVi (As := [.int (nI (i))]) (rest := []) S hK hP (c_X7_figureAt l D cy ad N g k1 hk1 kv1 hkv1 n1 V1 hv1 hvv1 hk1kv hn1 hV1 i (by omega)) cv_X3_47 hk1 hv1 ⟨_, _, rfl⟩ ⟨rfl, rfl⟩ rfl hl.1 rfl (Nat.le_of_ble_eq_true rfl) ⟨Nat.zero_le _, Nat.zero_le _⟩ dX3_lengthAt_26 (fun r_26 q_26 => ?_)
          subst q_26
          refine tpi (if_pos hi) ?_
          have hVi := hV1 i
          refine lv_aload_n hx hb dX3_lengthAt_29 rfl (lv_at hl 3 rfl) ?_
          refine lv_iload hx hb dX3_lengthAt_30 (lv_at hl 4 rfl) ?_
          refine kVi (As := [.int (nI (j))]) (rest := [.int (nI (V1 i))]) S hK hP (c_X7_figureAt l D cy ad N g k2 hk2 kv2 hkv2 n2 V2 hv2 hvv2 hk2kv hn2 hV2 j (by omega)) cv_X3_47 hk2 hv2 ⟨_, _, rfl⟩ ⟨rfl, rfl⟩ rfl hl.1 rfl (Nat.le_of_ble_eq_true rfl) ⟨Nat.zero_le _, Nat.zero_le _⟩ dX3_lengthAt_32 (fun r_32 q_32 => ?_)
          subst q_32
          refine tpi (if_pos hj) ?_
          have hVj := hV2 j
          refine lv_icmp_ne (tgt := 54) hx hb dX3_lengthAt_35 (by decide) (fun c_35 => ?_) (fun c_35 => ?_)
          · skip
            have c_35 := (not_congr (nI_eq (by omega) (by omega))).mp c_35
            refine lv_aload_n hx hb dX3_lengthAt_54 rfl (lv_at hl 0 rfl) ?_
            refine mg S hK hP (by omega) hg fd_X3_11 rfl dX3_lengthAt_55 ?_
            refine lv_iload_n hx hb dX3_lengthAt_58 rfl (lv_at hl 2 rfl) ?_
            refine lv_iconst (v := nI (1)) hx hb dX3_lengthAt_59 (by decide) ?_
            refine lv_iadd hx hb dX3_lengthAt_60 ?_
            refine tpi (nI_add i 1) ?_
            have hrow_0 : i + 1 < 17 := by omega
            have hfc_1 : g (b + 2 + (i + 1)) = .inl (cy 1, 17, .inl (fun x9 => nI ((Lm (i + 1)) x9))) := hLm (i + 1) hrow_0
            refine mial7A S hK hP (by omega) hgo rfl (vp_in_nI (by omega) (by omega)) (a := ad (b + 2 + (i + 1))) ((congrArg rfn (nI_clamp (by omega))).trans (hrf _ hrow_0)) dX3_lengthAt_61 ?_
            refine lv_iload hx hb dX3_lengthAt_62 (lv_at hl 4 rfl) ?_
            refine mial S hK hP (by omega) hfc_1 (vp_in_nI (by omega) (by omega)) dX3_lengthAt_64 ?_
            refine tpi (congrArg ((fun x9 => nI ((Lm (i + 1)) x9))) (nI_clamp (by omega))) ?_
            refine tpi (by rw [hL2]) ?_
            refine lv_aload_n hx hb dX3_lengthAt_65 rfl (lv_at hl 0 rfl) ?_
            refine mg S hK hP (by omega) hg fd_X3_11 rfl dX3_lengthAt_66 ?_
            refine lv_iload_n hx hb dX3_lengthAt_69 rfl (lv_at hl 2 rfl) ?_
            have hrow_1 : i < 17 := by omega
            have hfc_2 : g (b + 2 + i) = .inl (cy 1, 17, .inl (fun x9 => nI ((Lm i) x9))) := hLm i hrow_1
            refine mial7A S hK hP (by omega) hgo rfl (vp_in_nI (by omega) (by omega)) (a := ad (b + 2 + i)) ((congrArg rfn (nI_clamp (by omega))).trans (hrf _ hrow_1)) dX3_lengthAt_70 ?_
            refine lv_iload hx hb dX3_lengthAt_71 (lv_at hl 4 rfl) ?_
            refine lv_iconst (v := nI (1)) hx hb dX3_lengthAt_73 (by decide) ?_
            refine lv_iadd hx hb dX3_lengthAt_74 ?_
            refine tpi (nI_add j 1) ?_
            refine mial S hK hP (by omega) hfc_2 (vp_in_nI (by omega) (by omega)) dX3_lengthAt_75 ?_
            refine tpi (congrArg ((fun x9 => nI ((Lm i) x9))) (nI_clamp (by omega))) ?_
            refine tpi (by rw [hL3]) ?_
            have hb1 := lc_le' (V1 := V1) (V2 := V2) (n1 := n1) (n2 := n2) (i := i) (j := j + 1)
            have hb2 := lc_le' (V1 := V1) (V2 := V2) (n1 := n1) (n2 := n2) (i := i + 1) (j := j)
            refine va_mmax (rest := []) hx hb (S.2.2.1.trans hl.1.symm) S.2.2.2.1 (S.2.2.2.2 _ m_X3_51) (S.2.2.2.2 _ mt_Lib_Math_max_name) (S.2.2.2.2 _ mn_java_lang_Math) (S.2.2.2.2 _ mc_Lib_Math_max_name) (Nat.le_of_ble_eq_true rfl) (Nat.le_of_ble_eq_true rfl) (Nat.zero_le _) (Nat.zero_le _) dX3_lengthAt_76 ?_
            refine tpi (maxN (by omega) (by omega)) ?_
            exact rSi S hr hlk (by rw [lc_ne hi hj c_35]) dX3_lengthAt_79
          · skip
            have c_35 := (nI_eq (by omega) (by omega)).mp c_35
            refine lv_aload_n hx hb dX3_lengthAt_38 rfl (lv_at hl 0 rfl) ?_
            refine mg S hK hP (by omega) hg fd_X3_11 rfl dX3_lengthAt_39 ?_
            refine lv_iload_n hx hb dX3_lengthAt_42 rfl (lv_at hl 2 rfl) ?_
            refine lv_iconst (v := nI (1)) hx hb dX3_lengthAt_43 (by decide) ?_
            refine lv_iadd hx hb dX3_lengthAt_44 ?_
            refine tpi (nI_add i 1) ?_
            have hrow_2 : i + 1 < 17 := by omega
            have hfc_3 : g (b + 2 + (i + 1)) = .inl (cy 1, 17, .inl (fun x9 => nI ((Lm (i + 1)) x9))) := hLm (i + 1) hrow_2
            refine mial7A S hK hP (by omega) hgo rfl (vp_in_nI (by omega) (by omega)) (a := ad (b + 2 + (i + 1))) ((congrArg rfn (nI_clamp (by omega))).trans (hrf _ hrow_2)) dX3_lengthAt_45 ?_
            refine lv_iload hx hb dX3_lengthAt_46 (lv_at hl 4 rfl) ?_
            refine lv_iconst (v := nI (1)) hx hb dX3_lengthAt_48 (by decide) ?_
            refine lv_iadd hx hb dX3_lengthAt_49 ?_
            refine tpi (nI_add j 1) ?_
            refine mial S hK hP (by omega) hfc_3 (vp_in_nI (by omega) (by omega)) dX3_lengthAt_50 ?_
            refine tpi (congrArg ((fun x9 => nI ((Lm (i + 1)) x9))) (nI_clamp (by omega))) ?_
            refine tpi (by rw [hL1]) ?_
            refine lv_iconst (v := nI (1)) hx hb dX3_lengthAt_51 (by decide) ?_
            refine lv_iadd hx hb dX3_lengthAt_52 ?_
            refine tpi (nI_add (lc V1 V2 n1 n2 (i + 1) (j + 1)) 1) ?_
            exact rSi S hr hlk (by rw [lc_eq hi hj c_35]) dX3_lengthAt_53
        · skip
          have c_19 := (not_congr (nI_ltI (by omega) (by omega))).mp c_19
          exact absurd c_19 (by omega)


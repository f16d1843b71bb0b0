set_option maxHeartbeats 4000000 in
set_option maxRecDepth 100000 in
theorem c_L_part (l : Launch) (D : va_G) (cy : Nat → ClassId) (ad : Nat → Nat) (N : Nat) (g : Nat → va_E) (v : Int32) (n : Nat) (hn : 0 < n ∧ n < 1000) : Met l yL_part (WS yL_part cL_part 2 (some .int)) (rmF 0 0) (PP [.int v, .int (nI (n))] D cy ad N g) (vp_Si (fun r => r = nI (ptv v n))) 0 0 (fun _ => False) := by
  refine mentry (by decide) (Nat.le_of_ble_eq_true rfl) (fun p e s m below meth c ls S hr hlk hnm hP hK hl => ?_)
  have S : CallFix p m c cL_part 2 s _ wsL_law RL := S
  have hx := S.1
  have hb := S.2.1
  have hl : lv_has ls 2 [(0, .int v), (1, .int (nI (n)))] := hl
  have hM := Nat.mod_lt v.toBitVec.toNat (show 0 < 2147483648 by decide)
  refine lv_iload_n hx hb dL_part_0 rfl (lv_at hl 0 rfl) ?_
  refine lv_ldc hx hb S.2.2.2.1 (S.2.2.2.2 _ m_L_7) dL_part_1 ?_
  refine tpi (show (2147483647 : Int32) = nI 2147483647 from rfl) ?_
  refine lv_iand hx hb dL_part_3 ?_
  refine tpi (y := nI (v.toBitVec.toNat % 2147483648)) (pt_and v) ?_
  refine lv_iload_n hx hb dL_part_4 rfl (lv_at hl 1 rfl) ?_
  refine lv_irem hx hb dL_part_5 (fun h => by have h := (z_eq (by omega)).mp h; omega) ?_
  refine tpi (pk_rem (a := v.toBitVec.toNat % 2147483648) (by omega) (by omega) (by omega)) ?_
  exact rSi S hr hlk rfl dL_part_6
set_option maxHeartbeats 4000000 in
set_option maxRecDepth 100000 in
theorem c_L_letter (l : Launch) (D : va_G) (cy : Nat → ClassId) (ad : Nat → Nat) (N : Nat) (g : Nat → va_E) (s0 : Nat) (hs : s0 ≤ 5) : Met l yL_letter (WS yL_letter cL_letter 1 (some .int)) (rmF 0 0) (PP [.int (nI (s0))] D cy ad N g) (vp_Si (fun r => r = nI (ltr s0))) 0 0 (fun _ => False) := by
  refine mentry (by decide) (Nat.le_of_ble_eq_true rfl) (fun p e s m below meth c ls S hr hlk hnm hP hK hl => ?_)
  have S : CallFix p m c cL_letter 1 s _ wsL_law RL := S
  have hx := S.1
  have hb := S.2.1
  have hl : lv_has ls 1 [(0, .int (nI (s0)))] := hl
  refine lv_iload_n hx hb dL_letter_0 rfl (lv_at hl 0 rfl) ?_
  refine lv_if_ne (tgt := 9) hx hb dL_letter_1 (by decide) (fun c_1 => ?_) (fun c_1 => ?_)
  · skip
    have c_1 := (not_congr (z_eq (by omega))).mp c_1
    refine lv_iload_n hx hb dL_letter_9 rfl (lv_at hl 0 rfl) ?_
    refine lv_iconst (v := nI (1)) hx hb dL_letter_10 (by decide) ?_
    refine lv_icmp_ne (tgt := 19) hx hb dL_letter_11 (by decide) (fun c_11 => ?_) (fun c_11 => ?_)
    · skip
      have c_11 := (not_congr (nI_eq (by omega) (by omega))).mp c_11
      refine lv_iload_n hx hb dL_letter_19 rfl (lv_at hl 0 rfl) ?_
      refine lv_iconst (v := nI (2)) hx hb dL_letter_20 (by decide) ?_
      refine lv_icmp_ne (tgt := 29) hx hb dL_letter_21 (by decide) (fun c_21 => ?_) (fun c_21 => ?_)
      · skip
        have c_21 := (not_congr (nI_eq (by omega) (by omega))).mp c_21
        refine lv_iload_n hx hb dL_letter_29 rfl (lv_at hl 0 rfl) ?_
        refine lv_iconst (v := nI (3)) hx hb dL_letter_30 (by decide) ?_
        refine lv_icmp_ne (tgt := 39) hx hb dL_letter_31 (by decide) (fun c_31 => ?_) (fun c_31 => ?_)
        · skip
          have c_31 := (not_congr (nI_eq (by omega) (by omega))).mp c_31
          refine lv_iload_n hx hb dL_letter_39 rfl (lv_at hl 0 rfl) ?_
          refine lv_iconst (v := nI (4)) hx hb dL_letter_40 (by decide) ?_
          refine lv_icmp_ne (tgt := 49) hx hb dL_letter_41 (by decide) (fun c_41 => ?_) (fun c_41 => ?_)
          · skip
            have c_41 := (not_congr (nI_eq (by omega) (by omega))).mp c_41
            refine lv_bipush (v := nI (107)) hx hb dL_letter_49 (by decide) ?_
            exact rSi S hr hlk (by unfold ltr; rw [if_neg c_1, if_neg c_11, if_neg c_21, if_neg c_31, if_neg c_41]) dL_letter_51
          · skip
            have c_41 := (nI_eq (by omega) (by omega)).mp c_41
            refine lv_bipush (v := nI (100)) hx hb dL_letter_44 (by decide) ?_
            refine lv_goto (tgt := 51) hx hb dL_letter_46 (by decide) ?_
            exact rSi S hr hlk (by unfold ltr; rw [if_neg c_1, if_neg c_11, if_neg c_21, if_neg c_31, if_pos c_41]) dL_letter_51
        · skip
          have c_31 := (nI_eq (by omega) (by omega)).mp c_31
          refine lv_bipush (v := nI (114)) hx hb dL_letter_34 (by decide) ?_
          refine lv_goto (tgt := 51) hx hb dL_letter_36 (by decide) ?_
          exact rSi S hr hlk (by unfold ltr; rw [if_neg c_1, if_neg c_11, if_neg c_21, if_pos c_31]) dL_letter_51
      · skip
        have c_21 := (nI_eq (by omega) (by omega)).mp c_21
        refine lv_bipush (v := nI (116)) hx hb dL_letter_24 (by decide) ?_
        refine lv_goto (tgt := 51) hx hb dL_letter_26 (by decide) ?_
        exact rSi S hr hlk (by unfold ltr; rw [if_neg c_1, if_neg c_11, if_pos c_21]) dL_letter_51
    · skip
      have c_11 := (nI_eq (by omega) (by omega)).mp c_11
      refine lv_bipush (v := nI (111)) hx hb dL_letter_14 (by decide) ?_
      refine lv_goto (tgt := 51) hx hb dL_letter_16 (by decide) ?_
      exact rSi S hr hlk (by unfold ltr; rw [if_neg c_1, if_pos c_11]) dL_letter_51
  · skip
    have c_1 := (z_eq (by omega)).mp c_1
    refine lv_bipush (v := nI (117)) hx hb dL_letter_4 (by decide) ?_
    refine lv_goto (tgt := 51) hx hb dL_letter_6 (by decide) ?_
    exact rSi S hr hlk (by unfold ltr; rw [if_pos c_1]) dL_letter_51
set_option maxHeartbeats 4000000 in
set_option maxRecDepth 100000 in
theorem c_L_cell (l : Launch) (D : va_G) (cy : Nat → ClassId) (ad : Nat → Nat) (N : Nat) (g : Nat → va_E) (b L : Nat) (xs : Nat → Int32) (k : Nat) (hk : k < 1000) (hL : L < 1000) : Met l yL_cell (WS yL_cell cL_cell 2 (some .int)) (rmF 0 0) (PPS [.ref b, .int (nI (k))] D cy ad N g b L xs) (vp_Si (fun r => r = cev xs L k)) 0 0 (fun _ => False) := by
  refine pentry (by decide) (Nat.le_of_ble_eq_true rfl) (fun p e s m below meth c ls S hr hlk hnm hP hK hX hbl hbA hl => ?_)
  have S : CallFix p m c cL_cell 2 s _ wsL_law RL := S
  have hx := S.1
  have hb := S.2.1
  have hl : lv_has ls 2 [(0, .ref b), (1, .int (nI (k)))] := hl
  refine lv_aload_n hx hb dL_cell_0 rfl (lv_at hl 0 rfl) ?_
  refine va_slen hx hb hX hbl hbA (va_S.rf (A := AA ad N)) dL_cell_1 ?_
  refine tpi (show Int32.ofNat L = nI L from rfl) ?_
  refine lv_if_ne (tgt := 15) hx hb dL_cell_2 (by decide) (fun c_2 => ?_) (fun c_2 => ?_)
  · skip
    have c_2 := (not_congr (z_eq (by omega))).mp c_2
    have hkL := Nat.mod_lt k (show 0 < L by omega)
    refine lv_aload_n hx hb dL_cell_15 rfl (lv_at hl 0 rfl) ?_
    refine lv_iload_n hx hb dL_cell_16 rfl (lv_at hl 1 rfl) ?_
    refine lv_aload_n hx hb dL_cell_17 rfl (lv_at hl 0 rfl) ?_
    refine va_slen hx hb hX hbl hbA (va_S.rf (A := AA ad N)) dL_cell_18 ?_
    refine tpi (show Int32.ofNat L = nI L from rfl) ?_
    refine lv_irem hx hb dL_cell_19 (fun h => by have h := (z_eq (by omega)).mp h; omega) ?_
    refine tpi (pk_rem (a := k) (by omega) (by omega) (by omega)) ?_
    refine va_sld hx hb hX hbl hbA (va_S.rf (A := AA ad N)) (vp_in_nI (by omega) (by omega)) dL_cell_20 ?_
    refine tpi (congrArg xs (nI_clamp (by omega))) ?_
    refine lv_iload_n hx hb dL_cell_21 rfl (lv_at hl 1 rfl) ?_
    refine lv_bipush (v := nI (7)) hx hb dL_cell_22 (by decide) ?_
    refine lv_irem hx hb dL_cell_24 (fun h => by have h := (z_eq (by omega)).mp h; omega) ?_
    refine tpi (pk_rem (a := k) (by omega) (by omega) (by omega)) ?_
    refine lv_ishr hx hb dL_cell_25 ?_
    refine lv_iload_n hx hb dL_cell_26 rfl (lv_at hl 1 rfl) ?_
    refine lv_aload_n hx hb dL_cell_27 rfl (lv_at hl 0 rfl) ?_
    refine va_slen hx hb hX hbl hbA (va_S.rf (A := AA ad N)) dL_cell_28 ?_
    refine tpi (show Int32.ofNat L = nI L from rfl) ?_
    refine lv_idiv hx hb dL_cell_29 (fun h => by have h := (z_eq (by omega)).mp h; omega) ?_
    refine tpi (pk_div (a := k) (by omega) (by omega) (by omega)) ?_
    refine lv_bipush (v := nI (31)) hx hb dL_cell_30 (by decide) ?_
    refine lv_imul hx hb dL_cell_32 ?_
    refine tpi (pk_mul (k / L) 31) ?_
    refine lv_ixor hx hb dL_cell_33 ?_
    refine lv_iload_n hx hb dL_cell_34 rfl (lv_at hl 1 rfl) ?_
    refine lv_ldc hx hb S.2.2.2.1 (S.2.2.2.2 _ m_L_8) dL_cell_35 ?_
    refine tpi (show (2654435 : Int32) = nI 2654435 from rfl) ?_
    refine lv_imul hx hb dL_cell_37 ?_
    refine tpi (pk_mul k 2654435) ?_
    refine lv_ixor hx hb dL_cell_38 ?_
    exact rSi S hr hlk (by unfold cev; rw [if_neg c_2]) dL_cell_39
  · skip
    have c_2 := (z_eq (by omega)).mp c_2
    refine lv_sipush (v := nI (7919)) hx hb dL_cell_5 (by decide) ?_
    refine lv_iload_n hx hb dL_cell_8 rfl (lv_at hl 1 rfl) ?_
    refine lv_imul hx hb dL_cell_9 ?_
    refine tpi (pk_mul 7919 k) ?_
    refine lv_iconst (v := nI (3)) hx hb dL_cell_10 (by decide) ?_
    refine lv_iadd hx hb dL_cell_11 ?_
    refine tpi (nI_add (7919 * k) 3) ?_
    refine lv_goto (tgt := 39) hx hb dL_cell_12 (by decide) ?_
    exact rSi S hr hlk (by unfold cev; rw [if_pos c_2]) dL_cell_39

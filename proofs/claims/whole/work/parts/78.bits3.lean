set_option maxHeartbeats 4000000 in
set_option maxRecDepth 100000 in
theorem c_J13_bitCount_95d88 (l : Launch) (D : va_G) (cy : Nat → ClassId) (ad : Nat → Nat) (N : Nat) (g : Nat → va_E) (o : Nat) (ho : o < 2 ^ 64) : Met l yJ13_bitCount_95d88 (WS yJ13_bitCount_95d88 cJ13_bitCount_95d88 2 (some .int)) (rmF 0 0) (PP [.long (lN o)] D cy ad N g) (vp_Si (fun r => r = nI (bcL o))) 0 0 (fun _ => False) := by
  refine mentry (by decide) (Nat.le_of_ble_eq_true rfl) (fun p e s m below meth c ls S hr hlk hnm hP hK hl => ?_)
  have S : CallFix p m c cJ13_bitCount_95d88 2 s _ wsL_law RJ13 := S
  have hx := S.1
  have hb := S.2.1
  have hl : lv_has ls 2 [(0, .long (lN o))] := hl
  have hp1 := p1_lt ho
  have hp2 := p2_lt o
  have hp3 := p3_lt o
  refine lv_lload_n hx hb dJ13_bitCount_95d88_0 rfl (lv_at hl 0 rfl) ?_
  refine lv_lload_n hx hb dJ13_bitCount_95d88_1 rfl (lv_at hl 0 rfl) ?_
  refine lv_iconst (v := nI (1)) hx hb dJ13_bitCount_95d88_2 (by decide) ?_
  refine lv_lushr hx hb dJ13_bitCount_95d88_3 rfl ?_
  refine tpl (wb_shr (n := o) (k := 1) ho (by omega)) ?_
  refine lv_ldc2 hx hb S.2.2.2.1 (S.2.2.2.2 _ m_J13_314) dJ13_bitCount_95d88_4 ?_
  refine tpl (show (6148914691236517205 : Int64) = lN 6148914691236517205 from rfl) ?_
  refine lv_land hx hb dJ13_bitCount_95d88_7 ?_
  refine tpl (wb_and (Nat.lt_of_le_of_lt (Nat.div_le_self _ _) ho) (by decide)) ?_
  refine lv_lsub hx hb dJ13_bitCount_95d88_8 ?_
  refine tpl (lN_sub (a := o) (b := (o / 2 ^ 1) &&& 6148914691236517205) (Nat.le_trans Nat.and_le_left (Nat.div_le_self _ _))) ?_
  refine tpl (congrArg lN (p1_e o)) ?_
  refine lv_lstore_n (lv' := [(0, .long (lN (p1 (rep8 85 8) o)))]) hx hb dJ13_bitCount_95d88_9 rfl hl (by decide) rfl (fun ls hl => ?_)
  refine lv_lload_n hx hb dJ13_bitCount_95d88_10 rfl (lv_at hl 0 rfl) ?_
  refine lv_ldc2 hx hb S.2.2.2.1 (S.2.2.2.2 _ m_J13_316) dJ13_bitCount_95d88_11 ?_
  refine tpl (show (3689348814741910323 : Int64) = lN 3689348814741910323 from rfl) ?_
  refine lv_land hx hb dJ13_bitCount_95d88_14 ?_
  refine tpl (wb_and hp1 (by decide)) ?_
  refine lv_lload_n hx hb dJ13_bitCount_95d88_15 rfl (lv_at hl 0 rfl) ?_
  refine lv_iconst (v := nI (2)) hx hb dJ13_bitCount_95d88_16 (by decide) ?_
  refine lv_lushr hx hb dJ13_bitCount_95d88_17 rfl ?_
  refine tpl (wb_shr (n := p1 (rep8 85 8) o) (k := 2) hp1 (by omega)) ?_
  refine lv_ldc2 hx hb S.2.2.2.1 (S.2.2.2.2 _ m_J13_316) dJ13_bitCount_95d88_18 ?_
  refine tpl (show (3689348814741910323 : Int64) = lN 3689348814741910323 from rfl) ?_
  refine lv_land hx hb dJ13_bitCount_95d88_21 ?_
  refine tpl (wb_and (Nat.lt_of_le_of_lt (Nat.div_le_self _ _) hp1) (by decide)) ?_
  refine lv_ladd hx hb dJ13_bitCount_95d88_22 ?_
  refine tpl (lN_add ((p1 (rep8 85 8) o) &&& 3689348814741910323) (((p1 (rep8 85 8) o) / 2 ^ 2) &&& 3689348814741910323)) ?_
  refine tpl (congrArg lN (p2_e o)) ?_
  refine lv_lstore_n (lv' := [(0, .long (lN (P12 8 o)))]) hx hb dJ13_bitCount_95d88_23 rfl hl (by decide) rfl (fun ls hl => ?_)
  refine lv_lload_n hx hb dJ13_bitCount_95d88_24 rfl (lv_at hl 0 rfl) ?_
  refine lv_lload_n hx hb dJ13_bitCount_95d88_25 rfl (lv_at hl 0 rfl) ?_
  refine lv_iconst (v := nI (4)) hx hb dJ13_bitCount_95d88_26 (by decide) ?_
  refine lv_lushr hx hb dJ13_bitCount_95d88_27 rfl ?_
  refine tpl (wb_shr (n := P12 8 o) (k := 4) (by omega) (by omega)) ?_
  refine lv_ladd hx hb dJ13_bitCount_95d88_28 ?_
  refine tpl (lN_add (P12 8 o) ((P12 8 o) / 2 ^ 4)) ?_
  refine lv_ldc2 hx hb S.2.2.2.1 (S.2.2.2.2 _ m_J13_318) dJ13_bitCount_95d88_29 ?_
  refine tpl (show (1085102592571150095 : Int64) = lN 1085102592571150095 from rfl) ?_
  refine lv_land hx hb dJ13_bitCount_95d88_32 ?_
  refine tpl (wb_and (by omega) (by decide)) ?_
  refine tpl (congrArg lN (p3_e o)) ?_
  refine lv_lstore_n (lv' := [(0, .long (lN (G8 8 o)))]) hx hb dJ13_bitCount_95d88_33 rfl hl (by decide) rfl (fun ls hl => ?_)
  refine lv_lload_n hx hb dJ13_bitCount_95d88_34 rfl (lv_at hl 0 rfl) ?_
  refine lv_lload_n hx hb dJ13_bitCount_95d88_35 rfl (lv_at hl 0 rfl) ?_
  refine lv_bipush (v := nI (8)) hx hb dJ13_bitCount_95d88_36 (by decide) ?_
  refine lv_lushr hx hb dJ13_bitCount_95d88_38 rfl ?_
  refine tpl (wb_shr (n := G8 8 o) (k := 8) (by omega) (by omega)) ?_
  refine lv_ladd hx hb dJ13_bitCount_95d88_39 ?_
  refine tpl (lN_add (G8 8 o) ((G8 8 o) / 2 ^ 8)) ?_
  refine lv_lstore_n (lv' := [(0, .long (lN ((G8 8 o) + ((G8 8 o) / 2 ^ 8))))]) hx hb dJ13_bitCount_95d88_40 rfl hl (by decide) rfl (fun ls hl => ?_)
  refine lv_lload_n hx hb dJ13_bitCount_95d88_41 rfl (lv_at hl 0 rfl) ?_
  refine lv_lload_n hx hb dJ13_bitCount_95d88_42 rfl (lv_at hl 0 rfl) ?_
  refine lv_bipush (v := nI (16)) hx hb dJ13_bitCount_95d88_43 (by decide) ?_
  refine lv_lushr hx hb dJ13_bitCount_95d88_45 rfl ?_
  refine tpl (wb_shr (n := (G8 8 o) + ((G8 8 o) / 2 ^ 8)) (k := 16) (by omega) (by omega)) ?_
  refine lv_ladd hx hb dJ13_bitCount_95d88_46 ?_
  refine tpl (lN_add ((G8 8 o) + ((G8 8 o) / 2 ^ 8)) (((G8 8 o) + ((G8 8 o) / 2 ^ 8)) / 2 ^ 16)) ?_
  refine lv_lstore_n (lv' := [(0, .long (lN (((G8 8 o) + ((G8 8 o) / 2 ^ 8)) + (((G8 8 o) + ((G8 8 o) / 2 ^ 8)) / 2 ^ 16))))]) hx hb dJ13_bitCount_95d88_47 rfl hl (by decide) rfl (fun ls hl => ?_)
  refine lv_lload_n hx hb dJ13_bitCount_95d88_48 rfl (lv_at hl 0 rfl) ?_
  refine lv_lload_n hx hb dJ13_bitCount_95d88_49 rfl (lv_at hl 0 rfl) ?_
  refine lv_bipush (v := nI (32)) hx hb dJ13_bitCount_95d88_50 (by decide) ?_
  refine lv_lushr hx hb dJ13_bitCount_95d88_52 rfl ?_
  refine tpl (wb_shr (n := ((G8 8 o) + ((G8 8 o) / 2 ^ 8)) + (((G8 8 o) + ((G8 8 o) / 2 ^ 8)) / 2 ^ 16)) (k := 32) (by omega) (by omega)) ?_
  refine lv_ladd hx hb dJ13_bitCount_95d88_53 ?_
  refine tpl (lN_add (((G8 8 o) + ((G8 8 o) / 2 ^ 8)) + (((G8 8 o) + ((G8 8 o) / 2 ^ 8)) / 2 ^ 16)) ((((G8 8 o) + ((G8 8 o) / 2 ^ 8)) + (((G8 8 o) + ((G8 8 o) / 2 ^ 8)) / 2 ^ 16)) / 2 ^ 32)) ?_
  refine lv_lstore_n (lv' := [(0, .long (lN ((((G8 8 o) + ((G8 8 o) / 2 ^ 8)) + (((G8 8 o) + ((G8 8 o) / 2 ^ 8)) / 2 ^ 16)) + ((((G8 8 o) + ((G8 8 o) / 2 ^ 8)) + (((G8 8 o) + ((G8 8 o) / 2 ^ 8)) / 2 ^ 16)) / 2 ^ 32))))]) hx hb dJ13_bitCount_95d88_54 rfl hl (by decide) rfl (fun ls hl => ?_)
  refine lv_lload_n hx hb dJ13_bitCount_95d88_55 rfl (lv_at hl 0 rfl) ?_
  refine lv_l2i hx hb dJ13_bitCount_95d88_56 rfl ?_
  refine tpi (lN_i _) ?_
  refine lv_bipush (v := nI (127)) hx hb dJ13_bitCount_95d88_57 (by decide) ?_
  refine lv_iand hx hb dJ13_bitCount_95d88_59 ?_
  refine tpi (nx_and ((((G8 8 o) + ((G8 8 o) / 2 ^ 8)) + (((G8 8 o) + ((G8 8 o) / 2 ^ 8)) / 2 ^ 16)) + ((((G8 8 o) + ((G8 8 o) / 2 ^ 8)) + (((G8 8 o) + ((G8 8 o) / 2 ^ 8)) / 2 ^ 16)) / 2 ^ 32)) 127) ?_
  exact rSi S hr hlk (congrArg nI (bcL_e o)) dJ13_bitCount_95d88_60

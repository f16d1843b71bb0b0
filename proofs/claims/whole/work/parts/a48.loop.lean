-- the constant of the tape
theorem va_T_congr {ty : FieldType} {t N : Nat} {f f2 : Nat → Value} {A : Nat → Prop} {U : State} {H : Heap} (h : va_T ty t N f A U H) (e : ∀ j, j < N → f j = f2 j) : va_T ty t N f2 A U H := by
  obtain ⟨cell, h1, h2, h3, h4, h5, h6, h7⟩ := h
  exact ⟨cell, h1, h2, h3, h4, h5, fun j hj => (h6 j hj).trans (congrArg some (e j hj)), h7⟩
section START2
variable {p : Program} {l : Launch} {e : Env} {s : State} {m : MethodId} {args : Array Value} {below : List Frame} {meth : Method} {c : Code}
theorem law_XF {A : Nat → Prop} (hts : ∀ w ∈ lw_tbl, w.before args s = true) (hgv : (Jvm.Cond.and given_1 narrow_1).before args s = true) (hA : ∀ a : Nat, a < s.heap.size → ¬ A a) : ∃ sq sv, XF A sq sv s s.heap := by
  have hs := flat_of_before _ hgv
  obtain ⟨adK, adV, hS, he⟩ := vk_Sof (args := args) (s := s) (N := 1) (tm := fun _ => .string "BladeRing$Tape" 39) (len := [7]) (byt := [[117, 111, 116, 114, 100, 107, 102]]) (A := A)
    (fun i hi => by obtain rfl : i = 0 := by omega
                    decide)
    (fun i hi => hs _ (by decide +kernel)) (fun i hi => hs _ (by decide +kernel)) (fun i hi => hs _ (by decide +kernel))
    (fun i hi => by obtain rfl : i = 0 := by omega
                    exact hs (Cond.eq (.length (.field (.string "BladeRing$Tape" 39) "java/lang/String" "value" "[B")) (.int 7)) (by decide +kernel))
    (fun i hi j hj => by
      obtain rfl : i = 0 := by omega
      have hj : j < 7 := hj
      rcases (show j = 0 ∨ j = 1 ∨ j = 2 ∨ j = 3 ∨ j = 4 ∨ j = 5 ∨ j = 6 by omega) with rfl | rfl | rfl | rfl | rfl | rfl | rfl
      · exact hs (Cond.eq (.elem (.field (.string "BladeRing$Tape" 39) "java/lang/String" "value" "[B") (.int 0)) (.int 117)) (by decide +kernel)
      · exact hs (Cond.eq (.elem (.field (.string "BladeRing$Tape" 39) "java/lang/String" "value" "[B") (.int 1)) (.int 111)) (by decide +kernel)
      · exact hs (Cond.eq (.elem (.field (.string "BladeRing$Tape" 39) "java/lang/String" "value" "[B") (.int 2)) (.int 116)) (by decide +kernel)
      · exact hs (Cond.eq (.elem (.field (.string "BladeRing$Tape" 39) "java/lang/String" "value" "[B") (.int 3)) (.int 114)) (by decide +kernel)
      · exact hs (Cond.eq (.elem (.field (.string "BladeRing$Tape" 39) "java/lang/String" "value" "[B") (.int 4)) (.int 100)) (by decide +kernel)
      · exact hs (Cond.eq (.elem (.field (.string "BladeRing$Tape" 39) "java/lang/String" "value" "[B") (.int 5)) (.int 107)) (by decide +kernel)
      · exact hs (Cond.eq (.elem (.field (.string "BladeRing$Tape" 39) "java/lang/String" "value" "[B") (.int 6)) (.int 102)) (by decide +kernel))
    (fun i j hi hj hn => absurd (show i = j by omega) hn) hA
  obtain ⟨g1, g2, g3, g4⟩ := hS.1 0 (by omega)
  refine ⟨adK 0, adV 0, ⟨g1, g2, g3, va_T_congr g4 (fun j hj => ?_), va_Zof (hts _ (wt_3 (i := 98) (by decide +kernel))) (hts _ (wsL_law_in _ mn_RJ0)) (va_eqt (hs (Cond.eq (.static "java/lang/String" "COMPACT_STRINGS" "Z") (.int 1)) (by decide +kernel))) hA⟩, vk_R.of (hts _ (wt_3 (i := 84) (by decide +kernel))) (he 0 (by omega))⟩
  have hj : j < 7 := hj
  rcases (show j = 0 ∨ j = 1 ∨ j = 2 ∨ j = 3 ∨ j = 4 ∨ j = 5 ∨ j = 6 by omega) with rfl | rfl | rfl | rfl | rfl | rfl | rfl <;> rfl
end START2
theorem ci_L_9 : CI RL 9 yX9_init cX9_init 2 0 := CI.of m_L_9 mi_yX9_init mn_RX9 mc_yX9_init rfl (by decide +kernel)
theorem ci_L_12 : CI RL 12 yX10_init cX10_init 1 0 := CI.of m_L_12 mi_yX10_init mn_RX10 mc_yX10_init rfl (by decide +kernel)
section LOOP
variable {p : Program} {l : Launch} {e : Env} {s : State} {m : MethodId} {below : List Frame} {meth : Method} {c : Code} {cells slots : Nat}
variable {D : va_G} {cy : Nat → ClassId} {b0 b L : Nat} {xs : Nat → Int32} {sq sv : Nat}
set_option maxHeartbeats 4000000 in
theorem law_loop (S : CallFix p m c cL_law 4 s #[Value.ref b] wsL_law RL) (hr : meth.sig.returnType = ret) (hlk : meth.locks = false) (hK : va_K D vwCl (tyv cy) s) (hX : va_X b L xs s s.heap) (hbl : b < s.heap.size) (hz : s.heap.size = b0) (hL : L ≤ 2560) (hXF : XF (AA (bd b0) 145) sq sv s s.heap) (hf : cells ≤ room_1.cells ∧ slots ≤ room_1.slots) : ∀ (fu i : Nat), i ≤ L → L - i < fu → ∀ (g : Nat → va_E) (H : Heap) (ls : Array Slot), IV b0 cy g → MM D (bd b0) 145 g H → va_S (AB b0) s.heap H [] → lv_has ls 4 (LV b0 b i) → W p l e room_1 s m #[Value.ref b] below meth c H [] cells slots (lw_Z below #[Value.ref b] s) (F0 m 18 ls []) := by
  have hx := S.1
  have hb := S.2.1
  intro fu
  induction fu with
  | zero => intro i h1 h2; exact absurd h2 (Nat.not_lt_zero _)
  | succ fu ih =>
    intro i h1 h2 g H ls hI hP hS hl
    have hbA : ¬ AB b0 b := fun q => by unfold AB at q; omega
    refine lv_iload_n hx hb dL_law_18 rfl (lv_at hl 0 rfl) ?_
    refine lv_aload_n hx hb dL_law_19 rfl (lv_at hl 3 rfl) ?_
    refine va_slen hx hb hX hbl hbA hS dL_law_20 ?_
    refine lv_iconst (v := nI 5) hx hb dL_law_21 (by decide) ?_
    refine lv_isub hx hb dL_law_22 ?_
    refine lv_icmp_gt (tgt := 1085) hx hb dL_law_23 (by decide) (fun c9 => ?_) (fun c9 => ?_)
    · refine lv_iconst (v := 1) hx hb dL_law_1085 (by decide) ?_
      exact W.widen hf.1 hf.2 (lw_ret hx hb hr hlk dL_law_1086)
    · have hi : i + 5 ≤ L := by
        rcases Nat.lt_or_ge L (i + 5) with z | z
        · exact absurd ((lend h1 hL).mpr z) c9
        · exact z
      refine lv_aload_n hx hb dL_law_26 rfl (lv_at hl 3 rfl) ?_
      refine lv_iload_n hx hb dL_law_27 rfl (lv_at hl 0 rfl) ?_
      refine va_sld hx hb hX hbl hbA hS (vp_in_nI (by omega) (by omega)) dL_law_28 ?_
      refine lv_bipush (v := nI 63) hx hb dL_law_29 (by decide) ?_
      refine lv_iand hx hb dL_law_31 ?_
      rw [nI_clamp (show i < 2 ^ 31 by omega)]
      obtain ⟨k, hk, ek⟩ := and63 (xs i)
      rw [ek]
      have kk : ∀ (g2 : Nat → va_E) (H2 : Heap), IV b0 cy g2 → MM D (bd b0) 145 g2 H2 → va_S (AB b0) s.heap H2 [] → W p l e room_1 s m #[Value.ref b] below meth c H2 [] cells slots (lw_Z below #[Value.ref b] s) (F0 m 1079 ls []) := by
        intro g2 H2 hI hP hS
        refine lv_iinc (v := nI (i + 5)) (lv' := LV b0 b (i + 5)) hx hb dL_law_1079 hl (k := 0) rfl (by exact nI_add i 5) (by decide) rfl (fun ls hl => ?_)
        refine lv_goto (tgt := 18) hx hb dL_law_1082 (by decide) ?_
        exact ih (i + 5) hi (by omega) g2 H2 ls hI hP hS hl
      rcases Nat.lt_or_ge k 33 with h33 | h33
      · rcases (show k = 0 ∨ k = 1 ∨ k = 2 ∨ k = 3 ∨ k = 4 ∨ k = 5 ∨ k = 6 ∨ k = 7 ∨ k = 8 ∨ k = 9 ∨ k = 10 ∨ k = 11 ∨ k = 12 ∨ k = 13 ∨ k = 14 ∨ k = 15 ∨ k = 16 ∨ k = 17 ∨ k = 18 ∨ k = 19 ∨ k = 20 ∨ k = 21 ∨ k = 22 ∨ k = 23 ∨ k = 24 ∨ k = 25 ∨ k = 26 ∨ k = 27 ∨ k = 28 ∨ k = 29 ∨ k = 30 ∨ k = 31 ∨ k = 32 by omega) with rfl | rfl | rfl | rfl | rfl | rfl | rfl | rfl | rfl | rfl | rfl | rfl | rfl | rfl | rfl | rfl | rfl | rfl | rfl | rfl | rfl | rfl | rfl | rfl | rfl | rfl | rfl | rfl | rfl | rfl | rfl | rfl | rfl
        · refine lv_tableIn (tgt := 180) hx hb dL_law_32 (by decide) (by decide) rfl (by decide) ?_
          exact lc_ring S hK hX hbl hz hL hi hI hP hS hl hf kk
        · refine lv_tableIn (tgt := 203) hx hb dL_law_32 (by decide) (by decide) rfl (by decide) ?_
          exact lc_act S hK hX hbl hz hL hi hI hP hS hl hf kk
        · refine lv_tableIn (tgt := 236) hx hb dL_law_32 (by decide) (by decide) rfl (by decide) ?_
          exact lc_undo S hK hX hbl hz hL hi hI hP hS hl hf kk
        · refine lv_tableIn (tgt := 249) hx hb dL_law_32 (by decide) (by decide) rfl (by decide) ?_
          exact lc_place S hK hX hbl hz hL hi hI hP hS hl hf kk
        · refine lv_tableIn (tgt := 282) hx hb dL_law_32 (by decide) (by decide) rfl (by decide) ?_
          exact lc_blade S hK hX hbl hz hL hi hI hP hS hl hf kk
        · refine lv_tableIn (tgt := 315) hx hb dL_law_32 (by decide) (by decide) rfl (by decide) ?_
          exact lc_over S hK hX hbl hz hL hi hI hP hS hl hf kk
        · refine lv_tableIn (tgt := 348) hx hb dL_law_32 (by decide) (by decide) rfl (by decide) ?_
          exact lc_about S hK hX hbl hz hL hi hI hP hS hl hf kk
        · refine lv_tableIn (tgt := 371) hx hb dL_law_32 (by decide) (by decide) rfl (by decide) ?_
          exact lc_can S hK hX hbl hz hL hi hI hP hS hl hf kk
        · refine lv_tableIn (tgt := 394) hx hb dL_law_32 (by decide) (by decide) rfl (by decide) ?_
          exact lc_feed S hK hX hbl hz hL hi hI hP hS hl hf kk
        · refine lv_tableIn (tgt := 447) hx hb dL_law_32 (by decide) (by decide) rfl (by decide) ?_
          exact lc_end S hK hX hbl hz hL hi hI hP hS hl hf kk
        · refine lv_tableIn (tgt := 470) hx hb dL_law_32 (by decide) (by decide) rfl (by decide) ?_
          exact lc_figure S hK hX hbl hz hL hi hXF hI hP hS hl hf kk
        · refine lv_tableIn (tgt := 483) hx hb dL_law_32 (by decide) (by decide) rfl (by decide) ?_
          exact lc_fault S hK hX hbl hz hL hi hI hP hS hl hf kk
        · refine lv_tableIn (tgt := 496) hx hb dL_law_32 (by decide) (by decide) rfl (by decide) ?_
          exact lc_told S hK hX hbl hz hL hi hI hP hS hl hf kk
        · refine lv_tableIn (tgt := 529) hx hb dL_law_32 (by decide) (by decide) rfl (by decide) ?_
          exact lc_dance S hK hX hbl hz hL hi hI hP hS hl hf kk
        · refine lv_tableIn (tgt := 552) hx hb dL_law_32 (by decide) (by decide) rfl (by decide) ?_
          exact lc_why S hK hX hbl hz hL hi hI hP hS hl hf kk
        · refine lv_tableIn (tgt := 565) hx hb dL_law_32 (by decide) (by decide) rfl (by decide) ?_
          exact lc_back S hK hX hbl hz hL hi hI hP hS hl hf kk
        · refine lv_tableIn (tgt := 588) hx hb dL_law_32 (by decide) (by decide) rfl (by decide) ?_
          exact lc_order S hK hX hbl hz hL hi hI hP hS hl hf kk
        · refine lv_tableIn (tgt := 611) hx hb dL_law_32 (by decide) (by decide) rfl (by decide) ?_
          exact lc_mirrors S hK hX hbl hz hL hi hI hP hS hl hf kk
        · refine lv_tableIn (tgt := 634) hx hb dL_law_32 (by decide) (by decide) rfl (by decide) ?_
          exact lc_keep S hK hX hbl hz hL hi hI hP hS hl hf kk
        · refine lv_tableIn (tgt := 647) hx hb dL_law_32 (by decide) (by decide) rfl (by decide) ?_
          exact lc_stand S hK hX hbl hz hL hi hI hP hS hl hf kk
        · refine lv_tableIn (tgt := 670) hx hb dL_law_32 (by decide) (by decide) rfl (by decide) ?_
          exact lc_alike S hK hX hbl hz hL hi hI hP hS hl hf kk
        · refine lv_tableIn (tgt := 693) hx hb dL_law_32 (by decide) (by decide) rfl (by decide) ?_
          exact lc_way S hK hX hbl hz hL hi hI hP hS hl hf kk
        · refine lv_tableIn (tgt := 716) hx hb dL_law_32 (by decide) (by decide) rfl (by decide) ?_
          exact lc_wayAt S hK hX hbl hz hL hi hI hP hS hl hf kk
        · refine lv_tableIn (tgt := 749) hx hb dL_law_32 (by decide) (by decide) rfl (by decide) ?_
          exact lc_met S hK hX hbl hz hL hi hI hP hS hl hf kk
        · refine lv_tableIn (tgt := 772) hx hb dL_law_32 (by decide) (by decide) rfl (by decide) ?_
          exact lc_village S hK hX hbl hz hL hi hI hP hS hl hf kk
        · refine lv_tableIn (tgt := 785) hx hb dL_law_32 (by decide) (by decide) rfl (by decide) ?_
          exact lc_add S hK hX hbl hz hL hi hI hP hS hl hf kk
        · refine lv_tableIn (tgt := 818) hx hb dL_law_32 (by decide) (by decide) rfl (by decide) ?_
          exact lc_danceOf S hK hX hbl hz hL hi hI hP hS hl hf kk
        · refine lv_tableIn (tgt := 851) hx hb dL_law_32 (by decide) (by decide) rfl (by decide) ?_
          exact lc_shared S hK hX hbl hz hL hi hI hP hS hl hf kk
        · refine lv_tableIn (tgt := 894) hx hb dL_law_32 (by decide) (by decide) rfl (by decide) ?_
          exact lc_perform S hK hX hbl hz hL hi hI hP hS hl hf kk
        · refine lv_tableIn (tgt := 917) hx hb dL_law_32 (by decide) (by decide) rfl (by decide) ?_
          exact lc_sheet S hK hX hbl hz hL hi hI hP hS hl hf kk
        · refine lv_tableIn (tgt := 960) hx hb dL_law_32 (by decide) (by decide) rfl (by decide) ?_
          exact lc_lay S hK hX hbl hz hL hi hI hP hS hl hf kk
        · refine lv_tableIn (tgt := 1003) hx hb dL_law_32 (by decide) (by decide) rfl (by decide) ?_
          exact lc_scan S hK hX hbl hz hL hi hI hP hS hl hf kk
        · refine lv_tableIn (tgt := 1056) hx hb dL_law_32 (by decide) (by decide) rfl (by decide) ?_
          exact lc_count S hK hX hbl hz hL hi hI hP hS hl hf kk
      · refine lv_tableOut (tgt := 1079) hx hb dL_law_32 (Or.inr (by rw [nI_toInt (by omega)]; omega)) (by decide) ?_
        exact kk g H hI hP hS
end LOOP

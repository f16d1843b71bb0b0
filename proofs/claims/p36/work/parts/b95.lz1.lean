set_option maxHeartbeats 4000000 in
set_option maxRecDepth 100000 in
theorem lz1 {p : Program} {l : Launch} {e : Env} {s : State} {m : MethodId} {below : List Frame} {meth : Method} {c : Code} {D : va_G} {cy : Nat → ClassId} {b0 b L : Nat} {xs : Nat → Int32} {sq sv : Nat} (S : CallFix p m c cL_law 21 s #[.ref b] wsL_law RL) (hr : meth.sig.returnType = ret) (hlk : meth.locks = false) (hK : va_K D vwCl (tyv cy) s) (hN : NX s) (hX : va_X b L xs s s.heap) (hbl : b < s.heap.size) (hb0 : s.heap.size = b0) (hL : L < 1000) (hXF : XF (AB b0) sq sv s s.heap) {n : Nat} {a : Nat} {O : Nat → Nat} {BE : Nat → Nat} {T2 : Nat → Nat} {BB : Nat → Nat} {Tto : Nat → Nat} {Flo : Nat → Nat} {FBo : Nat → Nat → Nat} {Vlo : Nat → Nat} {VVo : Nat → Nat → Nat} {PA : Nat → Nat} {c9 : Nat} (hn : 4 ≤ n ∧ n ≤ 8) (ha : a ≤ 7) (hO4 : ∀ j, O j < 4) (hBE : ∀ j, j < 4 → BE j = Flo j) (hFG : FGS xs L n 4 Flo FBo) (hVO : VVo 0 = O) (hVa : Vlo 0 = a) (hVP : VVo 1 = PA) (hVc : Vlo 1 = c9) (hP4 : ∀ j, PA j < 4) (hc9 : c9 ≤ 7) (g : Nat → va_E) (H : Heap) (ls : Array Slot) (hm114 : g 114 = .inl (cy 1, 64, .inl (fun x9 => nI (T2 x9)))) (hm115 : g 115 = .inl (cy 1, 1, .inl (fun x9 => nI (BB x9)))) (hm116 : g 116 = .inl (cy 1, 4, .inl (fun x9 => nI (BE x9)))) (hm125 : g 125 = .inl (cy 1, 8, .inl (fun x9 => nI (O x9)))) (hm126 : g 126 = .inl (cy 1, 8, .inl (fun x9 => nI (PA x9)))) (hfo : OB9 cy (b0 + 0) (fun i => g (0 + i)) (bgW n) 4 (nI 0) 2 0 Tto Flo FBo Vlo VVo) (hP : MM D (bd b0) (127) g H) (hS : va_S (AB b0) s.heap H []) (hl : lv_has ls 21 [(0, .ref b), (1, .ref ((bd b0) 0)), (2, .int (nI (n))), (3, .ref ((bd b0) 114)), (4, .ref ((bd b0) 115)), (5, .ref ((bd b0) 116)), (6, .ref ((bd b0) 125)), (8, .int (nI (a))), (7, .ref ((bd b0) 126)), (9, .int (nI (c9)))]) : W p l e room_1 s m #[.ref b] below meth c H [] (127) (15124) (lw_Z below #[.ref b] s) (F0 m 323 ls []) := by
  have hx := S.1
  have hb := S.2.1
  have hI : MD (AB b0) (bd b0) (127) := bd_MD
  have hRC : 127 ≤ room_1.cells ∧ 15124 ≤ room_1.slots := ⟨(Nat.le_of_ble_eq_true rfl), (Nat.le_of_ble_eq_true rfl)⟩
  have hbA : ¬ AB b0 b := fun q => by unfold AB at q; omega
  have h2a : 2 ^ a ≤ 128 := Nat.le_trans (Nat.pow_le_pow_right (n := 2) (by decide) ha) (by decide)
  refine lv_iconst (v := nI (0)) hx hb dL_law_323 (by decide) ?_
  refine lv_istore (lv' := [(11, .int (nI (0))), (0, .ref b), (1, .ref ((bd b0) 0)), (2, .int (nI (n))), (3, .ref ((bd b0) 114)), (4, .ref ((bd b0) 115)), (5, .ref ((bd b0) 116)), (6, .ref ((bd b0) 125)), (8, .int (nI (a))), (7, .ref ((bd b0) 126)), (9, .int (nI (c9)))]) hx hb dL_law_324 hl (by decide) rfl (fun ls hl => ?_)
  refine lv_lconst (v := lN 0) hx hb dL_law_326 (by decide) ?_
  refine lv_lstore (lv' := [(12, .long (lN 0)), (11, .int (nI (0))), (0, .ref b), (1, .ref ((bd b0) 0)), (2, .int (nI (n))), (3, .ref ((bd b0) 114)), (4, .ref ((bd b0) 115)), (5, .ref ((bd b0) 116)), (6, .ref ((bd b0) 125)), (8, .int (nI (a))), (7, .ref ((bd b0) 126)), (9, .int (nI (c9)))]) hx hb dL_law_327 hl (by decide) rfl (fun ls hl => ?_)
  refine lv_iconst (v := nI (0)) hx hb dL_law_329 (by decide) ?_
  refine lv_istore (lv' := [(14, .int (nI (0))), (12, .long (lN 0)), (11, .int (nI (0))), (0, .ref b), (1, .ref ((bd b0) 0)), (2, .int (nI (n))), (3, .ref ((bd b0) 114)), (4, .ref ((bd b0) 115)), (5, .ref ((bd b0) 116)), (6, .ref ((bd b0) 125)), (8, .int (nI (a))), (7, .ref ((bd b0) 126)), (9, .int (nI (c9)))]) hx hb dL_law_330 hl (by decide) rfl (fun ls hl => ?_)
  have L332 : ∀ (fu : Nat) (cd bs bk : Nat), (cd ≤ 2 ^ a) → (outK O PA a c9 cd = (bs, bk)) → (bk < 16384) → (bs ≤ 7) → (2 ^ a - cd) < fu → ∀ (ls : Array Slot), lv_has ls 21 [(14, .int (nI (cd))), (12, .long (lN bk)), (11, .int (nI (bs))), (0, .ref b), (1, .ref ((bd b0) 0)), (2, .int (nI (n))), (3, .ref ((bd b0) 114)), (4, .ref ((bd b0) 115)), (5, .ref ((bd b0) 116)), (6, .ref ((bd b0) 125)), (8, .int (nI (a))), (7, .ref ((bd b0) 126)), (9, .int (nI (c9)))] → W p l e room_1 s m #[.ref b] below meth c H [] (127) (15124) (lw_Z below #[.ref b] s) (F0 m 332 ls []) := by
    intro fu
    induction fu with
    | zero => intro cd bs bk hcd hout hbk hbs hms ls hl; exact absurd hms (Nat.not_lt_zero _)
    | succ fu ih332 =>
      intro cd bs bk hcd hout hbk hbs hms ls hl
      refine lv_iload hx hb dL_law_332 (lv_at hl 0 rfl) ?_
      refine lv_iconst (v := nI (1)) hx hb dL_law_334 (by decide) ?_
      refine lv_iload hx hb dL_law_335 (lv_at hl 10 rfl) ?_
      refine lv_ishl hx hb dL_law_337 ?_
      refine tpi (shlN 1 (by omega)) ?_
      refine lv_icmp_ge (tgt := 497) hx hb dL_law_338 (by decide) (fun c_338 => ?_) (fun c_338 => ?_)
      · skip
        have c_338 := (nI_leI (by omega) (by omega)).mp c_338
        have hcd : cd = 2 ^ a := by omega
        rw [hcd, out_end hO4] at hout
        obtain ⟨rfl, rfl⟩ := Prod.mk.inj hout
        exact lz2 S hr hlk hK hN hX hbl hb0 hL hXF hn (by omega) hO4 hBE hFG hVO hVa hVP hVc hP4 (by omega) g H _ hm114 hm115 hm116 hm125 hfo hP hS (lv_sub hl [3, 4, 5, 6, 7, 8, 9, 10, 2, 1] rfl)
      · skip
        have c_338 := (not_congr (nI_leI (by omega) (by omega))).mp c_338
        refine lv_iconst (v := nI (0)) hx hb dL_law_341 (by decide) ?_
        refine lv_istore (lv' := [(15, .int (nI (0))), (14, .int (nI (cd))), (12, .long (lN bk)), (11, .int (nI (bs))), (0, .ref b), (1, .ref ((bd b0) 0)), (2, .int (nI (n))), (3, .ref ((bd b0) 114)), (4, .ref ((bd b0) 115)), (5, .ref ((bd b0) 116)), (6, .ref ((bd b0) 125)), (8, .int (nI (a))), (7, .ref ((bd b0) 126)), (9, .int (nI (c9)))]) hx hb dL_law_342 hl (by decide) rfl (fun ls hl => ?_)
        refine lv_iconst (v := nI (0)) hx hb dL_law_344 (by decide) ?_
        refine lv_istore (lv' := [(16, .int (nI (0))), (15, .int (nI (0))), (14, .int (nI (cd))), (12, .long (lN bk)), (11, .int (nI (bs))), (0, .ref b), (1, .ref ((bd b0) 0)), (2, .int (nI (n))), (3, .ref ((bd b0) 114)), (4, .ref ((bd b0) 115)), (5, .ref ((bd b0) 116)), (6, .ref ((bd b0) 125)), (8, .int (nI (a))), (7, .ref ((bd b0) 126)), (9, .int (nI (c9)))]) hx hb dL_law_345 hl (by decide) rfl (fun ls hl => ?_)
        refine lv_lconst (v := lN 0) hx hb dL_law_347 (by decide) ?_
        refine lv_lstore (lv' := [(17, .long (lN 0)), (16, .int (nI (0))), (15, .int (nI (0))), (14, .int (nI (cd))), (12, .long (lN bk)), (11, .int (nI (bs))), (0, .ref b), (1, .ref ((bd b0) 0)), (2, .int (nI (n))), (3, .ref ((bd b0) 114)), (4, .ref ((bd b0) 115)), (5, .ref ((bd b0) 116)), (6, .ref ((bd b0) 125)), (8, .int (nI (a))), (7, .ref ((bd b0) 126)), (9, .int (nI (c9)))]) hx hb dL_law_348 hl (by decide) rfl (fun ls hl => ?_)
        refine lv_iconst (v := nI (1)) hx hb dL_law_350 (by decide) ?_
        refine lv_istore (lv' := [(19, .int (nI (1))), (17, .long (lN 0)), (16, .int (nI (0))), (15, .int (nI (0))), (14, .int (nI (cd))), (12, .long (lN bk)), (11, .int (nI (bs))), (0, .ref b), (1, .ref ((bd b0) 0)), (2, .int (nI (n))), (3, .ref ((bd b0) 114)), (4, .ref ((bd b0) 115)), (5, .ref ((bd b0) 116)), (6, .ref ((bd b0) 125)), (8, .int (nI (a))), (7, .ref ((bd b0) 126)), (9, .int (nI (c9)))]) hx hb dL_law_351 hl (by decide) rfl (fun ls hl => ?_)
        refine lv_iconst (v := nI (0)) hx hb dL_law_353 (by decide) ?_
        refine lv_istore (lv' := [(20, .int (nI (0))), (19, .int (nI (1))), (17, .long (lN 0)), (16, .int (nI (0))), (15, .int (nI (0))), (14, .int (nI (cd))), (12, .long (lN bk)), (11, .int (nI (bs))), (0, .ref b), (1, .ref ((bd b0) 0)), (2, .int (nI (n))), (3, .ref ((bd b0) 114)), (4, .ref ((bd b0) 115)), (5, .ref ((bd b0) 116)), (6, .ref ((bd b0) 125)), (8, .int (nI (a))), (7, .ref ((bd b0) 126)), (9, .int (nI (c9)))]) hx hb dL_law_354 hl (by decide) rfl (fun ls hl => ?_)
        have L356 : ∀ (fu : Nat) (k sz at9 ky : Nat) (z9 : Bool), (k ≤ a) → (inn O PA c9 cd k = (sz, at9, ky, z9)) → (ky < 4 ^ k) → (z9 = true → at9 ≤ c9) → (at9 ≤ 8) → (sz ≤ k) → (a - k) < fu → ∀ (ls : Array Slot), lv_has ls 21 [(20, .int (nI (k))), (19, .int (if z9 = true then 1 else 0)), (17, .long (lN ky)), (16, .int (nI (at9))), (15, .int (nI (sz))), (14, .int (nI (cd))), (12, .long (lN bk)), (11, .int (nI (bs))), (0, .ref b), (1, .ref ((bd b0) 0)), (2, .int (nI (n))), (3, .ref ((bd b0) 114)), (4, .ref ((bd b0) 115)), (5, .ref ((bd b0) 116)), (6, .ref ((bd b0) 125)), (8, .int (nI (a))), (7, .ref ((bd b0) 126)), (9, .int (nI (c9)))] → W p l e room_1 s m #[.ref b] below meth c H [] (127) (15124) (lw_Z below #[.ref b] s) (F0 m 356 ls []) := by
          intro fu
          induction fu with
          | zero => intro k sz at9 ky z9 hk hin hky hat hat2 hsz hms ls hl; exact absurd hms (Nat.not_lt_zero _)
          | succ fu ih356 =>
            intro k sz at9 ky z9 hk hin hky hat hat2 hsz hms ls hl
            refine lv_iload hx hb dL_law_356 (lv_at hl 0 rfl) ?_
            refine lv_iload hx hb dL_law_358 (lv_at hl 15 rfl) ?_
            refine lv_icmp_ge (tgt := 448) hx hb dL_law_360 (by decide) (fun c_360 => ?_) (fun c_360 => ?_)
            · skip
              have c_360 := (nI_leI (by omega) (by omega)).mp c_360
              obtain rfl : a = k := by omega
              refine lv_iload hx hb dL_law_448 (lv_at hl 1 rfl) ?_
              refine lv_if_eq (tgt := 491) hx hb dL_law_450 (by decide) (fun c_450 => ?_) (fun c_450 => ?_)
              · skip
                have c_450 := bz_eq.mp c_450
                have hz9 : z9 = false := by revert c_450; cases z9 <;> simp
                have hfin : (inn O PA c9 cd a).2.2.2 = false := by rw [hin]; exact hz9
                refine lv_iinc (v := nI (cd + 1)) (lv' := [(14, .int (nI (cd + 1))), (20, .int (nI (a))), (19, .int (if z9 = true then 1 else 0)), (17, .long (lN ky)), (16, .int (nI (at9))), (15, .int (nI (sz))), (12, .long (lN bk)), (11, .int (nI (bs))), (0, .ref b), (1, .ref ((bd b0) 0)), (2, .int (nI (n))), (3, .ref ((bd b0) 114)), (4, .ref ((bd b0) 115)), (5, .ref ((bd b0) 116)), (6, .ref ((bd b0) 125)), (8, .int (nI (a))), (7, .ref ((bd b0) 126)), (9, .int (nI (c9)))]) hx hb dL_law_491 hl (k := 5) rfl (by exact nI_add cd 1) (by decide) rfl (fun ls hl => ?_)
                refine lv_goto (tgt := 332) hx hb dL_law_494 (by decide) ?_
                exact ih332 (cd + 1) bs bk (by omega) (out_f hout hfin) (by omega) (by omega) (by omega) _ (lv_sub hl [0, 6, 7, 8, 9, 10, 11, 12, 13, 14, 15, 16, 17] rfl)
              · skip
                have c_450 := bz_ne.mp c_450
                subst c_450
                have hk16 := p4_16 hky (by omega)
                refine lv_iload hx hb dL_law_453 (lv_at hl 4 rfl) ?_
                refine lv_iload hx hb dL_law_455 (lv_at hl 7 rfl) ?_
                refine lv_icmp_lt (tgt := 491) hx hb dL_law_457 (by decide) (fun c_457 => ?_) (fun c_457 => ?_)
                · skip
                  have c_457 := (nI_ltI (by omega) (by omega)).mp c_457
                  refine lv_iinc (v := nI (cd + 1)) (lv' := [(14, .int (nI (cd + 1))), (20, .int (nI (a))), (19, .int (if true = true then 1 else 0)), (17, .long (lN ky)), (16, .int (nI (at9))), (15, .int (nI (sz))), (12, .long (lN bk)), (11, .int (nI (bs))), (0, .ref b), (1, .ref ((bd b0) 0)), (2, .int (nI (n))), (3, .ref ((bd b0) 114)), (4, .ref ((bd b0) 115)), (5, .ref ((bd b0) 116)), (6, .ref ((bd b0) 125)), (8, .int (nI (a))), (7, .ref ((bd b0) 126)), (9, .int (nI (c9)))]) hx hb dL_law_491 hl (k := 5) rfl (by exact nI_add cd 1) (by decide) rfl (fun ls hl => ?_)
                  refine lv_goto (tgt := 332) hx hb dL_law_494 (by decide) ?_
                  exact ih332 (cd + 1) bs bk (by omega) (out_s hout hin (by omega)) (by omega) (by omega) (by omega) _ (lv_sub hl [0, 6, 7, 8, 9, 10, 11, 12, 13, 14, 15, 16, 17] rfl)
                · skip
                  have c_457 := (not_congr (nI_ltI (by omega) (by omega))).mp c_457
                  refine lv_iload hx hb dL_law_460 (lv_at hl 4 rfl) ?_
                  refine lv_iload hx hb dL_law_462 (lv_at hl 7 rfl) ?_
                  refine lv_icmp_ne (tgt := 483) hx hb dL_law_464 (by decide) (fun c_464 => ?_) (fun c_464 => ?_)
                  · skip
                    have c_464 := (not_congr (nI_eq (by omega) (by omega))).mp c_464
                    refine lv_iload hx hb dL_law_483 (lv_at hl 4 rfl) ?_
                    refine lv_istore (lv' := [(11, .int (nI (sz))), (20, .int (nI (a))), (19, .int (if true = true then 1 else 0)), (17, .long (lN ky)), (16, .int (nI (at9))), (15, .int (nI (sz))), (14, .int (nI (cd))), (12, .long (lN bk)), (0, .ref b), (1, .ref ((bd b0) 0)), (2, .int (nI (n))), (3, .ref ((bd b0) 114)), (4, .ref ((bd b0) 115)), (5, .ref ((bd b0) 116)), (6, .ref ((bd b0) 125)), (8, .int (nI (a))), (7, .ref ((bd b0) 126)), (9, .int (nI (c9)))]) hx hb dL_law_485 hl (by decide) rfl (fun ls hl => ?_)
                    refine lv_lload hx hb dL_law_487 (lv_at hl 3 rfl) ?_
                    refine lv_lstore (lv' := [(12, .long (lN ky)), (11, .int (nI (sz))), (20, .int (nI (a))), (19, .int (if true = true then 1 else 0)), (17, .long (lN ky)), (16, .int (nI (at9))), (15, .int (nI (sz))), (14, .int (nI (cd))), (0, .ref b), (1, .ref ((bd b0) 0)), (2, .int (nI (n))), (3, .ref ((bd b0) 114)), (4, .ref ((bd b0) 115)), (5, .ref ((bd b0) 116)), (6, .ref ((bd b0) 125)), (8, .int (nI (a))), (7, .ref ((bd b0) 126)), (9, .int (nI (c9)))]) hx hb dL_law_489 hl (by decide) rfl (fun ls hl => ?_)
                    refine lv_iinc (v := nI (cd + 1)) (lv' := [(14, .int (nI (cd + 1))), (12, .long (lN ky)), (11, .int (nI (sz))), (20, .int (nI (a))), (19, .int (if true = true then 1 else 0)), (17, .long (lN ky)), (16, .int (nI (at9))), (15, .int (nI (sz))), (0, .ref b), (1, .ref ((bd b0) 0)), (2, .int (nI (n))), (3, .ref ((bd b0) 114)), (4, .ref ((bd b0) 115)), (5, .ref ((bd b0) 116)), (6, .ref ((bd b0) 125)), (8, .int (nI (a))), (7, .ref ((bd b0) 126)), (9, .int (nI (c9)))]) hx hb dL_law_491 hl (k := 7) rfl (by exact nI_add cd 1) (by decide) rfl (fun ls hl => ?_)
                    refine lv_goto (tgt := 332) hx hb dL_law_494 (by decide) ?_
                    exact ih332 (cd + 1) sz ky (by omega) (out_t hout hin (by omega) (by omega)) (by omega) (by omega) (by omega) _ (lv_sub hl [0, 1, 2, 8, 9, 10, 11, 12, 13, 14, 15, 16, 17] rfl)
                  · skip
                    have c_464 := (nI_eq (by omega) (by omega)).mp c_464
                    refine lv_lload hx hb dL_law_467 (lv_at hl 2 rfl) ?_
                    refine lv_lload hx hb dL_law_469 (lv_at hl 6 rfl) ?_
                    refine W.lcmp hx hb dL_law_471 ?_
                    refine lv_if_lt (tgt := 483) hx hb dL_law_472 (by decide) (fun c_472 => ?_) (fun c_472 => ?_)
                    · skip
                      have c_472 := (lgN_lt (by omega) (by omega)).mp c_472
                      refine lv_iload hx hb dL_law_483 (lv_at hl 4 rfl) ?_
                      refine lv_istore (lv' := [(11, .int (nI (sz))), (20, .int (nI (a))), (19, .int (if true = true then 1 else 0)), (17, .long (lN ky)), (16, .int (nI (at9))), (15, .int (nI (sz))), (14, .int (nI (cd))), (12, .long (lN bk)), (0, .ref b), (1, .ref ((bd b0) 0)), (2, .int (nI (n))), (3, .ref ((bd b0) 114)), (4, .ref ((bd b0) 115)), (5, .ref ((bd b0) 116)), (6, .ref ((bd b0) 125)), (8, .int (nI (a))), (7, .ref ((bd b0) 126)), (9, .int (nI (c9)))]) hx hb dL_law_485 hl (by decide) rfl (fun ls hl => ?_)
                      refine lv_lload hx hb dL_law_487 (lv_at hl 3 rfl) ?_
                      refine lv_lstore (lv' := [(12, .long (lN ky)), (11, .int (nI (sz))), (20, .int (nI (a))), (19, .int (if true = true then 1 else 0)), (17, .long (lN ky)), (16, .int (nI (at9))), (15, .int (nI (sz))), (14, .int (nI (cd))), (0, .ref b), (1, .ref ((bd b0) 0)), (2, .int (nI (n))), (3, .ref ((bd b0) 114)), (4, .ref ((bd b0) 115)), (5, .ref ((bd b0) 116)), (6, .ref ((bd b0) 125)), (8, .int (nI (a))), (7, .ref ((bd b0) 126)), (9, .int (nI (c9)))]) hx hb dL_law_489 hl (by decide) rfl (fun ls hl => ?_)
                      refine lv_iinc (v := nI (cd + 1)) (lv' := [(14, .int (nI (cd + 1))), (12, .long (lN ky)), (11, .int (nI (sz))), (20, .int (nI (a))), (19, .int (if true = true then 1 else 0)), (17, .long (lN ky)), (16, .int (nI (at9))), (15, .int (nI (sz))), (0, .ref b), (1, .ref ((bd b0) 0)), (2, .int (nI (n))), (3, .ref ((bd b0) 114)), (4, .ref ((bd b0) 115)), (5, .ref ((bd b0) 116)), (6, .ref ((bd b0) 125)), (8, .int (nI (a))), (7, .ref ((bd b0) 126)), (9, .int (nI (c9)))]) hx hb dL_law_491 hl (k := 7) rfl (by exact nI_add cd 1) (by decide) rfl (fun ls hl => ?_)
                      refine lv_goto (tgt := 332) hx hb dL_law_494 (by decide) ?_
                      exact ih332 (cd + 1) sz ky (by omega) (out_t hout hin (by omega) (by omega)) (by omega) (by omega) (by omega) _ (lv_sub hl [0, 1, 2, 8, 9, 10, 11, 12, 13, 14, 15, 16, 17] rfl)
                    · skip
                      have c_472 := (not_congr (lgN_lt (by omega) (by omega))).mp c_472
                      refine lv_iload hx hb dL_law_475 (lv_at hl 4 rfl) ?_
                      refine lv_if_le (tgt := 483) hx hb dL_law_477 (by decide) (fun c_477 => ?_) (fun c_477 => ?_)
                      · skip
                        have c_477 := (z_le (by omega)).mp c_477
                        refine lv_iload hx hb dL_law_483 (lv_at hl 4 rfl) ?_
                        refine lv_istore (lv' := [(11, .int (nI (sz))), (20, .int (nI (a))), (19, .int (if true = true then 1 else 0)), (17, .long (lN ky)), (16, .int (nI (at9))), (15, .int (nI (sz))), (14, .int (nI (cd))), (12, .long (lN bk)), (0, .ref b), (1, .ref ((bd b0) 0)), (2, .int (nI (n))), (3, .ref ((bd b0) 114)), (4, .ref ((bd b0) 115)), (5, .ref ((bd b0) 116)), (6, .ref ((bd b0) 125)), (8, .int (nI (a))), (7, .ref ((bd b0) 126)), (9, .int (nI (c9)))]) hx hb dL_law_485 hl (by decide) rfl (fun ls hl => ?_)
                        refine lv_lload hx hb dL_law_487 (lv_at hl 3 rfl) ?_
                        refine lv_lstore (lv' := [(12, .long (lN ky)), (11, .int (nI (sz))), (20, .int (nI (a))), (19, .int (if true = true then 1 else 0)), (17, .long (lN ky)), (16, .int (nI (at9))), (15, .int (nI (sz))), (14, .int (nI (cd))), (0, .ref b), (1, .ref ((bd b0) 0)), (2, .int (nI (n))), (3, .ref ((bd b0) 114)), (4, .ref ((bd b0) 115)), (5, .ref ((bd b0) 116)), (6, .ref ((bd b0) 125)), (8, .int (nI (a))), (7, .ref ((bd b0) 126)), (9, .int (nI (c9)))]) hx hb dL_law_489 hl (by decide) rfl (fun ls hl => ?_)
                        refine lv_iinc (v := nI (cd + 1)) (lv' := [(14, .int (nI (cd + 1))), (12, .long (lN ky)), (11, .int (nI (sz))), (20, .int (nI (a))), (19, .int (if true = true then 1 else 0)), (17, .long (lN ky)), (16, .int (nI (at9))), (15, .int (nI (sz))), (0, .ref b), (1, .ref ((bd b0) 0)), (2, .int (nI (n))), (3, .ref ((bd b0) 114)), (4, .ref ((bd b0) 115)), (5, .ref ((bd b0) 116)), (6, .ref ((bd b0) 125)), (8, .int (nI (a))), (7, .ref ((bd b0) 126)), (9, .int (nI (c9)))]) hx hb dL_law_491 hl (k := 7) rfl (by exact nI_add cd 1) (by decide) rfl (fun ls hl => ?_)
                        refine lv_goto (tgt := 332) hx hb dL_law_494 (by decide) ?_
                        exact ih332 (cd + 1) sz ky (by omega) (out_t hout hin (by omega) (by omega)) (by omega) (by omega) (by omega) _ (lv_sub hl [0, 1, 2, 8, 9, 10, 11, 12, 13, 14, 15, 16, 17] rfl)
                      · skip
                        have c_477 := (not_congr (z_le (by omega))).mp c_477
                        refine lv_goto (tgt := 491) hx hb dL_law_480 (by decide) ?_
                        refine lv_iinc (v := nI (cd + 1)) (lv' := [(14, .int (nI (cd + 1))), (20, .int (nI (a))), (19, .int (if true = true then 1 else 0)), (17, .long (lN ky)), (16, .int (nI (at9))), (15, .int (nI (sz))), (12, .long (lN bk)), (11, .int (nI (bs))), (0, .ref b), (1, .ref ((bd b0) 0)), (2, .int (nI (n))), (3, .ref ((bd b0) 114)), (4, .ref ((bd b0) 115)), (5, .ref ((bd b0) 116)), (6, .ref ((bd b0) 125)), (8, .int (nI (a))), (7, .ref ((bd b0) 126)), (9, .int (nI (c9)))]) hx hb dL_law_491 hl (k := 5) rfl (by exact nI_add cd 1) (by decide) rfl (fun ls hl => ?_)
                        refine lv_goto (tgt := 332) hx hb dL_law_494 (by decide) ?_
                        exact ih332 (cd + 1) bs bk (by omega) (out_s hout hin (by omega)) (by omega) (by omega) (by omega) _ (lv_sub hl [0, 6, 7, 8, 9, 10, 11, 12, 13, 14, 15, 16, 17] rfl)
            · skip
              have c_360 := (not_congr (nI_leI (by omega) (by omega))).mp c_360
              refine lv_iload hx hb dL_law_363 (lv_at hl 1 rfl) ?_
              refine lv_if_eq (tgt := 448) hx hb dL_law_365 (by decide) (fun c_365 => ?_) (fun c_365 => ?_)
              · skip
                have c_365 := bz_eq.mp c_365
                have hz9 : z9 = false := by revert c_365; cases z9 <;> simp
                have hfin : (inn O PA c9 cd a).2.2.2 = false := by rw [hz9] at hin; have h := inn_f hin (a - k); rw [show k + (a - k) = a by omega] at h; exact h
                refine lv_iload hx hb dL_law_448 (lv_at hl 1 rfl) ?_
                refine lv_if_eq (tgt := 491) hx hb dL_law_450 (by decide) (fun c_450 => ?_) (fun c_450 => ?_)
                · skip
                  have c_450 := bz_eq.mp c_450
                  refine lv_iinc (v := nI (cd + 1)) (lv' := [(14, .int (nI (cd + 1))), (20, .int (nI (k))), (19, .int (if z9 = true then 1 else 0)), (17, .long (lN ky)), (16, .int (nI (at9))), (15, .int (nI (sz))), (12, .long (lN bk)), (11, .int (nI (bs))), (0, .ref b), (1, .ref ((bd b0) 0)), (2, .int (nI (n))), (3, .ref ((bd b0) 114)), (4, .ref ((bd b0) 115)), (5, .ref ((bd b0) 116)), (6, .ref ((bd b0) 125)), (8, .int (nI (a))), (7, .ref ((bd b0) 126)), (9, .int (nI (c9)))]) hx hb dL_law_491 hl (k := 5) rfl (by exact nI_add cd 1) (by decide) rfl (fun ls hl => ?_)
                  refine lv_goto (tgt := 332) hx hb dL_law_494 (by decide) ?_
                  exact ih332 (cd + 1) bs bk (by omega) (out_f hout hfin) (by omega) (by omega) (by omega) _ (lv_sub hl [0, 6, 7, 8, 9, 10, 11, 12, 13, 14, 15, 16, 17] rfl)
                · skip
                  have c_450 := bz_ne.mp c_450
                  exact absurd c_450 c_365
              · skip
                have c_365 := bz_ne.mp c_365
                subst c_365
                have hat := hat rfl
                have hb1 : cd / 2 ^ k &&& 1 < 2 := Nat.lt_of_le_of_lt Nat.and_le_right (by decide)
                have hOk := hO4 k
                refine lv_iload hx hb dL_law_368 (lv_at hl 5 rfl) ?_
                refine lv_iload hx hb dL_law_370 (lv_at hl 0 rfl) ?_
                refine lv_ishr hx hb dL_law_372 ?_
                refine tpi (shrN (by omega) (by omega)) ?_
                refine lv_iconst (v := nI (1)) hx hb dL_law_373 (by decide) ?_
                refine lv_iand hx hb dL_law_374 ?_
                refine tpi (nx_and (cd / 2 ^ k) 1) ?_
                refine lv_if_ne (tgt := 381) hx hb dL_law_375 (by decide) (fun c_375 => ?_) (fun c_375 => ?_)
                · skip
                  have c_375 := (not_congr (z_eq (by omega))).mp c_375
                  have hbit : cd.testBit k = true := Decidable.byContradiction (fun q => c_375 (bit_1.mpr q))
                  have L381 : ∀ (fu : Nat) (a9 : Nat), (a9 ≤ c9) → (pfr PA c9 (O k) a9 = pfr PA c9 (O k) at9) → (c9 - a9) < fu → ∀ (ls : Array Slot), lv_has ls 21 [(20, .int (nI (k))), (19, .int (if true = true then 1 else 0)), (17, .long (lN ky)), (16, .int (nI (a9))), (15, .int (nI (sz))), (14, .int (nI (cd))), (12, .long (lN bk)), (11, .int (nI (bs))), (0, .ref b), (1, .ref ((bd b0) 0)), (2, .int (nI (n))), (3, .ref ((bd b0) 114)), (4, .ref ((bd b0) 115)), (5, .ref ((bd b0) 116)), (6, .ref ((bd b0) 125)), (8, .int (nI (a))), (7, .ref ((bd b0) 126)), (9, .int (nI (c9)))] → W p l e room_1 s m #[.ref b] below meth c H [] (127) (15124) (lw_Z below #[.ref b] s) (F0 m 381 ls []) := by
                    intro fu
                    induction fu with
                    | zero => intro a9 ha9 hpf hms ls hl; exact absurd hms (Nat.not_lt_zero _)
                    | succ fu ih381 =>
                      intro a9 ha9 hpf hms ls hl
                      have hPa := hP4 a9
                      refine lv_iload hx hb dL_law_381 (lv_at hl 3 rfl) ?_
                      refine lv_iload hx hb dL_law_383 (lv_at hl 17 rfl) ?_
                      refine lv_icmp_ge (tgt := 407) hx hb dL_law_385 (by decide) (fun c_385 => ?_) (fun c_385 => ?_)
                      · skip
                        have c_385 := (nI_leI (by omega) (by omega)).mp c_385
                        have hea : a9 = pfr PA c9 (O k) at9 := (pfr_z (by omega)).symm.trans hpf
                        refine lv_iload hx hb dL_law_407 (lv_at hl 3 rfl) ?_
                        refine lv_iload hx hb dL_law_409 (lv_at hl 17 rfl) ?_
                        refine lv_icmp_ge (tgt := 418) hx hb dL_law_411 (by decide) (fun c_411 => ?_) (fun c_411 => ?_)
                        · skip
                          have c_411 := (nI_leI (by omega) (by omega)).mp c_411
                          refine lv_iconst (v := nI (0)) hx hb dL_law_418 (by decide) ?_
                          refine lv_istore (lv' := [(19, .int (nI (0))), (20, .int (nI (k))), (17, .long (lN ky)), (16, .int (nI (a9))), (15, .int (nI (sz))), (14, .int (nI (cd))), (12, .long (lN bk)), (11, .int (nI (bs))), (0, .ref b), (1, .ref ((bd b0) 0)), (2, .int (nI (n))), (3, .ref ((bd b0) 114)), (4, .ref ((bd b0) 115)), (5, .ref ((bd b0) 116)), (6, .ref ((bd b0) 125)), (8, .int (nI (a))), (7, .ref ((bd b0) 126)), (9, .int (nI (c9)))]) hx hb dL_law_419 hl (by decide) rfl (fun ls hl => ?_)
                          refine lv_iinc (v := nI (a9 + 1)) (lv' := [(16, .int (nI (a9 + 1))), (19, .int (nI (0))), (20, .int (nI (k))), (17, .long (lN ky)), (15, .int (nI (sz))), (14, .int (nI (cd))), (12, .long (lN bk)), (11, .int (nI (bs))), (0, .ref b), (1, .ref ((bd b0) 0)), (2, .int (nI (n))), (3, .ref ((bd b0) 114)), (4, .ref ((bd b0) 115)), (5, .ref ((bd b0) 116)), (6, .ref ((bd b0) 125)), (8, .int (nI (a))), (7, .ref ((bd b0) 126)), (9, .int (nI (c9)))]) hx hb dL_law_421 hl (k := 3) rfl (by exact nI_add a9 1) (by decide) rfl (fun ls hl => ?_)
                          refine lv_iinc (v := nI (sz + 1)) (lv' := [(15, .int (nI (sz + 1))), (16, .int (nI (a9 + 1))), (19, .int (nI (0))), (20, .int (nI (k))), (17, .long (lN ky)), (14, .int (nI (cd))), (12, .long (lN bk)), (11, .int (nI (bs))), (0, .ref b), (1, .ref ((bd b0) 0)), (2, .int (nI (n))), (3, .ref ((bd b0) 114)), (4, .ref ((bd b0) 115)), (5, .ref ((bd b0) 116)), (6, .ref ((bd b0) 125)), (8, .int (nI (a))), (7, .ref ((bd b0) 126)), (9, .int (nI (c9)))]) hx hb dL_law_424 hl (k := 4) rfl (by exact nI_add sz 1) (by decide) rfl (fun ls hl => ?_)
                          refine lv_ldc2 hx hb S.2.2.2.1 (S.2.2.2.2 _ m_L_56) dL_law_427 ?_
                          refine tpl (show (4 : Int64) = lN 4 from rfl) ?_
                          refine lv_lload hx hb dL_law_430 (lv_at hl 4 rfl) ?_
                          refine lv_lmul hx hb dL_law_432 ?_
                          refine lv_aload hx hb dL_law_433 (lv_at hl 14 rfl) ?_
                          refine lv_iload hx hb dL_law_435 (lv_at hl 3 rfl) ?_
                          refine mial S hK hP (by omega) hm125 (vp_in_nI (by omega) (by omega)) dL_law_437 ?_
                          refine tpi (congrArg ((fun x9 => nI (O x9))) (nI_clamp (by omega))) ?_
                          refine lv_i2l hx hb dL_law_438 rfl ?_
                          refine tpl (nI_l (by omega)) ?_
                          refine lv_ladd hx hb dL_law_439 ?_
                          refine tpl (y := lN (4 * ky + O k)) (lkey ky (O k)) ?_
                          refine lv_lstore (lv' := [(17, .long (lN (4 * ky + O k))), (15, .int (nI (sz + 1))), (16, .int (nI (a9 + 1))), (19, .int (nI (0))), (20, .int (nI (k))), (14, .int (nI (cd))), (12, .long (lN bk)), (11, .int (nI (bs))), (0, .ref b), (1, .ref ((bd b0) 0)), (2, .int (nI (n))), (3, .ref ((bd b0) 114)), (4, .ref ((bd b0) 115)), (5, .ref ((bd b0) 116)), (6, .ref ((bd b0) 125)), (8, .int (nI (a))), (7, .ref ((bd b0) 126)), (9, .int (nI (c9)))]) hx hb dL_law_440 hl (by decide) rfl (fun ls hl => ?_)
                          refine lv_iinc (v := nI (k + 1)) (lv' := [(20, .int (nI (k + 1))), (17, .long (lN (4 * ky + O k))), (15, .int (nI (sz + 1))), (16, .int (nI (a9 + 1))), (19, .int (nI (0))), (14, .int (nI (cd))), (12, .long (lN bk)), (11, .int (nI (bs))), (0, .ref b), (1, .ref ((bd b0) 0)), (2, .int (nI (n))), (3, .ref ((bd b0) 114)), (4, .ref ((bd b0) 115)), (5, .ref ((bd b0) 116)), (6, .ref ((bd b0) 125)), (8, .int (nI (a))), (7, .ref ((bd b0) 126)), (9, .int (nI (c9)))]) hx hb dL_law_442 hl (k := 4) rfl (by exact nI_add k 1) (by decide) rfl (fun ls hl => ?_)
                          refine lv_goto (tgt := 356) hx hb dL_law_445 (by decide) ?_
                          exact ih356 (k + 1) (sz + 1) (a9 + 1) (4 * ky + O k) false (by omega) (inn_y hin hbit hea (decide_eq_false (by omega)).symm) (p4_s hky (hO4 k)) (fun q => absurd q (by decide)) (by omega) (by omega) (by omega) _ (lv_sub hl [0, 4, 1, 3, 2, 5, 6, 7, 8, 9, 10, 11, 12, 13, 14, 15, 16, 17] rfl)
                        · skip
                          have c_411 := (not_congr (nI_leI (by omega) (by omega))).mp c_411
                          refine lv_iconst (v := nI (1)) hx hb dL_law_414 (by decide) ?_
                          refine lv_goto (tgt := 419) hx hb dL_law_415 (by decide) ?_
                          refine lv_istore (lv' := [(19, .int (nI (1))), (20, .int (nI (k))), (17, .long (lN ky)), (16, .int (nI (a9))), (15, .int (nI (sz))), (14, .int (nI (cd))), (12, .long (lN bk)), (11, .int (nI (bs))), (0, .ref b), (1, .ref ((bd b0) 0)), (2, .int (nI (n))), (3, .ref ((bd b0) 114)), (4, .ref ((bd b0) 115)), (5, .ref ((bd b0) 116)), (6, .ref ((bd b0) 125)), (8, .int (nI (a))), (7, .ref ((bd b0) 126)), (9, .int (nI (c9)))]) hx hb dL_law_419 hl (by decide) rfl (fun ls hl => ?_)
                          refine lv_iinc (v := nI (a9 + 1)) (lv' := [(16, .int (nI (a9 + 1))), (19, .int (nI (1))), (20, .int (nI (k))), (17, .long (lN ky)), (15, .int (nI (sz))), (14, .int (nI (cd))), (12, .long (lN bk)), (11, .int (nI (bs))), (0, .ref b), (1, .ref ((bd b0) 0)), (2, .int (nI (n))), (3, .ref ((bd b0) 114)), (4, .ref ((bd b0) 115)), (5, .ref ((bd b0) 116)), (6, .ref ((bd b0) 125)), (8, .int (nI (a))), (7, .ref ((bd b0) 126)), (9, .int (nI (c9)))]) hx hb dL_law_421 hl (k := 3) rfl (by exact nI_add a9 1) (by decide) rfl (fun ls hl => ?_)
                          refine lv_iinc (v := nI (sz + 1)) (lv' := [(15, .int (nI (sz + 1))), (16, .int (nI (a9 + 1))), (19, .int (nI (1))), (20, .int (nI (k))), (17, .long (lN ky)), (14, .int (nI (cd))), (12, .long (lN bk)), (11, .int (nI (bs))), (0, .ref b), (1, .ref ((bd b0) 0)), (2, .int (nI (n))), (3, .ref ((bd b0) 114)), (4, .ref ((bd b0) 115)), (5, .ref ((bd b0) 116)), (6, .ref ((bd b0) 125)), (8, .int (nI (a))), (7, .ref ((bd b0) 126)), (9, .int (nI (c9)))]) hx hb dL_law_424 hl (k := 4) rfl (by exact nI_add sz 1) (by decide) rfl (fun ls hl => ?_)
                          refine lv_ldc2 hx hb S.2.2.2.1 (S.2.2.2.2 _ m_L_56) dL_law_427 ?_
                          refine tpl (show (4 : Int64) = lN 4 from rfl) ?_
                          refine lv_lload hx hb dL_law_430 (lv_at hl 4 rfl) ?_
                          refine lv_lmul hx hb dL_law_432 ?_
                          refine lv_aload hx hb dL_law_433 (lv_at hl 14 rfl) ?_
                          refine lv_iload hx hb dL_law_435 (lv_at hl 3 rfl) ?_
                          refine mial S hK hP (by omega) hm125 (vp_in_nI (by omega) (by omega)) dL_law_437 ?_
                          refine tpi (congrArg ((fun x9 => nI (O x9))) (nI_clamp (by omega))) ?_
                          refine lv_i2l hx hb dL_law_438 rfl ?_
                          refine tpl (nI_l (by omega)) ?_
                          refine lv_ladd hx hb dL_law_439 ?_
                          refine tpl (y := lN (4 * ky + O k)) (lkey ky (O k)) ?_
                          refine lv_lstore (lv' := [(17, .long (lN (4 * ky + O k))), (15, .int (nI (sz + 1))), (16, .int (nI (a9 + 1))), (19, .int (nI (1))), (20, .int (nI (k))), (14, .int (nI (cd))), (12, .long (lN bk)), (11, .int (nI (bs))), (0, .ref b), (1, .ref ((bd b0) 0)), (2, .int (nI (n))), (3, .ref ((bd b0) 114)), (4, .ref ((bd b0) 115)), (5, .ref ((bd b0) 116)), (6, .ref ((bd b0) 125)), (8, .int (nI (a))), (7, .ref ((bd b0) 126)), (9, .int (nI (c9)))]) hx hb dL_law_440 hl (by decide) rfl (fun ls hl => ?_)
                          refine lv_iinc (v := nI (k + 1)) (lv' := [(20, .int (nI (k + 1))), (17, .long (lN (4 * ky + O k))), (15, .int (nI (sz + 1))), (16, .int (nI (a9 + 1))), (19, .int (nI (1))), (14, .int (nI (cd))), (12, .long (lN bk)), (11, .int (nI (bs))), (0, .ref b), (1, .ref ((bd b0) 0)), (2, .int (nI (n))), (3, .ref ((bd b0) 114)), (4, .ref ((bd b0) 115)), (5, .ref ((bd b0) 116)), (6, .ref ((bd b0) 125)), (8, .int (nI (a))), (7, .ref ((bd b0) 126)), (9, .int (nI (c9)))]) hx hb dL_law_442 hl (k := 4) rfl (by exact nI_add k 1) (by decide) rfl (fun ls hl => ?_)
                          refine lv_goto (tgt := 356) hx hb dL_law_445 (by decide) ?_
                          exact ih356 (k + 1) (sz + 1) (a9 + 1) (4 * ky + O k) true (by omega) (inn_y hin hbit hea (decide_eq_true (by omega)).symm) (p4_s hky (hO4 k)) (fun _ => by omega) (by omega) (by omega) (by omega) _ (lv_sub hl [0, 4, 1, 3, 2, 5, 6, 7, 8, 9, 10, 11, 12, 13, 14, 15, 16, 17] rfl)
                      · skip
                        have c_385 := (not_congr (nI_leI (by omega) (by omega))).mp c_385
                        refine lv_aload hx hb dL_law_388 (lv_at hl 16 rfl) ?_
                        refine lv_iload hx hb dL_law_390 (lv_at hl 3 rfl) ?_
                        refine mial S hK hP (by omega) hm126 (vp_in_nI (by omega) (by omega)) dL_law_392 ?_
                        refine tpi (congrArg ((fun x9 => nI (PA x9))) (nI_clamp (by omega))) ?_
                        refine lv_aload hx hb dL_law_393 (lv_at hl 14 rfl) ?_
                        refine lv_iload hx hb dL_law_395 (lv_at hl 0 rfl) ?_
                        refine mial S hK hP (by omega) hm125 (vp_in_nI (by omega) (by omega)) dL_law_397 ?_
                        refine tpi (congrArg ((fun x9 => nI (O x9))) (nI_clamp (by omega))) ?_
                        refine lv_icmp_eq (tgt := 407) hx hb dL_law_398 (by decide) (fun c_398 => ?_) (fun c_398 => ?_)
                        · skip
                          have c_398 := (nI_eq (by omega) (by omega)).mp c_398
                          have hea : a9 = pfr PA c9 (O k) at9 := (pfr_y (by omega) c_398).symm.trans hpf
                          refine lv_iload hx hb dL_law_407 (lv_at hl 3 rfl) ?_
                          refine lv_iload hx hb dL_law_409 (lv_at hl 17 rfl) ?_
                          refine lv_icmp_ge (tgt := 418) hx hb dL_law_411 (by decide) (fun c_411 => ?_) (fun c_411 => ?_)
                          · skip
                            have c_411 := (nI_leI (by omega) (by omega)).mp c_411
                            refine lv_iconst (v := nI (0)) hx hb dL_law_418 (by decide) ?_
                            refine lv_istore (lv' := [(19, .int (nI (0))), (20, .int (nI (k))), (17, .long (lN ky)), (16, .int (nI (a9))), (15, .int (nI (sz))), (14, .int (nI (cd))), (12, .long (lN bk)), (11, .int (nI (bs))), (0, .ref b), (1, .ref ((bd b0) 0)), (2, .int (nI (n))), (3, .ref ((bd b0) 114)), (4, .ref ((bd b0) 115)), (5, .ref ((bd b0) 116)), (6, .ref ((bd b0) 125)), (8, .int (nI (a))), (7, .ref ((bd b0) 126)), (9, .int (nI (c9)))]) hx hb dL_law_419 hl (by decide) rfl (fun ls hl => ?_)
                            refine lv_iinc (v := nI (a9 + 1)) (lv' := [(16, .int (nI (a9 + 1))), (19, .int (nI (0))), (20, .int (nI (k))), (17, .long (lN ky)), (15, .int (nI (sz))), (14, .int (nI (cd))), (12, .long (lN bk)), (11, .int (nI (bs))), (0, .ref b), (1, .ref ((bd b0) 0)), (2, .int (nI (n))), (3, .ref ((bd b0) 114)), (4, .ref ((bd b0) 115)), (5, .ref ((bd b0) 116)), (6, .ref ((bd b0) 125)), (8, .int (nI (a))), (7, .ref ((bd b0) 126)), (9, .int (nI (c9)))]) hx hb dL_law_421 hl (k := 3) rfl (by exact nI_add a9 1) (by decide) rfl (fun ls hl => ?_)
                            refine lv_iinc (v := nI (sz + 1)) (lv' := [(15, .int (nI (sz + 1))), (16, .int (nI (a9 + 1))), (19, .int (nI (0))), (20, .int (nI (k))), (17, .long (lN ky)), (14, .int (nI (cd))), (12, .long (lN bk)), (11, .int (nI (bs))), (0, .ref b), (1, .ref ((bd b0) 0)), (2, .int (nI (n))), (3, .ref ((bd b0) 114)), (4, .ref ((bd b0) 115)), (5, .ref ((bd b0) 116)), (6, .ref ((bd b0) 125)), (8, .int (nI (a))), (7, .ref ((bd b0) 126)), (9, .int (nI (c9)))]) hx hb dL_law_424 hl (k := 4) rfl (by exact nI_add sz 1) (by decide) rfl (fun ls hl => ?_)
                            refine lv_ldc2 hx hb S.2.2.2.1 (S.2.2.2.2 _ m_L_56) dL_law_427 ?_
                            refine tpl (show (4 : Int64) = lN 4 from rfl) ?_
                            refine lv_lload hx hb dL_law_430 (lv_at hl 4 rfl) ?_
                            refine lv_lmul hx hb dL_law_432 ?_
                            refine lv_aload hx hb dL_law_433 (lv_at hl 14 rfl) ?_
                            refine lv_iload hx hb dL_law_435 (lv_at hl 3 rfl) ?_
                            refine mial S hK hP (by omega) hm125 (vp_in_nI (by omega) (by omega)) dL_law_437 ?_
                            refine tpi (congrArg ((fun x9 => nI (O x9))) (nI_clamp (by omega))) ?_
                            refine lv_i2l hx hb dL_law_438 rfl ?_
                            refine tpl (nI_l (by omega)) ?_
                            refine lv_ladd hx hb dL_law_439 ?_
                            refine tpl (y := lN (4 * ky + O k)) (lkey ky (O k)) ?_
                            refine lv_lstore (lv' := [(17, .long (lN (4 * ky + O k))), (15, .int (nI (sz + 1))), (16, .int (nI (a9 + 1))), (19, .int (nI (0))), (20, .int (nI (k))), (14, .int (nI (cd))), (12, .long (lN bk)), (11, .int (nI (bs))), (0, .ref b), (1, .ref ((bd b0) 0)), (2, .int (nI (n))), (3, .ref ((bd b0) 114)), (4, .ref ((bd b0) 115)), (5, .ref ((bd b0) 116)), (6, .ref ((bd b0) 125)), (8, .int (nI (a))), (7, .ref ((bd b0) 126)), (9, .int (nI (c9)))]) hx hb dL_law_440 hl (by decide) rfl (fun ls hl => ?_)
                            refine lv_iinc (v := nI (k + 1)) (lv' := [(20, .int (nI (k + 1))), (17, .long (lN (4 * ky + O k))), (15, .int (nI (sz + 1))), (16, .int (nI (a9 + 1))), (19, .int (nI (0))), (14, .int (nI (cd))), (12, .long (lN bk)), (11, .int (nI (bs))), (0, .ref b), (1, .ref ((bd b0) 0)), (2, .int (nI (n))), (3, .ref ((bd b0) 114)), (4, .ref ((bd b0) 115)), (5, .ref ((bd b0) 116)), (6, .ref ((bd b0) 125)), (8, .int (nI (a))), (7, .ref ((bd b0) 126)), (9, .int (nI (c9)))]) hx hb dL_law_442 hl (k := 4) rfl (by exact nI_add k 1) (by decide) rfl (fun ls hl => ?_)
                            refine lv_goto (tgt := 356) hx hb dL_law_445 (by decide) ?_
                            exact ih356 (k + 1) (sz + 1) (a9 + 1) (4 * ky + O k) false (by omega) (inn_y hin hbit hea (decide_eq_false (by omega)).symm) (p4_s hky (hO4 k)) (fun q => absurd q (by decide)) (by omega) (by omega) (by omega) _ (lv_sub hl [0, 4, 1, 3, 2, 5, 6, 7, 8, 9, 10, 11, 12, 13, 14, 15, 16, 17] rfl)
                          · skip
                            have c_411 := (not_congr (nI_leI (by omega) (by omega))).mp c_411
                            refine lv_iconst (v := nI (1)) hx hb dL_law_414 (by decide) ?_
                            refine lv_goto (tgt := 419) hx hb dL_law_415 (by decide) ?_
                            refine lv_istore (lv' := [(19, .int (nI (1))), (20, .int (nI (k))), (17, .long (lN ky)), (16, .int (nI (a9))), (15, .int (nI (sz))), (14, .int (nI (cd))), (12, .long (lN bk)), (11, .int (nI (bs))), (0, .ref b), (1, .ref ((bd b0) 0)), (2, .int (nI (n))), (3, .ref ((bd b0) 114)), (4, .ref ((bd b0) 115)), (5, .ref ((bd b0) 116)), (6, .ref ((bd b0) 125)), (8, .int (nI (a))), (7, .ref ((bd b0) 126)), (9, .int (nI (c9)))]) hx hb dL_law_419 hl (by decide) rfl (fun ls hl => ?_)
                            refine lv_iinc (v := nI (a9 + 1)) (lv' := [(16, .int (nI (a9 + 1))), (19, .int (nI (1))), (20, .int (nI (k))), (17, .long (lN ky)), (15, .int (nI (sz))), (14, .int (nI (cd))), (12, .long (lN bk)), (11, .int (nI (bs))), (0, .ref b), (1, .ref ((bd b0) 0)), (2, .int (nI (n))), (3, .ref ((bd b0) 114)), (4, .ref ((bd b0) 115)), (5, .ref ((bd b0) 116)), (6, .ref ((bd b0) 125)), (8, .int (nI (a))), (7, .ref ((bd b0) 126)), (9, .int (nI (c9)))]) hx hb dL_law_421 hl (k := 3) rfl (by exact nI_add a9 1) (by decide) rfl (fun ls hl => ?_)
                            refine lv_iinc (v := nI (sz + 1)) (lv' := [(15, .int (nI (sz + 1))), (16, .int (nI (a9 + 1))), (19, .int (nI (1))), (20, .int (nI (k))), (17, .long (lN ky)), (14, .int (nI (cd))), (12, .long (lN bk)), (11, .int (nI (bs))), (0, .ref b), (1, .ref ((bd b0) 0)), (2, .int (nI (n))), (3, .ref ((bd b0) 114)), (4, .ref ((bd b0) 115)), (5, .ref ((bd b0) 116)), (6, .ref ((bd b0) 125)), (8, .int (nI (a))), (7, .ref ((bd b0) 126)), (9, .int (nI (c9)))]) hx hb dL_law_424 hl (k := 4) rfl (by exact nI_add sz 1) (by decide) rfl (fun ls hl => ?_)
                            refine lv_ldc2 hx hb S.2.2.2.1 (S.2.2.2.2 _ m_L_56) dL_law_427 ?_
                            refine tpl (show (4 : Int64) = lN 4 from rfl) ?_
                            refine lv_lload hx hb dL_law_430 (lv_at hl 4 rfl) ?_
                            refine lv_lmul hx hb dL_law_432 ?_
                            refine lv_aload hx hb dL_law_433 (lv_at hl 14 rfl) ?_
                            refine lv_iload hx hb dL_law_435 (lv_at hl 3 rfl) ?_
                            refine mial S hK hP (by omega) hm125 (vp_in_nI (by omega) (by omega)) dL_law_437 ?_
                            refine tpi (congrArg ((fun x9 => nI (O x9))) (nI_clamp (by omega))) ?_
                            refine lv_i2l hx hb dL_law_438 rfl ?_
                            refine tpl (nI_l (by omega)) ?_
                            refine lv_ladd hx hb dL_law_439 ?_
                            refine tpl (y := lN (4 * ky + O k)) (lkey ky (O k)) ?_
                            refine lv_lstore (lv' := [(17, .long (lN (4 * ky + O k))), (15, .int (nI (sz + 1))), (16, .int (nI (a9 + 1))), (19, .int (nI (1))), (20, .int (nI (k))), (14, .int (nI (cd))), (12, .long (lN bk)), (11, .int (nI (bs))), (0, .ref b), (1, .ref ((bd b0) 0)), (2, .int (nI (n))), (3, .ref ((bd b0) 114)), (4, .ref ((bd b0) 115)), (5, .ref ((bd b0) 116)), (6, .ref ((bd b0) 125)), (8, .int (nI (a))), (7, .ref ((bd b0) 126)), (9, .int (nI (c9)))]) hx hb dL_law_440 hl (by decide) rfl (fun ls hl => ?_)
                            refine lv_iinc (v := nI (k + 1)) (lv' := [(20, .int (nI (k + 1))), (17, .long (lN (4 * ky + O k))), (15, .int (nI (sz + 1))), (16, .int (nI (a9 + 1))), (19, .int (nI (1))), (14, .int (nI (cd))), (12, .long (lN bk)), (11, .int (nI (bs))), (0, .ref b), (1, .ref ((bd b0) 0)), (2, .int (nI (n))), (3, .ref ((bd b0) 114)), (4, .ref ((bd b0) 115)), (5, .ref ((bd b0) 116)), (6, .ref ((bd b0) 125)), (8, .int (nI (a))), (7, .ref ((bd b0) 126)), (9, .int (nI (c9)))]) hx hb dL_law_442 hl (k := 4) rfl (by exact nI_add k 1) (by decide) rfl (fun ls hl => ?_)
                            refine lv_goto (tgt := 356) hx hb dL_law_445 (by decide) ?_
                            exact ih356 (k + 1) (sz + 1) (a9 + 1) (4 * ky + O k) true (by omega) (inn_y hin hbit hea (decide_eq_true (by omega)).symm) (p4_s hky (hO4 k)) (fun _ => by omega) (by omega) (by omega) (by omega) _ (lv_sub hl [0, 4, 1, 3, 2, 5, 6, 7, 8, 9, 10, 11, 12, 13, 14, 15, 16, 17] rfl)
                        · skip
                          have c_398 := (not_congr (nI_eq (by omega) (by omega))).mp c_398
                          refine lv_iinc (v := nI (a9 + 1)) (lv' := [(16, .int (nI (a9 + 1))), (20, .int (nI (k))), (19, .int (if true = true then 1 else 0)), (17, .long (lN ky)), (15, .int (nI (sz))), (14, .int (nI (cd))), (12, .long (lN bk)), (11, .int (nI (bs))), (0, .ref b), (1, .ref ((bd b0) 0)), (2, .int (nI (n))), (3, .ref ((bd b0) 114)), (4, .ref ((bd b0) 115)), (5, .ref ((bd b0) 116)), (6, .ref ((bd b0) 125)), (8, .int (nI (a))), (7, .ref ((bd b0) 126)), (9, .int (nI (c9)))]) hx hb dL_law_401 hl (k := 3) rfl (by exact nI_add a9 1) (by decide) rfl (fun ls hl => ?_)
                          refine lv_goto (tgt := 381) hx hb dL_law_404 (by decide) ?_
                          exact ih381 (a9 + 1) (by omega) ((pfr_n (by omega) c_398).symm.trans hpf) (by omega) _ (lv_sub hl [1, 2, 3, 0, 4, 5, 6, 7, 8, 9, 10, 11, 12, 13, 14, 15, 16, 17] rfl)
                  exact L381 ((c9 - at9) + 1) at9 (by omega) rfl (Nat.lt_succ_self _) _ (lv_sub hl [0, 1, 2, 3, 4, 5, 6, 7, 8, 9, 10, 11, 12, 13, 14, 15, 16, 17] rfl)
                · skip
                  have c_375 := (z_eq (by omega)).mp c_375
                  refine lv_goto (tgt := 442) hx hb dL_law_378 (by decide) ?_
                  refine lv_iinc (v := nI (k + 1)) (lv' := [(20, .int (nI (k + 1))), (19, .int (if true = true then 1 else 0)), (17, .long (lN ky)), (16, .int (nI (at9))), (15, .int (nI (sz))), (14, .int (nI (cd))), (12, .long (lN bk)), (11, .int (nI (bs))), (0, .ref b), (1, .ref ((bd b0) 0)), (2, .int (nI (n))), (3, .ref ((bd b0) 114)), (4, .ref ((bd b0) 115)), (5, .ref ((bd b0) 116)), (6, .ref ((bd b0) 125)), (8, .int (nI (a))), (7, .ref ((bd b0) 126)), (9, .int (nI (c9)))]) hx hb dL_law_442 hl (k := 0) rfl (by exact nI_add k 1) (by decide) rfl (fun ls hl => ?_)
                  refine lv_goto (tgt := 356) hx hb dL_law_445 (by decide) ?_
                  exact ih356 (k + 1) sz at9 ky true (by omega) (inn_n hin (bit_1.mp c_375)) (Nat.lt_of_lt_of_le hky (Nat.pow_le_pow_right (by decide) (Nat.le_succ k))) (fun _ => by omega) (by omega) (by omega) (by omega) _ (lv_sub hl [0, 1, 2, 3, 4, 5, 6, 7, 8, 9, 10, 11, 12, 13, 14, 15, 16, 17] rfl)
        exact L356 ((a - 0) + 1) 0 0 0 0 true (by omega) rfl (by decide) (fun _ => Nat.zero_le _) (by omega) (by omega) (Nat.lt_succ_self _) _ (lv_sub hl [0, 1, 2, 3, 4, 5, 6, 7, 8, 9, 10, 11, 12, 13, 14, 15, 16, 17] rfl)
  exact L332 ((2 ^ a - 0) + 1) 0 0 0 (Nat.zero_le _) rfl (by omega) (by omega) (Nat.lt_succ_self _) _ (lv_sub hl [0, 1, 2, 3, 4, 5, 6, 7, 8, 9, 10, 11, 12] rfl)

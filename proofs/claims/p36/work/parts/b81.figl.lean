theorem up128 {T : Nat → Nat} {len v : Nat} (h : ∀ j, j < len → T j < 128) (hv : v < 128) : ∀ j, j < len + 1 → va_up T len v j < 128 := fun j hj => by
  by_cases e : j = len
  · subst e; rw [va_up_self]; exact hv
  · rw [va_up_ne _ _ e]; exact h j (by omega)
theorem neg_in {a t q : Nat} (ht : t = 0) (ha : 1 ≤ a ∧ a ≤ 3) (hq : q < 2 ^ 31) : ¬ ¬ nI a * (nI t - nI 1) ≤ nI q := by
  subst ht
  have hp := nI_pos' hq
  intro h
  apply h
  rcases (show a = 1 ∨ a = 2 ∨ a = 3 by omega) with rfl | rfl | rfl
  · exact Int32.le_trans (show nI 1 * (nI 0 - nI 1) ≤ 0 by decide) hp
  · exact Int32.le_trans (show nI 2 * (nI 0 - nI 1) ≤ 0 by decide) hp
  · exact Int32.le_trans (show nI 3 * (nI 0 - nI 1) ≤ 0 by decide) hp
set_option maxHeartbeats 4000000 in
set_option maxRecDepth 100000 in
theorem c_L_figure (l : Launch) (D : va_G) (cy : Nat → ClassId) (ad : Nat → Nat) (N : Nat) (g : Nat → va_E) (hinj : ∀ i j : Nat, i < N → j < N → ad i = ad j → i = j) (b L : Nat) (xs : Nat → Int32) (fr : Nat) (hfr : fr ≤ 100) (n : Nat) (hn : 4 ≤ n ∧ n ≤ 8) (hL : L < 1000) (it : Nat) (iso : Nat) (inu : Nat) (ib : Nat) (hlt : (it < N ∧ iso < N) ∧ inu < N ∧ ib < N) (hne : (it ≠ iso ∧ it ≠ inu ∧ it ≠ ib) ∧ iso ≠ inu ∧ iso ≠ ib ∧ inu ≠ ib) (T : Nat → Nat) (ht : g it = .inl (cy 1, 64, .inl (fun x9 => nI (T x9)))) (hso : g iso = .inl (cy 1, 64, .inl (fun x9 => nI (((fun _ => 0)) x9)))) (hnu : g inu = .inl (cy 1, 64, .inl (fun x9 => nI (((fun _ => 0)) x9)))) (BB : Nat → Nat) (hbb : g ib = .inl (cy 1, 1, .inl (fun x9 => nI (BB x9)))) : Met l yL_figure (WS yL_figure cL_figure 20 (some .int)) (rmF 1 21) (PPS [.ref b, .int (nI (fr)), .int (nI (n)), .ref (ad it), .ref (ad iso), .ref (ad inu), .ref (ad ib), .int (nI (0))] D cy ad N g b L xs) (QI (fun r g1 => ∃ (T9 : Nat → Nat), ∃ (l9 : Nat), (r = nI l9) ∧ (l9 ≤ 48) ∧ (∀ j, j < l9 → T9 j < 128) ∧ (TXP T9 l9 (fgR xs L fr n (fgI xs L fr)).1 (rw8 (fgR xs L fr n (fgI xs L fr))) 0 0 0 0) ∧ g1 it = .inl (cy 1, 64, .inl (fun x9 => nI (T9 x9))) ∧ g1 ib = .inl (cy 1, 1, .inl (fun x9 => nI ((va_up BB 0 (fgR xs L fr n (fgI xs L fr)).1) x9))) ∧ (∀ j, j ≠ it → j ≠ ib → j ≠ iso → j ≠ inu → g1 j = g j)) D ad N) 0 0 (AA ad N) := by
  refine pentry (by decide) (Nat.le_of_ble_eq_true rfl) (fun p e s m below meth c ls S hr hlk hnm hP hK hX hbl hbA hl => ?_)
  have S : CallFix p m c cL_figure 20 s _ wsL_law RL := S
  have hx := S.1
  have hb := S.2.1
  have hl : lv_has ls 20 [(0, .ref b), (1, .int (nI (fr))), (2, .int (nI (n))), (3, .ref (ad it)), (4, .ref (ad iso)), (5, .ref (ad inu)), (6, .ref (ad ib)), (7, .int (nI (0)))] := hl
  have hI : MD (AA ad N) ad N := MD.in hinj
  have hS : va_S (AA ad N) s.heap s.heap [] := va_S.rf
  have hfr : ∀ j : Nat, g j = g j := fun _ => rfl
  refine lv_iconst (v := nI (0)) hx hb dL_figure_0 (by decide) ?_
  refine lv_istore (lv' := [(8, .int (nI (0))), (0, .ref b), (1, .int (nI (fr))), (2, .int (nI (n))), (3, .ref (ad it)), (4, .ref (ad iso)), (5, .ref (ad inu)), (6, .ref (ad ib)), (7, .int (nI (0)))]) hx hb dL_figure_1 hl (by decide) rfl (fun ls hl => ?_)
  refine lv_iconst (v := nI (0)) hx hb dL_figure_3 (by decide) ?_
  refine lv_istore (lv' := [(9, .int (nI (0))), (8, .int (nI (0))), (0, .ref b), (1, .int (nI (fr))), (2, .int (nI (n))), (3, .ref (ad it)), (4, .ref (ad iso)), (5, .ref (ad inu)), (6, .ref (ad ib)), (7, .int (nI (0)))]) hx hb dL_figure_4 hl (by decide) rfl (fun ls hl => ?_)
  refine lv_iconst (v := nI (1)) hx hb dL_figure_6 (by decide) ?_
  refine lv_aload_n hx hb dL_figure_7 rfl (lv_at hl 2 rfl) ?_
  refine lv_iload_n hx hb dL_figure_8 rfl (lv_at hl 3 rfl) ?_
  refine kPi (A := AA ad N) (As := [.ref b, .int (nI (fr))]) (rest := [.int (nI (1))]) S hK hP hX hbl hbA (fun _ h => h) hS (c_L_cell l D cy ad N g b L xs fr (by omega) hL) cs_L_23 ⟨rfl, rfl⟩ rfl hl.1 rfl (Nat.le_of_ble_eq_true rfl) ⟨Nat.zero_le _, Nat.zero_le _⟩ dL_figure_9 (fun r_9 q_9 => ?_)
  subst q_9
  refine lv_iconst (v := nI (4)) hx hb dL_figure_12 (by decide) ?_
  refine kSi (As := [.int (cev xs L fr), .int (nI (4))]) (rest := [.int (nI (1))]) S hK hP (c_L_part l D cy ad N g (cev xs L fr) 4 ⟨by omega, by omega⟩) cs_L_29 ⟨rfl, rfl⟩ rfl hl.1 rfl (Nat.le_of_ble_eq_true rfl) ⟨Nat.zero_le _, Nat.zero_le _⟩ dL_figure_13 (fun r_13 q_13 => ?_)
  subst q_13
  have hp13 := ptv_lt (cev xs L fr) (n := 4) (by decide)
  refine lv_iadd hx hb dL_figure_16 ?_
  refine tpi (nI_add 1 (ptv (cev xs L fr) 4)) ?_
  refine tpi (y := nI (fgI xs L fr)) (rfl) ?_
  refine lv_istore (lv' := [(10, .int (nI (fgI xs L fr))), (9, .int (nI (0))), (8, .int (nI (0))), (0, .ref b), (1, .int (nI (fr))), (2, .int (nI (n))), (3, .ref (ad it)), (4, .ref (ad iso)), (5, .ref (ad inu)), (6, .ref (ad ib)), (7, .int (nI (0)))]) hx hb dL_figure_17 hl (by decide) rfl (fun ls hl => ?_)
  refine lv_iconst (v := nI (0)) hx hb dL_figure_19 (by decide) ?_
  refine lv_istore (lv' := [(11, .int (nI (0))), (10, .int (nI (fgI xs L fr))), (9, .int (nI (0))), (8, .int (nI (0))), (0, .ref b), (1, .int (nI (fr))), (2, .int (nI (n))), (3, .ref (ad it)), (4, .ref (ad iso)), (5, .ref (ad inu)), (6, .ref (ad ib)), (7, .int (nI (0)))]) hx hb dL_figure_20 hl (by decide) rfl (fun ls hl => ?_)
  have L22 : ∀ (fu : Nat) (k len : Nat) (T2 : Nat → Nat), (k ≤ fgI xs L fr) → (len ≤ 12 * k) → (∀ j, j < len → T2 j < 128) → (∃ em, (0 < k → em = 0) ∧ TXP T2 len (fgR xs L fr n k).1 (rw8 (fgR xs L fr n k)) 0 em 0 0) → (fgI xs L fr - k) < fu → ∀ (g_1 : Nat → va_E) (H : Heap) (locs : List Loc), g_1 it = .inl (cy 1, 64, .inl (fun x9 => nI (T2 x9))) → g_1 iso = .inl (cy 1, 64, .inl (fun x9 => nI (((fgR xs L fr n k).2.1) x9))) → g_1 inu = .inl (cy 1, 64, .inl (fun x9 => nI (((fgR xs L fr n k).2.2) x9))) → (∀ j : Nat, j ≠ it → j ≠ iso → j ≠ inu → g_1 j = g j) → MM D ad N g_1 H → va_S (AA ad N) s.heap H locs → ∀ (ls : Array Slot), lv_has ls 20 [(11, .int (nI (k))), (10, .int (nI (fgI xs L fr))), (9, .int (nI ((fgR xs L fr n k).1))), (8, .int (nI (len))), (0, .ref b), (1, .int (nI (fr))), (2, .int (nI (n))), (3, .ref (ad it)), (4, .ref (ad iso)), (5, .ref (ad inu)), (6, .ref (ad ib)), (7, .int (nI (0)))] → W p l e (rmF 1 21) s m [.ref b, .int (nI (fr)), .int (nI (n)), .ref (ad it), .ref (ad iso), .ref (ad inu), .ref (ad ib), .int (nI (0))].toArray below meth c H locs 0 0 (MQ below (QI (fun r g1 => ∃ (T9 : Nat → Nat), ∃ (l9 : Nat), (r = nI l9) ∧ (l9 ≤ 48) ∧ (∀ j, j < l9 → T9 j < 128) ∧ (TXP T9 l9 (fgR xs L fr n (fgI xs L fr)).1 (rw8 (fgR xs L fr n (fgI xs L fr))) 0 0 0 0) ∧ g1 it = .inl (cy 1, 64, .inl (fun x9 => nI (T9 x9))) ∧ g1 ib = .inl (cy 1, 1, .inl (fun x9 => nI ((va_up BB 0 (fgR xs L fr n (fgI xs L fr)).1) x9))) ∧ (∀ j, j ≠ it → j ≠ ib → j ≠ iso → j ≠ inu → g1 j = g j)) D ad N) [.ref b, .int (nI (fr)), .int (nI (n)), .ref (ad it), .ref (ad iso), .ref (ad inu), .ref (ad ib), .int (nI (0))].toArray s 0 0 (AA ad N)) (F0 m 22 ls []) := by
    intro fu
    induction fu with
    | zero => intro k len T2 hk hln h128 htx hms g_1 H locs hit_1 hiso_1 hinu_1 hfr_1 hP hS ls hl; exact absurd hms (Nat.not_lt_zero _)
    | succ fu ih22 =>
      intro k len T2 hk hln h128 htx hms g_1 H locs hit_1 hiso_1 hinu_1 hfr_1 hP hS ls hl
      have hib_1 : g_1 ib = .inl (cy 1, 1, .inl (fun x9 => nI (BB x9))) := (hfr_1 ib (by omega) (by omega) (by omega)).trans hbb
      have hfi := fgI_b (xs := xs) (L := L) (fr := fr)
      have hm9 := fgR_1 (xs := xs) (L := L) (fr := fr) (n := n) k
      have hin := inn9_b (cev xs L (fr + 1 + k))
      have htm := tms9_b (cev xs L (fr + 1 + k))
      have hit := it_9 (cev xs L (fr + 1 + k))
      refine lv_iload hx hb dL_figure_22 (lv_at hl 0 rfl) ?_
      refine lv_iload hx hb dL_figure_24 (lv_at hl 1 rfl) ?_
      refine lv_icmp_ge (tgt := 391) hx hb dL_figure_26 (by decide) (fun c_26 => ?_) (fun c_26 => ?_)
      · skip
        have c_26 := (nI_leI (by omega) (by omega)).mp c_26
        obtain rfl : k = fgI xs L fr := by omega
        refine lv_aload hx hb dL_figure_391 (lv_at hl 10 rfl) ?_
        refine lv_iconst (v := nI (0)) hx hb dL_figure_393 (by decide) ?_
        refine lv_iload hx hb dL_figure_394 (lv_at hl 2 rfl) ?_
        refine mias S hK hP hI hS (by omega) hib_1 (vp_in_nI (by omega) (by omega)) dL_figure_396 (fun g_2 H locs eg_2 hP hS => ?_)
        have hib_2 : g_2 ib = .inl (cy 1, 1, .inl (fun x9 => nI ((va_up BB 0 ((fgR xs L fr n (fgI xs L fr)).1)) x9))) := by rw [eg_2, va_up_self]; exact (arrN_up (by omega))
        have hit_2 : g_2 it = .inl (cy 1, 64, .inl (fun x9 => nI (T2 x9))) := ((congrFun eg_2 _).trans (va_up_ne _ _ (by omega))).trans hit_1
        have hiso_2 : g_2 iso = .inl (cy 1, 64, .inl (fun x9 => nI (((fgR xs L fr n (fgI xs L fr)).2.1) x9))) := ((congrFun eg_2 _).trans (va_up_ne _ _ (by omega))).trans hiso_1
        have hinu_2 : g_2 inu = .inl (cy 1, 64, .inl (fun x9 => nI (((fgR xs L fr n (fgI xs L fr)).2.2) x9))) := ((congrFun eg_2 _).trans (va_up_ne _ _ (by omega))).trans hinu_1
        have hfr_2 : ∀ j : Nat, j ≠ it → j ≠ iso → j ≠ inu → j ≠ ib → g_2 j = g j := fun j n0 n1 n2 n3 => ((congrFun eg_2 _).trans (va_up_ne _ _ n3)).trans (hfr_1 j n0 n1 n2)
        refine lv_iload hx hb dL_figure_397 (lv_at hl 3 rfl) ?_
        exact rMi S hr hlk hP hS ⟨T2, _, rfl, (by omega), h128, (by obtain ⟨em, he, h⟩ := htx; rw [he (by omega)] at h; exact h), hit_2, hib_2, (fun j n0 n1 n2 n3 => hfr_2 j (by omega) (by omega) (by omega) (by omega))⟩ dL_figure_399
      · skip
        have c_26 := (not_congr (nI_leI (by omega) (by omega))).mp c_26
        refine lv_aload_n hx hb dL_figure_29 rfl (lv_at hl 4 rfl) ?_
        refine lv_iload_n hx hb dL_figure_30 rfl (lv_at hl 5 rfl) ?_
        refine lv_iconst (v := nI (1)) hx hb dL_figure_31 (by decide) ?_
        refine lv_iadd hx hb dL_figure_32 ?_
        refine tpi (nI_add fr 1) ?_
        refine lv_iload hx hb dL_figure_33 (lv_at hl 0 rfl) ?_
        refine lv_iadd hx hb dL_figure_35 ?_
        refine tpi (nI_add (fr + 1) k) ?_
        refine kPi (A := AA ad N) (As := [.ref b, .int (nI ((fr + 1) + k))]) (rest := []) S hK hP hX hbl hbA (fun _ h => h) hS (c_L_cell l D cy ad N g_1 b L xs ((fr + 1) + k) (by omega) hL) cs_L_23 ⟨rfl, rfl⟩ rfl hl.1 rfl (Nat.le_of_ble_eq_true rfl) ⟨Nat.zero_le _, Nat.zero_le _⟩ dL_figure_36 (fun r_36 q_36 => ?_)
        subst q_36
        refine tpi (y := cev xs L (fr + 1 + k)) (rfl) ?_
        refine lv_istore (lv' := [(12, .int (cev xs L (fr + 1 + k))), (11, .int (nI (k))), (10, .int (nI (fgI xs L fr))), (9, .int (nI ((fgR xs L fr n k).1))), (8, .int (nI (len))), (0, .ref b), (1, .int (nI (fr))), (2, .int (nI (n))), (3, .ref (ad it)), (4, .ref (ad iso)), (5, .ref (ad inu)), (6, .ref (ad ib)), (7, .int (nI (0)))]) hx hb dL_figure_39 hl (by decide) rfl (fun ls hl => ?_)
        refine lv_iload hx hb dL_figure_41 (lv_at hl 0 rfl) ?_
        refine lv_iconst (v := nI (4)) hx hb dL_figure_43 (by decide) ?_
        refine kSi (As := [.int (cev xs L (fr + 1 + k)), .int (nI (4))]) (rest := []) S hK hP (c_L_part l D cy ad N g_1 (cev xs L (fr + 1 + k)) 4 ⟨by omega, by omega⟩) cs_L_29 ⟨rfl, rfl⟩ rfl hl.1 rfl (Nat.le_of_ble_eq_true rfl) ⟨Nat.zero_le _, Nat.zero_le _⟩ dL_figure_44 (fun r_44 q_44 => ?_)
        subst q_44
        have hp44 := ptv_lt (cev xs L (fr + 1 + k)) (n := 4) (by decide)
        have J64 : ∀ (ls : Array Slot), lv_has ls 20 [(12, .int (cev xs L (fr + 1 + k))), (11, .int (nI (k))), (10, .int (nI (fgI xs L fr))), (9, .int (nI ((fgR xs L fr n k).1))), (8, .int (nI (len))), (0, .ref b), (1, .int (nI (fr))), (2, .int (nI (n))), (3, .ref (ad it)), (4, .ref (ad iso)), (5, .ref (ad inu)), (6, .ref (ad ib)), (7, .int (nI (0)))] → W p l e (rmF 1 21) s m [.ref b, .int (nI (fr)), .int (nI (n)), .ref (ad it), .ref (ad iso), .ref (ad inu), .ref (ad ib), .int (nI (0))].toArray below meth c H locs 0 0 (MQ below (QI (fun r g1 => ∃ (T9 : Nat → Nat), ∃ (l9 : Nat), (r = nI l9) ∧ (l9 ≤ 48) ∧ (∀ j, j < l9 → T9 j < 128) ∧ (TXP T9 l9 (fgR xs L fr n (fgI xs L fr)).1 (rw8 (fgR xs L fr n (fgI xs L fr))) 0 0 0 0) ∧ g1 it = .inl (cy 1, 64, .inl (fun x9 => nI (T9 x9))) ∧ g1 ib = .inl (cy 1, 1, .inl (fun x9 => nI ((va_up BB 0 (fgR xs L fr n (fgI xs L fr)).1) x9))) ∧ (∀ j, j ≠ it → j ≠ ib → j ≠ iso → j ≠ inu → g1 j = g j)) D ad N) [.ref b, .int (nI (fr)), .int (nI (n)), .ref (ad it), .ref (ad iso), .ref (ad inu), .ref (ad ib), .int (nI (0))].toArray s 0 0 (AA ad N)) (F0 m 64 ls [.int (nI (inn9 (cev xs L (fr + 1 + k))))]) := by
          intro ls hl
          refine lv_istore (lv' := [(13, .int (nI (inn9 (cev xs L (fr + 1 + k))))), (12, .int (cev xs L (fr + 1 + k))), (11, .int (nI (k))), (10, .int (nI (fgI xs L fr))), (9, .int (nI ((fgR xs L fr n k).1))), (8, .int (nI (len))), (0, .ref b), (1, .int (nI (fr))), (2, .int (nI (n))), (3, .ref (ad it)), (4, .ref (ad iso)), (5, .ref (ad inu)), (6, .ref (ad ib)), (7, .int (nI (0)))]) hx hb dL_figure_64 hl (by decide) rfl (fun ls hl => ?_)
          refine lv_iload hx hb dL_figure_66 (lv_at hl 0 rfl) ?_
          refine lv_iconst (v := nI (1)) hx hb dL_figure_68 (by decide) ?_
          have J95 : ∀ (ls : Array Slot), lv_has ls 20 [(13, .int (nI (inn9 (cev xs L (fr + 1 + k))))), (12, .int (cev xs L (fr + 1 + k))), (11, .int (nI (k))), (10, .int (nI (fgI xs L fr))), (9, .int (nI ((fgR xs L fr n k).1))), (8, .int (nI (len))), (0, .ref b), (1, .int (nI (fr))), (2, .int (nI (n))), (3, .ref (ad it)), (4, .ref (ad iso)), (5, .ref (ad inu)), (6, .ref (ad ib)), (7, .int (nI (0)))] → W p l e (rmF 1 21) s m [.ref b, .int (nI (fr)), .int (nI (n)), .ref (ad it), .ref (ad iso), .ref (ad inu), .ref (ad ib), .int (nI (0))].toArray below meth c H locs 0 0 (MQ below (QI (fun r g1 => ∃ (T9 : Nat → Nat), ∃ (l9 : Nat), (r = nI l9) ∧ (l9 ≤ 48) ∧ (∀ j, j < l9 → T9 j < 128) ∧ (TXP T9 l9 (fgR xs L fr n (fgI xs L fr)).1 (rw8 (fgR xs L fr n (fgI xs L fr))) 0 0 0 0) ∧ g1 it = .inl (cy 1, 64, .inl (fun x9 => nI (T9 x9))) ∧ g1 ib = .inl (cy 1, 1, .inl (fun x9 => nI ((va_up BB 0 (fgR xs L fr n (fgI xs L fr)).1) x9))) ∧ (∀ j, j ≠ it → j ≠ ib → j ≠ iso → j ≠ inu → g1 j = g j)) D ad N) [.ref b, .int (nI (fr)), .int (nI (n)), .ref (ad it), .ref (ad iso), .ref (ad inu), .ref (ad ib), .int (nI (0))].toArray s 0 0 (AA ad N)) (F0 m 95 ls [.int (nI (tms9 (cev xs L (fr + 1 + k))))]) := by
            intro ls hl
            refine lv_istore (lv' := [(14, .int (nI (tms9 (cev xs L (fr + 1 + k))))), (13, .int (nI (inn9 (cev xs L (fr + 1 + k))))), (12, .int (cev xs L (fr + 1 + k))), (11, .int (nI (k))), (10, .int (nI (fgI xs L fr))), (9, .int (nI ((fgR xs L fr n k).1))), (8, .int (nI (len))), (0, .ref b), (1, .int (nI (fr))), (2, .int (nI (n))), (3, .ref (ad it)), (4, .ref (ad iso)), (5, .ref (ad inu)), (6, .ref (ad ib)), (7, .int (nI (0)))]) hx hb dL_figure_95 hl (by decide) rfl (fun ls hl => ?_)
            refine lv_iload hx hb dL_figure_97 (lv_at hl 0 rfl) ?_
            refine lv_if_le (tgt := 123) hx hb dL_figure_99 (by decide) (fun c_99 => ?_) (fun c_99 => ?_)
            · skip
              have c_99 := (z_le (by omega)).mp c_99
              refine lv_iload hx hb dL_figure_123 (lv_at hl 5 rfl) ?_
              refine lv_istore (lv' := [(15, .int (nI ((fgR xs L fr n k).1))), (14, .int (nI (tms9 (cev xs L (fr + 1 + k))))), (13, .int (nI (inn9 (cev xs L (fr + 1 + k))))), (12, .int (cev xs L (fr + 1 + k))), (11, .int (nI (k))), (10, .int (nI (fgI xs L fr))), (9, .int (nI ((fgR xs L fr n k).1))), (8, .int (nI (len))), (0, .ref b), (1, .int (nI (fr))), (2, .int (nI (n))), (3, .ref (ad it)), (4, .ref (ad iso)), (5, .ref (ad inu)), (6, .ref (ad ib)), (7, .int (nI (0)))]) hx hb dL_figure_125 hl (by decide) rfl (fun ls hl => ?_)
              refine lv_iconst (v := nI (0)) hx hb dL_figure_127 (by decide) ?_
              refine lv_istore (lv' := [(16, .int (nI (0))), (15, .int (nI ((fgR xs L fr n k).1))), (14, .int (nI (tms9 (cev xs L (fr + 1 + k))))), (13, .int (nI (inn9 (cev xs L (fr + 1 + k))))), (12, .int (cev xs L (fr + 1 + k))), (11, .int (nI (k))), (10, .int (nI (fgI xs L fr))), (9, .int (nI ((fgR xs L fr n k).1))), (8, .int (nI (len))), (0, .ref b), (1, .int (nI (fr))), (2, .int (nI (n))), (3, .ref (ad it)), (4, .ref (ad iso)), (5, .ref (ad inu)), (6, .ref (ad ib)), (7, .int (nI (0)))]) hx hb dL_figure_128 hl (by decide) rfl (fun ls hl => ?_)
              have L130 : ∀ (fu : Nat) (i len2 : Nat) (T3 : Nat → Nat), (i ≤ inn9 (cev xs L (fr + 1 + k))) → (len2 ≤ 12 * k + 2 + 3 * i) → (∀ j, j < len2 → T3 j < 128) → (∃ em, (0 < i → em = 0) ∧ TXP T3 len2 (inR (fun x9 => cev xs L (fr + 6 + 3 * k + x9)) n (fgR xs L fr n k) i).1 (rw8 (inR (fun x9 => cev xs L (fr + 6 + 3 * k + x9)) n (fgR xs L fr n k) i)) (if tms9 (cev xs L (fr + 1 + k)) = 0 then 0 else 1) em (fgR xs L fr n k).1 (tms9 (cev xs L (fr + 1 + k)))) → (inn9 (cev xs L (fr + 1 + k)) - i) < fu → ∀ (g_3 : Nat → va_E) (H : Heap) (locs : List Loc), g_3 it = .inl (cy 1, 64, .inl (fun x9 => nI (T3 x9))) → g_3 iso = .inl (cy 1, 64, .inl (fun x9 => nI (((inR (fun x9 => cev xs L (fr + 6 + 3 * k + x9)) n (fgR xs L fr n k) i).2.1) x9))) → g_3 inu = .inl (cy 1, 64, .inl (fun x9 => nI (((inR (fun x9 => cev xs L (fr + 6 + 3 * k + x9)) n (fgR xs L fr n k) i).2.2) x9))) → (∀ j : Nat, j ≠ it → j ≠ iso → j ≠ inu → g_3 j = g j) → MM D ad N g_3 H → va_S (AA ad N) s.heap H locs → ∀ (ls : Array Slot), lv_has ls 20 [(16, .int (nI (i))), (15, .int (nI ((fgR xs L fr n k).1))), (14, .int (nI (tms9 (cev xs L (fr + 1 + k))))), (13, .int (nI (inn9 (cev xs L (fr + 1 + k))))), (12, .int (cev xs L (fr + 1 + k))), (11, .int (nI (k))), (10, .int (nI (fgI xs L fr))), (9, .int (nI ((inR (fun x9 => cev xs L (fr + 6 + 3 * k + x9)) n (fgR xs L fr n k) i).1))), (8, .int (nI (len2))), (0, .ref b), (1, .int (nI (fr))), (2, .int (nI (n))), (3, .ref (ad it)), (4, .ref (ad iso)), (5, .ref (ad inu)), (6, .ref (ad ib)), (7, .int (nI (0)))] → W p l e (rmF 1 21) s m [.ref b, .int (nI (fr)), .int (nI (n)), .ref (ad it), .ref (ad iso), .ref (ad inu), .ref (ad ib), .int (nI (0))].toArray below meth c H locs 0 0 (MQ below (QI (fun r g1 => ∃ (T9 : Nat → Nat), ∃ (l9 : Nat), (r = nI l9) ∧ (l9 ≤ 48) ∧ (∀ j, j < l9 → T9 j < 128) ∧ (TXP T9 l9 (fgR xs L fr n (fgI xs L fr)).1 (rw8 (fgR xs L fr n (fgI xs L fr))) 0 0 0 0) ∧ g1 it = .inl (cy 1, 64, .inl (fun x9 => nI (T9 x9))) ∧ g1 ib = .inl (cy 1, 1, .inl (fun x9 => nI ((va_up BB 0 (fgR xs L fr n (fgI xs L fr)).1) x9))) ∧ (∀ j, j ≠ it → j ≠ ib → j ≠ iso → j ≠ inu → g1 j = g j)) D ad N) [.ref b, .int (nI (fr)), .int (nI (n)), .ref (ad it), .ref (ad iso), .ref (ad inu), .ref (ad ib), .int (nI (0))].toArray s 0 0 (AA ad N)) (F0 m 130 ls []) := by
                intro fu
                induction fu with
                | zero => intro i len2 T3 hi hln2 h1282 htx2 hms g_3 H locs hit_3 hiso_3 hinu_3 hfr_3 hP hS ls hl; exact absurd hms (Nat.not_lt_zero _)
                | succ fu ih130 =>
                  intro i len2 T3 hi hln2 h1282 htx2 hms g_3 H locs hit_3 hiso_3 hinu_3 hfr_3 hP hS ls hl
                  have hib_3 : g_3 ib = .inl (cy 1, 1, .inl (fun x9 => nI (BB x9))) := (hfr_3 ib (by omega) (by omega) (by omega)).trans hbb
                  have hir := inR_1 (Y := (fun x9 => cev xs L (fr + 6 + 3 * k + x9))) (n := n) (E := (fgR xs L fr n k)) i
                  refine lv_iload hx hb dL_figure_130 (lv_at hl 0 rfl) ?_
                  refine lv_iload hx hb dL_figure_132 (lv_at hl 3 rfl) ?_
                  refine lv_icmp_ge (tgt := 308) hx hb dL_figure_134 (by decide) (fun c_134 => ?_) (fun c_134 => ?_)
                  · skip
                    have c_134 := (nI_leI (by omega) (by omega)).mp c_134
                    obtain rfl : i = inn9 (cev xs L (fr + 1 + k)) := by omega
                    refine lv_iload hx hb dL_figure_308 (lv_at hl 2 rfl) ?_
                    refine lv_if_le (tgt := 322) hx hb dL_figure_310 (by decide) (fun c_310 => ?_) (fun c_310 => ?_)
                    · skip
                      have c_310 := (z_le (by omega)).mp c_310
                      refine lv_iload hx hb dL_figure_322 (lv_at hl 7 rfl) ?_
                      refine lv_iload hx hb dL_figure_324 (lv_at hl 1 rfl) ?_
                      refine lv_isub hx hb dL_figure_326 ?_
                      refine tpi (pk_sub (a := (inR (fun x9 => cev xs L (fr + 6 + 3 * k + x9)) n (fgR xs L fr n k) (inn9 (cev xs L (fr + 1 + k)))).1) (b := (fgR xs L fr n k).1) (by omega)) ?_
                      refine tpi (y := nI (inn9 (cev xs L (fr + 1 + k)))) (congrArg nI (a₂ := inn9 (cev xs L (fr + 1 + k))) (by omega)) ?_
                      refine lv_istore (lv' := [(16, .int (nI (inn9 (cev xs L (fr + 1 + k))))), (15, .int (nI ((fgR xs L fr n k).1))), (14, .int (nI (tms9 (cev xs L (fr + 1 + k))))), (13, .int (nI (inn9 (cev xs L (fr + 1 + k))))), (12, .int (cev xs L (fr + 1 + k))), (11, .int (nI (k))), (10, .int (nI (fgI xs L fr))), (9, .int (nI ((inR (fun x9 => cev xs L (fr + 6 + 3 * k + x9)) n (fgR xs L fr n k) (inn9 (cev xs L (fr + 1 + k)))).1))), (8, .int (nI (len2))), (0, .ref b), (1, .int (nI (fr))), (2, .int (nI (n))), (3, .ref (ad it)), (4, .ref (ad iso)), (5, .ref (ad inu)), (6, .ref (ad ib)), (7, .int (nI (0)))]) hx hb dL_figure_327 hl (by decide) rfl (fun ls hl => ?_)
                      refine lv_iconst (v := nI (0)) hx hb dL_figure_329 (by decide) ?_
                      refine lv_istore (lv' := [(17, .int (nI (0))), (16, .int (nI (inn9 (cev xs L (fr + 1 + k))))), (15, .int (nI ((fgR xs L fr n k).1))), (14, .int (nI (tms9 (cev xs L (fr + 1 + k))))), (13, .int (nI (inn9 (cev xs L (fr + 1 + k))))), (12, .int (cev xs L (fr + 1 + k))), (11, .int (nI (k))), (10, .int (nI (fgI xs L fr))), (9, .int (nI ((inR (fun x9 => cev xs L (fr + 6 + 3 * k + x9)) n (fgR xs L fr n k) (inn9 (cev xs L (fr + 1 + k)))).1))), (8, .int (nI (len2))), (0, .ref b), (1, .int (nI (fr))), (2, .int (nI (n))), (3, .ref (ad it)), (4, .ref (ad iso)), (5, .ref (ad inu)), (6, .ref (ad ib)), (7, .int (nI (0)))]) hx hb dL_figure_330 hl (by decide) rfl (fun ls hl => ?_)
                      have L332 : ∀ (fu : Nat) (q len3 : Nat) (T4 : Nat → Nat), (q ≤ inn9 (cev xs L (fr + 1 + k)) * (tms9 (cev xs L (fr + 1 + k)) - 1)) → (len3 ≤ 12 * k + 12) → (∀ j, j < len3 → T4 j < 128) → (TXP T4 len3 (fgR xs L fr n (k + 1)).1 (rw8 (fgR xs L fr n (k + 1))) 0 0 0 0) → (inn9 (cev xs L (fr + 1 + k)) * (tms9 (cev xs L (fr + 1 + k)) - 1) - q) < fu → ∀ (g_4 : Nat → va_E) (H : Heap) (locs : List Loc), g_4 it = .inl (cy 1, 64, .inl (fun x9 => nI (T4 x9))) → g_4 iso = .inl (cy 1, 64, .inl (fun x9 => nI (((rpR (fgR xs L fr n k).1 (inn9 (cev xs L (fr + 1 + k))) (inR (fun x9 => cev xs L (fr + 6 + 3 * k + x9)) n (fgR xs L fr n k) (inn9 (cev xs L (fr + 1 + k)))) q).2.1) x9))) → g_4 inu = .inl (cy 1, 64, .inl (fun x9 => nI (((rpR (fgR xs L fr n k).1 (inn9 (cev xs L (fr + 1 + k))) (inR (fun x9 => cev xs L (fr + 6 + 3 * k + x9)) n (fgR xs L fr n k) (inn9 (cev xs L (fr + 1 + k)))) q).2.2) x9))) → (∀ j : Nat, j ≠ it → j ≠ iso → j ≠ inu → g_4 j = g j) → MM D ad N g_4 H → va_S (AA ad N) s.heap H locs → ∀ (ls : Array Slot), lv_has ls 20 [(17, .int (nI (q))), (16, .int (nI (inn9 (cev xs L (fr + 1 + k))))), (15, .int (nI ((fgR xs L fr n k).1))), (14, .int (nI (tms9 (cev xs L (fr + 1 + k))))), (13, .int (nI (inn9 (cev xs L (fr + 1 + k))))), (12, .int (cev xs L (fr + 1 + k))), (11, .int (nI (k))), (10, .int (nI (fgI xs L fr))), (9, .int (nI ((rpR (fgR xs L fr n k).1 (inn9 (cev xs L (fr + 1 + k))) (inR (fun x9 => cev xs L (fr + 6 + 3 * k + x9)) n (fgR xs L fr n k) (inn9 (cev xs L (fr + 1 + k)))) q).1))), (8, .int (nI (len3))), (0, .ref b), (1, .int (nI (fr))), (2, .int (nI (n))), (3, .ref (ad it)), (4, .ref (ad iso)), (5, .ref (ad inu)), (6, .ref (ad ib)), (7, .int (nI (0)))] → W p l e (rmF 1 21) s m [.ref b, .int (nI (fr)), .int (nI (n)), .ref (ad it), .ref (ad iso), .ref (ad inu), .ref (ad ib), .int (nI (0))].toArray below meth c H locs 0 0 (MQ below (QI (fun r g1 => ∃ (T9 : Nat → Nat), ∃ (l9 : Nat), (r = nI l9) ∧ (l9 ≤ 48) ∧ (∀ j, j < l9 → T9 j < 128) ∧ (TXP T9 l9 (fgR xs L fr n (fgI xs L fr)).1 (rw8 (fgR xs L fr n (fgI xs L fr))) 0 0 0 0) ∧ g1 it = .inl (cy 1, 64, .inl (fun x9 => nI (T9 x9))) ∧ g1 ib = .inl (cy 1, 1, .inl (fun x9 => nI ((va_up BB 0 (fgR xs L fr n (fgI xs L fr)).1) x9))) ∧ (∀ j, j ≠ it → j ≠ ib → j ≠ iso → j ≠ inu → g1 j = g j)) D ad N) [.ref b, .int (nI (fr)), .int (nI (n)), .ref (ad it), .ref (ad iso), .ref (ad inu), .ref (ad ib), .int (nI (0))].toArray s 0 0 (AA ad N)) (F0 m 332 ls []) := by
                        intro fu
                        induction fu with
                        | zero => intro q len3 T4 hq hln3 h1283 htx3 hms g_4 H locs hit_4 hiso_4 hinu_4 hfr_4 hP hS ls hl; exact absurd hms (Nat.not_lt_zero _)
                        | succ fu ih332 =>
                          intro q len3 T4 hq hln3 h1283 htx3 hms g_4 H locs hit_4 hiso_4 hinu_4 hfr_4 hP hS ls hl
                          have hib_4 : g_4 ib = .inl (cy 1, 1, .inl (fun x9 => nI (BB x9))) := (hfr_4 ib (by omega) (by omega) (by omega)).trans hbb
                          have hrp := rpR_1 (f := (fgR xs L fr n k).1) (sz := inn9 (cev xs L (fr + 1 + k))) (E := (inR (fun x9 => cev xs L (fr + 6 + 3 * k + x9)) n (fgR xs L fr n k) (inn9 (cev xs L (fr + 1 + k))))) q
                          refine lv_iload hx hb dL_figure_332 (lv_at hl 0 rfl) ?_
                          refine lv_iload hx hb dL_figure_334 (lv_at hl 1 rfl) ?_
                          refine lv_iload hx hb dL_figure_336 (lv_at hl 3 rfl) ?_
                          refine lv_iconst (v := nI (1)) hx hb dL_figure_338 (by decide) ?_
                          refine lv_isub hx hb dL_figure_339 ?_
                          refine lv_imul hx hb dL_figure_340 ?_
                          refine lv_icmp_ge (tgt := 385) hx hb dL_figure_341 (by decide) (fun c_341 => ?_) (fun c_341 => ?_)
                          · skip
                            have hz : inn9 (cev xs L (fr + 1 + k)) * (tms9 (cev xs L (fr + 1 + k)) - 1) = 0 := by rw [c_99]; rfl
                            obtain rfl : q = inn9 (cev xs L (fr + 1 + k)) * (tms9 (cev xs L (fr + 1 + k)) - 1) := by omega
                            refine lv_iinc (v := nI (k + 1)) (lv' := [(11, .int (nI (k + 1))), (17, .int (nI ((inn9 (cev xs L (fr + 1 + k)) * (tms9 (cev xs L (fr + 1 + k)) - 1))))), (16, .int (nI (inn9 (cev xs L (fr + 1 + k))))), (15, .int (nI ((fgR xs L fr n k).1))), (14, .int (nI (tms9 (cev xs L (fr + 1 + k))))), (13, .int (nI (inn9 (cev xs L (fr + 1 + k))))), (12, .int (cev xs L (fr + 1 + k))), (10, .int (nI (fgI xs L fr))), (9, .int (nI ((rpR (fgR xs L fr n k).1 (inn9 (cev xs L (fr + 1 + k))) (inR (fun x9 => cev xs L (fr + 6 + 3 * k + x9)) n (fgR xs L fr n k) (inn9 (cev xs L (fr + 1 + k)))) (inn9 (cev xs L (fr + 1 + k)) * (tms9 (cev xs L (fr + 1 + k)) - 1))).1))), (8, .int (nI (len3))), (0, .ref b), (1, .int (nI (fr))), (2, .int (nI (n))), (3, .ref (ad it)), (4, .ref (ad iso)), (5, .ref (ad inu)), (6, .ref (ad ib)), (7, .int (nI (0)))]) hx hb dL_figure_385 hl (k := 6) rfl (by exact nI_add k 1) (by decide) rfl (fun ls hl => ?_)
                            refine lv_goto (tgt := 22) hx hb dL_figure_388 (by decide) ?_
                            exact ih22 (k + 1) len3 T4 (by omega) (by omega) h1283 ⟨0, fun _ => rfl, htx3⟩ (by omega) g_4 _ _ hit_4 hiso_4 hinu_4 hfr_4 hP hS _ (lv_sub hl [0, 7, 8, 9, 10, 11, 12, 13, 14, 15, 16, 17] rfl)
                          · skip
                            have hqm := Nat.mod_lt q (show 0 < inn9 (cev xs L (fr + 1 + k)) by omega)
                            exact (neg_in c_99 hin (by omega) c_341).elim
                      exact L332 ((inn9 (cev xs L (fr + 1 + k)) * (tms9 (cev xs L (fr + 1 + k)) - 1) - 0) + 1) 0 len2 T3 (by omega) (by omega) (by first | exact h1282 | exact up128 h1282 (by decide)) (by obtain ⟨em, he, h⟩ := htx2; have he := he (by omega); subst he; first | (rw [if_pos c_99] at h; exact tx_none h c_99) | (rw [if_neg c_99] at h; exact tx_close h (by omega) (by omega))) (Nat.lt_succ_self _) g_3 _ _ hit_3 hiso_3 hinu_3 hfr_3 hP hS _ (lv_sub hl [0, 1, 2, 3, 4, 5, 6, 7, 8, 9, 10, 11, 12, 13, 14, 15, 16, 17] rfl)
                    · skip
                      have c_310 := (not_congr (z_le (by omega))).mp c_310
                      exact absurd c_99 c_310
                  · skip
                    have c_134 := (not_congr (nI_leI (by omega) (by omega))).mp c_134
                    refine lv_aload_n hx hb dL_figure_137 rfl (lv_at hl 9 rfl) ?_
                    refine lv_iload_n hx hb dL_figure_138 rfl (lv_at hl 10 rfl) ?_
                    refine lv_bipush (v := nI (6)) hx hb dL_figure_139 (by decide) ?_
                    refine lv_iadd hx hb dL_figure_141 ?_
                    refine tpi (nI_add fr 6) ?_
                    refine lv_iconst (v := nI (3)) hx hb dL_figure_142 (by decide) ?_
                    refine lv_iload hx hb dL_figure_143 (lv_at hl 5 rfl) ?_
                    refine lv_imul hx hb dL_figure_145 ?_
                    refine tpi (pk_mul 3 k) ?_
                    refine lv_iadd hx hb dL_figure_146 ?_
                    refine tpi (nI_add (fr + 6) (3 * k)) ?_
                    refine lv_iload hx hb dL_figure_147 (lv_at hl 0 rfl) ?_
                    refine lv_iadd hx hb dL_figure_149 ?_
                    refine tpi (nI_add ((fr + 6) + (3 * k)) i) ?_
                    refine kPi (A := AA ad N) (As := [.ref b, .int (nI (((fr + 6) + (3 * k)) + i))]) (rest := []) S hK hP hX hbl hbA (fun _ h => h) hS (c_L_cell l D cy ad N g_3 b L xs (((fr + 6) + (3 * k)) + i) (by omega) hL) cs_L_23 ⟨rfl, rfl⟩ rfl hl.1 rfl (Nat.le_of_ble_eq_true rfl) ⟨Nat.zero_le _, Nat.zero_le _⟩ dL_figure_150 (fun r_150 q_150 => ?_)
                    subst q_150
                    refine tpi (y := cev xs L (fr + 6 + 3 * k + i)) (rfl) ?_
                    refine lv_istore (lv' := [(17, .int (cev xs L (fr + 6 + 3 * k + i))), (16, .int (nI (i))), (15, .int (nI ((fgR xs L fr n k).1))), (14, .int (nI (tms9 (cev xs L (fr + 1 + k))))), (13, .int (nI (inn9 (cev xs L (fr + 1 + k))))), (12, .int (cev xs L (fr + 1 + k))), (11, .int (nI (k))), (10, .int (nI (fgI xs L fr))), (9, .int (nI ((inR (fun x9 => cev xs L (fr + 6 + 3 * k + x9)) n (fgR xs L fr n k) i).1))), (8, .int (nI (len2))), (0, .ref b), (1, .int (nI (fr))), (2, .int (nI (n))), (3, .ref (ad it)), (4, .ref (ad iso)), (5, .ref (ad inu)), (6, .ref (ad ib)), (7, .int (nI (0)))]) hx hb dL_figure_153 hl (by decide) rfl (fun ls hl => ?_)
                    refine lv_iload hx hb dL_figure_155 (lv_at hl 0 rfl) ?_
                    refine lv_bipush (v := nI (8)) hx hb dL_figure_157 (by decide) ?_
                    refine kSi (As := [.int (cev xs L (fr + 6 + 3 * k + i)), .int (nI (8))]) (rest := []) S hK hP (c_L_part l D cy ad N g_3 (cev xs L (fr + 6 + 3 * k + i)) 8 ⟨by omega, by omega⟩) cs_L_29 ⟨rfl, rfl⟩ rfl hl.1 rfl (Nat.le_of_ble_eq_true rfl) ⟨Nat.zero_le _, Nat.zero_le _⟩ dL_figure_159 (fun r_159 q_159 => ?_)
                    subst q_159
                    have hp159 := ptv_lt (cev xs L (fr + 6 + 3 * k + i)) (n := 8) (by decide)
                    have J209 : ∀ (ls : Array Slot), lv_has ls 20 [(17, .int (cev xs L (fr + 6 + 3 * k + i))), (16, .int (nI (i))), (15, .int (nI ((fgR xs L fr n k).1))), (14, .int (nI (tms9 (cev xs L (fr + 1 + k))))), (13, .int (nI (inn9 (cev xs L (fr + 1 + k))))), (12, .int (cev xs L (fr + 1 + k))), (11, .int (nI (k))), (10, .int (nI (fgI xs L fr))), (9, .int (nI ((inR (fun x9 => cev xs L (fr + 6 + 3 * k + x9)) n (fgR xs L fr n k) i).1))), (8, .int (nI (len2))), (0, .ref b), (1, .int (nI (fr))), (2, .int (nI (n))), (3, .ref (ad it)), (4, .ref (ad iso)), (5, .ref (ad inu)), (6, .ref (ad ib)), (7, .int (nI (0)))] → W p l e (rmF 1 21) s m [.ref b, .int (nI (fr)), .int (nI (n)), .ref (ad it), .ref (ad iso), .ref (ad inu), .ref (ad ib), .int (nI (0))].toArray below meth c H locs 0 0 (MQ below (QI (fun r g1 => ∃ (T9 : Nat → Nat), ∃ (l9 : Nat), (r = nI l9) ∧ (l9 ≤ 48) ∧ (∀ j, j < l9 → T9 j < 128) ∧ (TXP T9 l9 (fgR xs L fr n (fgI xs L fr)).1 (rw8 (fgR xs L fr n (fgI xs L fr))) 0 0 0 0) ∧ g1 it = .inl (cy 1, 64, .inl (fun x9 => nI (T9 x9))) ∧ g1 ib = .inl (cy 1, 1, .inl (fun x9 => nI ((va_up BB 0 (fgR xs L fr n (fgI xs L fr)).1) x9))) ∧ (∀ j, j ≠ it → j ≠ ib → j ≠ iso → j ≠ inu → g1 j = g j)) D ad N) [.ref b, .int (nI (fr)), .int (nI (n)), .ref (ad it), .ref (ad iso), .ref (ad inu), .ref (ad ib), .int (nI (0))].toArray s 0 0 (AA ad N)) (F0 m 209 ls [.int (nI (srt (cev xs L (fr + 6 + 3 * k + i))))]) := by
                      intro ls hl
                      have hsr := srt_ok (cev xs L (fr + 6 + 3 * k + i))
                      refine lv_istore (lv' := [(18, .int (nI (srt (cev xs L (fr + 6 + 3 * k + i))))), (17, .int (cev xs L (fr + 6 + 3 * k + i))), (16, .int (nI (i))), (15, .int (nI ((fgR xs L fr n k).1))), (14, .int (nI (tms9 (cev xs L (fr + 1 + k))))), (13, .int (nI (inn9 (cev xs L (fr + 1 + k))))), (12, .int (cev xs L (fr + 1 + k))), (11, .int (nI (k))), (10, .int (nI (fgI xs L fr))), (9, .int (nI ((inR (fun x9 => cev xs L (fr + 6 + 3 * k + x9)) n (fgR xs L fr n k) i).1))), (8, .int (nI (len2))), (0, .ref b), (1, .int (nI (fr))), (2, .int (nI (n))), (3, .ref (ad it)), (4, .ref (ad iso)), (5, .ref (ad inu)), (6, .ref (ad ib)), (7, .int (nI (0)))]) hx hb dL_figure_209 hl (by decide) rfl (fun ls hl => ?_)
                      refine lv_iload hx hb dL_figure_211 (lv_at hl 0 rfl) ?_
                      refine lv_bipush (v := nI (6)) hx hb dL_figure_213 (by decide) ?_
                      have J231 : ∀ (ls : Array Slot), lv_has ls 20 [(18, .int (nI (srt (cev xs L (fr + 6 + 3 * k + i))))), (17, .int (cev xs L (fr + 6 + 3 * k + i))), (16, .int (nI (i))), (15, .int (nI ((fgR xs L fr n k).1))), (14, .int (nI (tms9 (cev xs L (fr + 1 + k))))), (13, .int (nI (inn9 (cev xs L (fr + 1 + k))))), (12, .int (cev xs L (fr + 1 + k))), (11, .int (nI (k))), (10, .int (nI (fgI xs L fr))), (9, .int (nI ((inR (fun x9 => cev xs L (fr + 6 + 3 * k + x9)) n (fgR xs L fr n k) i).1))), (8, .int (nI (len2))), (0, .ref b), (1, .int (nI (fr))), (2, .int (nI (n))), (3, .ref (ad it)), (4, .ref (ad iso)), (5, .ref (ad inu)), (6, .ref (ad ib)), (7, .int (nI (0)))] → W p l e (rmF 1 21) s m [.ref b, .int (nI (fr)), .int (nI (n)), .ref (ad it), .ref (ad iso), .ref (ad inu), .ref (ad ib), .int (nI (0))].toArray below meth c H locs 0 0 (MQ below (QI (fun r g1 => ∃ (T9 : Nat → Nat), ∃ (l9 : Nat), (r = nI l9) ∧ (l9 ≤ 48) ∧ (∀ j, j < l9 → T9 j < 128) ∧ (TXP T9 l9 (fgR xs L fr n (fgI xs L fr)).1 (rw8 (fgR xs L fr n (fgI xs L fr))) 0 0 0 0) ∧ g1 it = .inl (cy 1, 64, .inl (fun x9 => nI (T9 x9))) ∧ g1 ib = .inl (cy 1, 1, .inl (fun x9 => nI ((va_up BB 0 (fgR xs L fr n (fgI xs L fr)).1) x9))) ∧ (∀ j, j ≠ it → j ≠ ib → j ≠ iso → j ≠ inu → g1 j = g j)) D ad N) [.ref b, .int (nI (fr)), .int (nI (n)), .ref (ad it), .ref (ad iso), .ref (ad inu), .ref (ad ib), .int (nI (0))].toArray s 0 0 (AA ad N)) (F0 m 231 ls [.int (nI (nub (cev xs L (fr + 6 + 3 * k + i)) n (srt (cev xs L (fr + 6 + 3 * k + i)))))]) := by
                        intro ls hl
                        refine lv_istore (lv' := [(19, .int (nI (nub (cev xs L (fr + 6 + 3 * k + i)) n (srt (cev xs L (fr + 6 + 3 * k + i)))))), (18, .int (nI (srt (cev xs L (fr + 6 + 3 * k + i))))), (17, .int (cev xs L (fr + 6 + 3 * k + i))), (16, .int (nI (i))), (15, .int (nI ((fgR xs L fr n k).1))), (14, .int (nI (tms9 (cev xs L (fr + 1 + k))))), (13, .int (nI (inn9 (cev xs L (fr + 1 + k))))), (12, .int (cev xs L (fr + 1 + k))), (11, .int (nI (k))), (10, .int (nI (fgI xs L fr))), (9, .int (nI ((inR (fun x9 => cev xs L (fr + 6 + 3 * k + x9)) n (fgR xs L fr n k) i).1))), (8, .int (nI (len2))), (0, .ref b), (1, .int (nI (fr))), (2, .int (nI (n))), (3, .ref (ad it)), (4, .ref (ad iso)), (5, .ref (ad inu)), (6, .ref (ad ib)), (7, .int (nI (0)))]) hx hb dL_figure_231 hl (by decide) rfl (fun ls hl => ?_)
                        refine lv_iload hx hb dL_figure_233 (lv_at hl 1 rfl) ?_
                        refine lv_bipush (v := nI (6)) hx hb dL_figure_235 (by decide) ?_
                        refine lv_icmp_ne (tgt := 252) hx hb dL_figure_237 (by decide) (fun c_237 => ?_) (fun c_237 => ?_)
                        · skip
                          have c_237 := (not_congr (nI_eq (by omega) (by omega))).mp c_237
                          refine lv_aload_n hx hb dL_figure_252 rfl (lv_at hl 15 rfl) ?_
                          refine lv_iload hx hb dL_figure_253 (lv_at hl 11 rfl) ?_
                          refine lv_iinc (v := nI (len2 + 1)) (lv' := [(8, .int (nI (len2 + 1))), (19, .int (nI (nub (cev xs L (fr + 6 + 3 * k + i)) n (srt (cev xs L (fr + 6 + 3 * k + i)))))), (18, .int (nI (srt (cev xs L (fr + 6 + 3 * k + i))))), (17, .int (cev xs L (fr + 6 + 3 * k + i))), (16, .int (nI (i))), (15, .int (nI ((fgR xs L fr n k).1))), (14, .int (nI (tms9 (cev xs L (fr + 1 + k))))), (13, .int (nI (inn9 (cev xs L (fr + 1 + k))))), (12, .int (cev xs L (fr + 1 + k))), (11, .int (nI (k))), (10, .int (nI (fgI xs L fr))), (9, .int (nI ((inR (fun x9 => cev xs L (fr + 6 + 3 * k + x9)) n (fgR xs L fr n k) i).1))), (0, .ref b), (1, .int (nI (fr))), (2, .int (nI (n))), (3, .ref (ad it)), (4, .ref (ad iso)), (5, .ref (ad inu)), (6, .ref (ad ib)), (7, .int (nI (0)))]) hx hb dL_figure_255 hl (k := 11) rfl (by exact nI_add len2 1) (by decide) rfl (fun ls hl => ?_)
                          refine lv_iload hx hb dL_figure_258 (lv_at hl 2 rfl) ?_
                          refine kSi (As := [.int (nI (srt (cev xs L (fr + 6 + 3 * k + i))))]) (rest := [.int (nI (len2)), .ref (ad it)]) S hK hP (c_L_letter l D cy ad N g_3 (srt (cev xs L (fr + 6 + 3 * k + i))) (by omega)) cs_L_33 ⟨rfl, rfl⟩ rfl hl.1 rfl (Nat.le_of_ble_eq_true rfl) ⟨Nat.zero_le _, Nat.zero_le _⟩ dL_figure_260 (fun r_260 q_260 => ?_)
                          subst q_260
                          refine mias S hK hP hI hS (by omega) hit_3 (vp_in_nI (by omega) (by omega)) dL_figure_263 (fun g_5 H locs eg_5 hP hS => ?_)
                          have hit_5 : g_5 it = .inl (cy 1, 64, .inl (fun x9 => nI ((va_up T3 len2 (ltr (srt (cev xs L (fr + 6 + 3 * k + i))))) x9))) := by rw [eg_5, va_up_self]; exact (arrN_up (by omega))
                          have hiso_5 : g_5 iso = .inl (cy 1, 64, .inl (fun x9 => nI (((inR (fun x9 => cev xs L (fr + 6 + 3 * k + x9)) n (fgR xs L fr n k) i).2.1) x9))) := ((congrFun eg_5 _).trans (va_up_ne _ _ (by omega))).trans hiso_3
                          have hinu_5 : g_5 inu = .inl (cy 1, 64, .inl (fun x9 => nI (((inR (fun x9 => cev xs L (fr + 6 + 3 * k + x9)) n (fgR xs L fr n k) i).2.2) x9))) := ((congrFun eg_5 _).trans (va_up_ne _ _ (by omega))).trans hinu_3
                          have hib_5 : g_5 ib = .inl (cy 1, 1, .inl (fun x9 => nI (BB x9))) := ((congrFun eg_5 _).trans (va_up_ne _ _ (by omega))).trans hib_3
                          have hfr_5 : ∀ j : Nat, j ≠ it → j ≠ iso → j ≠ inu → g_5 j = g j := fun j n0 n1 n2 => ((congrFun eg_5 _).trans (va_up_ne _ _ n0)).trans (hfr_3 j n0 n1 n2)
                          refine lv_aload_n hx hb dL_figure_264 rfl (lv_at hl 15 rfl) ?_
                          refine lv_iload hx hb dL_figure_265 (lv_at hl 0 rfl) ?_
                          refine lv_iinc (v := nI ((len2 + 1) + 1)) (lv' := [(8, .int (nI ((len2 + 1) + 1))), (19, .int (nI (nub (cev xs L (fr + 6 + 3 * k + i)) n (srt (cev xs L (fr + 6 + 3 * k + i)))))), (18, .int (nI (srt (cev xs L (fr + 6 + 3 * k + i))))), (17, .int (cev xs L (fr + 6 + 3 * k + i))), (16, .int (nI (i))), (15, .int (nI ((fgR xs L fr n k).1))), (14, .int (nI (tms9 (cev xs L (fr + 1 + k))))), (13, .int (nI (inn9 (cev xs L (fr + 1 + k))))), (12, .int (cev xs L (fr + 1 + k))), (11, .int (nI (k))), (10, .int (nI (fgI xs L fr))), (9, .int (nI ((inR (fun x9 => cev xs L (fr + 6 + 3 * k + x9)) n (fgR xs L fr n k) i).1))), (0, .ref b), (1, .int (nI (fr))), (2, .int (nI (n))), (3, .ref (ad it)), (4, .ref (ad iso)), (5, .ref (ad inu)), (6, .ref (ad ib)), (7, .int (nI (0)))]) hx hb dL_figure_267 hl (k := 0) rfl (by exact nI_add (len2 + 1) 1) (by decide) rfl (fun ls hl => ?_)
                          refine lv_bipush (v := nI (48)) hx hb dL_figure_270 (by decide) ?_
                          refine lv_iload hx hb dL_figure_272 (lv_at hl 1 rfl) ?_
                          refine lv_iadd hx hb dL_figure_274 ?_
                          refine tpi (nI_add 48 (nub (cev xs L (fr + 6 + 3 * k + i)) n (srt (cev xs L (fr + 6 + 3 * k + i))))) ?_
                          refine mias S hK hP hI hS (by omega) hit_5 (vp_in_nI (by omega) (by omega)) dL_figure_275 (fun g_6 H locs eg_6 hP hS => ?_)
                          have hit_6 : g_6 it = .inl (cy 1, 64, .inl (fun x9 => nI ((va_up (va_up T3 len2 (ltr (srt (cev xs L (fr + 6 + 3 * k + i))))) (len2 + 1) (48 + (nub (cev xs L (fr + 6 + 3 * k + i)) n (srt (cev xs L (fr + 6 + 3 * k + i)))))) x9))) := by rw [eg_6, va_up_self]; exact (arrN_up (by omega))
                          have hiso_6 : g_6 iso = .inl (cy 1, 64, .inl (fun x9 => nI (((inR (fun x9 => cev xs L (fr + 6 + 3 * k + x9)) n (fgR xs L fr n k) i).2.1) x9))) := ((congrFun eg_6 _).trans (va_up_ne _ _ (by omega))).trans hiso_5
                          have hinu_6 : g_6 inu = .inl (cy 1, 64, .inl (fun x9 => nI (((inR (fun x9 => cev xs L (fr + 6 + 3 * k + x9)) n (fgR xs L fr n k) i).2.2) x9))) := ((congrFun eg_6 _).trans (va_up_ne _ _ (by omega))).trans hinu_5
                          have hib_6 : g_6 ib = .inl (cy 1, 1, .inl (fun x9 => nI (BB x9))) := ((congrFun eg_6 _).trans (va_up_ne _ _ (by omega))).trans hib_5
                          have hfr_6 : ∀ j : Nat, j ≠ it → j ≠ iso → j ≠ inu → g_6 j = g j := fun j n0 n1 n2 => ((congrFun eg_6 _).trans (va_up_ne _ _ n0)).trans (hfr_5 j n0 n1 n2)
                          refine lv_aload_n hx hb dL_figure_276 rfl (lv_at hl 15 rfl) ?_
                          refine lv_iload hx hb dL_figure_277 (lv_at hl 0 rfl) ?_
                          refine lv_iinc (v := nI (((len2 + 1) + 1) + 1)) (lv' := [(8, .int (nI (((len2 + 1) + 1) + 1))), (19, .int (nI (nub (cev xs L (fr + 6 + 3 * k + i)) n (srt (cev xs L (fr + 6 + 3 * k + i)))))), (18, .int (nI (srt (cev xs L (fr + 6 + 3 * k + i))))), (17, .int (cev xs L (fr + 6 + 3 * k + i))), (16, .int (nI (i))), (15, .int (nI ((fgR xs L fr n k).1))), (14, .int (nI (tms9 (cev xs L (fr + 1 + k))))), (13, .int (nI (inn9 (cev xs L (fr + 1 + k))))), (12, .int (cev xs L (fr + 1 + k))), (11, .int (nI (k))), (10, .int (nI (fgI xs L fr))), (9, .int (nI ((inR (fun x9 => cev xs L (fr + 6 + 3 * k + x9)) n (fgR xs L fr n k) i).1))), (0, .ref b), (1, .int (nI (fr))), (2, .int (nI (n))), (3, .ref (ad it)), (4, .ref (ad iso)), (5, .ref (ad inu)), (6, .ref (ad ib)), (7, .int (nI (0)))]) hx hb dL_figure_279 hl (k := 0) rfl (by exact nI_add ((len2 + 1) + 1) 1) (by decide) rfl (fun ls hl => ?_)
                          refine lv_bipush (v := nI (32)) hx hb dL_figure_282 (by decide) ?_
                          refine mias S hK hP hI hS (by omega) hit_6 (vp_in_nI (by omega) (by omega)) dL_figure_284 (fun g_7 H locs eg_7 hP hS => ?_)
                          have hit_7 : g_7 it = .inl (cy 1, 64, .inl (fun x9 => nI ((va_up (va_up (va_up T3 len2 (ltr (srt (cev xs L (fr + 6 + 3 * k + i))))) (len2 + 1) (48 + (nub (cev xs L (fr + 6 + 3 * k + i)) n (srt (cev xs L (fr + 6 + 3 * k + i)))))) ((len2 + 1) + 1) 32) x9))) := by rw [eg_7, va_up_self]; exact (arrN_up (by omega))
                          have hiso_7 : g_7 iso = .inl (cy 1, 64, .inl (fun x9 => nI (((inR (fun x9 => cev xs L (fr + 6 + 3 * k + x9)) n (fgR xs L fr n k) i).2.1) x9))) := ((congrFun eg_7 _).trans (va_up_ne _ _ (by omega))).trans hiso_6
                          have hinu_7 : g_7 inu = .inl (cy 1, 64, .inl (fun x9 => nI (((inR (fun x9 => cev xs L (fr + 6 + 3 * k + x9)) n (fgR xs L fr n k) i).2.2) x9))) := ((congrFun eg_7 _).trans (va_up_ne _ _ (by omega))).trans hinu_6
                          have hib_7 : g_7 ib = .inl (cy 1, 1, .inl (fun x9 => nI (BB x9))) := ((congrFun eg_7 _).trans (va_up_ne _ _ (by omega))).trans hib_6
                          have hfr_7 : ∀ j : Nat, j ≠ it → j ≠ iso → j ≠ inu → g_7 j = g j := fun j n0 n1 n2 => ((congrFun eg_7 _).trans (va_up_ne _ _ n0)).trans (hfr_6 j n0 n1 n2)
                          refine lv_aload hx hb dL_figure_285 (lv_at hl 16 rfl) ?_
                          refine lv_iload hx hb dL_figure_287 (lv_at hl 11 rfl) ?_
                          refine lv_iload hx hb dL_figure_289 (lv_at hl 2 rfl) ?_
                          refine mias S hK hP hI hS (by omega) hiso_7 (vp_in_nI (by omega) (by omega)) dL_figure_291 (fun g_8 H locs eg_8 hP hS => ?_)
                          have hiso_8 : g_8 iso = .inl (cy 1, 64, .inl (fun x9 => nI ((va_up ((inR (fun x9 => cev xs L (fr + 6 + 3 * k + x9)) n (fgR xs L fr n k) i).2.1) ((inR (fun x9 => cev xs L (fr + 6 + 3 * k + x9)) n (fgR xs L fr n k) i).1) (srt (cev xs L (fr + 6 + 3 * k + i)))) x9))) := by rw [eg_8, va_up_self]; exact (arrN_up (by omega))
                          have hit_8 : g_8 it = .inl (cy 1, 64, .inl (fun x9 => nI ((va_up (va_up (va_up T3 len2 (ltr (srt (cev xs L (fr + 6 + 3 * k + i))))) (len2 + 1) (48 + (nub (cev xs L (fr + 6 + 3 * k + i)) n (srt (cev xs L (fr + 6 + 3 * k + i)))))) ((len2 + 1) + 1) 32) x9))) := ((congrFun eg_8 _).trans (va_up_ne _ _ (by omega))).trans hit_7
                          have hinu_8 : g_8 inu = .inl (cy 1, 64, .inl (fun x9 => nI (((inR (fun x9 => cev xs L (fr + 6 + 3 * k + x9)) n (fgR xs L fr n k) i).2.2) x9))) := ((congrFun eg_8 _).trans (va_up_ne _ _ (by omega))).trans hinu_7
                          have hib_8 : g_8 ib = .inl (cy 1, 1, .inl (fun x9 => nI (BB x9))) := ((congrFun eg_8 _).trans (va_up_ne _ _ (by omega))).trans hib_7
                          have hfr_8 : ∀ j : Nat, j ≠ it → j ≠ iso → j ≠ inu → g_8 j = g j := fun j n0 n1 n2 => ((congrFun eg_8 _).trans (va_up_ne _ _ n1)).trans (hfr_7 j n0 n1 n2)
                          refine lv_aload hx hb dL_figure_292 (lv_at hl 17 rfl) ?_
                          refine lv_iload hx hb dL_figure_294 (lv_at hl 11 rfl) ?_
                          refine lv_iload hx hb dL_figure_296 (lv_at hl 1 rfl) ?_
                          refine mias S hK hP hI hS (by omega) hinu_8 (vp_in_nI (by omega) (by omega)) dL_figure_298 (fun g_9 H locs eg_9 hP hS => ?_)
                          have hinu_9 : g_9 inu = .inl (cy 1, 64, .inl (fun x9 => nI ((va_up ((inR (fun x9 => cev xs L (fr + 6 + 3 * k + x9)) n (fgR xs L fr n k) i).2.2) ((inR (fun x9 => cev xs L (fr + 6 + 3 * k + x9)) n (fgR xs L fr n k) i).1) (nub (cev xs L (fr + 6 + 3 * k + i)) n (srt (cev xs L (fr + 6 + 3 * k + i))))) x9))) := by rw [eg_9, va_up_self]; exact (arrN_up (by omega))
                          have hit_9 : g_9 it = .inl (cy 1, 64, .inl (fun x9 => nI ((va_up (va_up (va_up T3 len2 (ltr (srt (cev xs L (fr + 6 + 3 * k + i))))) (len2 + 1) (48 + (nub (cev xs L (fr + 6 + 3 * k + i)) n (srt (cev xs L (fr + 6 + 3 * k + i)))))) ((len2 + 1) + 1) 32) x9))) := ((congrFun eg_9 _).trans (va_up_ne _ _ (by omega))).trans hit_8
                          have hiso_9 : g_9 iso = .inl (cy 1, 64, .inl (fun x9 => nI ((va_up ((inR (fun x9 => cev xs L (fr + 6 + 3 * k + x9)) n (fgR xs L fr n k) i).2.1) ((inR (fun x9 => cev xs L (fr + 6 + 3 * k + x9)) n (fgR xs L fr n k) i).1) (srt (cev xs L (fr + 6 + 3 * k + i)))) x9))) := ((congrFun eg_9 _).trans (va_up_ne _ _ (by omega))).trans hiso_8
                          have hib_9 : g_9 ib = .inl (cy 1, 1, .inl (fun x9 => nI (BB x9))) := ((congrFun eg_9 _).trans (va_up_ne _ _ (by omega))).trans hib_8
                          have hfr_9 : ∀ j : Nat, j ≠ it → j ≠ iso → j ≠ inu → g_9 j = g j := fun j n0 n1 n2 => ((congrFun eg_9 _).trans (va_up_ne _ _ n2)).trans (hfr_8 j n0 n1 n2)
                          refine lv_iinc (v := nI (((inR (fun x9 => cev xs L (fr + 6 + 3 * k + x9)) n (fgR xs L fr n k) i).1) + 1)) (lv' := [(9, .int (nI (((inR (fun x9 => cev xs L (fr + 6 + 3 * k + x9)) n (fgR xs L fr n k) i).1) + 1))), (8, .int (nI (((len2 + 1) + 1) + 1))), (19, .int (nI (nub (cev xs L (fr + 6 + 3 * k + i)) n (srt (cev xs L (fr + 6 + 3 * k + i)))))), (18, .int (nI (srt (cev xs L (fr + 6 + 3 * k + i))))), (17, .int (cev xs L (fr + 6 + 3 * k + i))), (16, .int (nI (i))), (15, .int (nI ((fgR xs L fr n k).1))), (14, .int (nI (tms9 (cev xs L (fr + 1 + k))))), (13, .int (nI (inn9 (cev xs L (fr + 1 + k))))), (12, .int (cev xs L (fr + 1 + k))), (11, .int (nI (k))), (10, .int (nI (fgI xs L fr))), (0, .ref b), (1, .int (nI (fr))), (2, .int (nI (n))), (3, .ref (ad it)), (4, .ref (ad iso)), (5, .ref (ad inu)), (6, .ref (ad ib)), (7, .int (nI (0)))]) hx hb dL_figure_299 hl (k := 11) rfl (by exact nI_add ((inR (fun x9 => cev xs L (fr + 6 + 3 * k + x9)) n (fgR xs L fr n k) i).1) 1) (by decide) rfl (fun ls hl => ?_)
                          refine lv_iinc (v := nI (i + 1)) (lv' := [(16, .int (nI (i + 1))), (9, .int (nI (((inR (fun x9 => cev xs L (fr + 6 + 3 * k + x9)) n (fgR xs L fr n k) i).1) + 1))), (8, .int (nI (((len2 + 1) + 1) + 1))), (19, .int (nI (nub (cev xs L (fr + 6 + 3 * k + i)) n (srt (cev xs L (fr + 6 + 3 * k + i)))))), (18, .int (nI (srt (cev xs L (fr + 6 + 3 * k + i))))), (17, .int (cev xs L (fr + 6 + 3 * k + i))), (15, .int (nI ((fgR xs L fr n k).1))), (14, .int (nI (tms9 (cev xs L (fr + 1 + k))))), (13, .int (nI (inn9 (cev xs L (fr + 1 + k))))), (12, .int (cev xs L (fr + 1 + k))), (11, .int (nI (k))), (10, .int (nI (fgI xs L fr))), (0, .ref b), (1, .int (nI (fr))), (2, .int (nI (n))), (3, .ref (ad it)), (4, .ref (ad iso)), (5, .ref (ad inu)), (6, .ref (ad ib)), (7, .int (nI (0)))]) hx hb dL_figure_302 hl (k := 5) rfl (by exact nI_add i 1) (by decide) rfl (fun ls hl => ?_)
                          refine lv_goto (tgt := 130) hx hb dL_figure_305 (by decide) ?_
                          exact ih130 (i + 1) (((len2 + 1) + 1) + 1) (va_up (va_up (va_up T3 len2 (ltr (srt (cev xs L (fr + 6 + 3 * k + i))))) (len2 + 1) (48 + (nub (cev xs L (fr + 6 + 3 * k + i)) n (srt (cev xs L (fr + 6 + 3 * k + i)))))) ((len2 + 1) + 1) 32) (by omega) (by omega) (by first | exact up128 h1282 (by decide) | exact up128 (up128 (up128 h1282 (ltr_x (by omega)).2.2.2) (by have := nub_lt (y := cev xs L (fr + 6 + 3 * k + i)) (n := n) (s := srt (cev xs L (fr + 6 + 3 * k + i))) (by omega); omega)) (by decide)) (by obtain ⟨em, he, h⟩ := htx2; first | exact ⟨0, fun _ => rfl, tx_dot h c_237 (by omega)⟩ | exact ⟨0, fun _ => rfl, tx_act h (by omega) hn.2 c_237 (by omega)⟩) (by omega) g_9 _ _ hit_9 hiso_9 hinu_9 hfr_9 hP hS _ (lv_sub hl [0, 6, 7, 8, 9, 10, 11, 1, 2, 12, 13, 14, 15, 16, 17, 18, 19] rfl)
                        · skip
                          have c_237 := (nI_eq (by omega) (by omega)).mp c_237
                          refine lv_aload_n hx hb dL_figure_240 rfl (lv_at hl 15 rfl) ?_
                          refine lv_iload hx hb dL_figure_241 (lv_at hl 11 rfl) ?_
                          refine lv_iinc (v := nI (len2 + 1)) (lv' := [(8, .int (nI (len2 + 1))), (19, .int (nI (nub (cev xs L (fr + 6 + 3 * k + i)) n (srt (cev xs L (fr + 6 + 3 * k + i)))))), (18, .int (nI (srt (cev xs L (fr + 6 + 3 * k + i))))), (17, .int (cev xs L (fr + 6 + 3 * k + i))), (16, .int (nI (i))), (15, .int (nI ((fgR xs L fr n k).1))), (14, .int (nI (tms9 (cev xs L (fr + 1 + k))))), (13, .int (nI (inn9 (cev xs L (fr + 1 + k))))), (12, .int (cev xs L (fr + 1 + k))), (11, .int (nI (k))), (10, .int (nI (fgI xs L fr))), (9, .int (nI ((inR (fun x9 => cev xs L (fr + 6 + 3 * k + x9)) n (fgR xs L fr n k) i).1))), (0, .ref b), (1, .int (nI (fr))), (2, .int (nI (n))), (3, .ref (ad it)), (4, .ref (ad iso)), (5, .ref (ad inu)), (6, .ref (ad ib)), (7, .int (nI (0)))]) hx hb dL_figure_243 hl (k := 11) rfl (by exact nI_add len2 1) (by decide) rfl (fun ls hl => ?_)
                          refine lv_bipush (v := nI (46)) hx hb dL_figure_246 (by decide) ?_
                          refine mias S hK hP hI hS (by omega) hit_3 (vp_in_nI (by omega) (by omega)) dL_figure_248 (fun g_10 H locs eg_10 hP hS => ?_)
                          have hit_10 : g_10 it = .inl (cy 1, 64, .inl (fun x9 => nI ((va_up T3 len2 46) x9))) := by rw [eg_10, va_up_self]; exact (arrN_up (by omega))
                          have hiso_10 : g_10 iso = .inl (cy 1, 64, .inl (fun x9 => nI (((inR (fun x9 => cev xs L (fr + 6 + 3 * k + x9)) n (fgR xs L fr n k) i).2.1) x9))) := ((congrFun eg_10 _).trans (va_up_ne _ _ (by omega))).trans hiso_3
                          have hinu_10 : g_10 inu = .inl (cy 1, 64, .inl (fun x9 => nI (((inR (fun x9 => cev xs L (fr + 6 + 3 * k + x9)) n (fgR xs L fr n k) i).2.2) x9))) := ((congrFun eg_10 _).trans (va_up_ne _ _ (by omega))).trans hinu_3
                          have hib_10 : g_10 ib = .inl (cy 1, 1, .inl (fun x9 => nI (BB x9))) := ((congrFun eg_10 _).trans (va_up_ne _ _ (by omega))).trans hib_3
                          have hfr_10 : ∀ j : Nat, j ≠ it → j ≠ iso → j ≠ inu → g_10 j = g j := fun j n0 n1 n2 => ((congrFun eg_10 _).trans (va_up_ne _ _ n0)).trans (hfr_3 j n0 n1 n2)
                          refine lv_goto (tgt := 285) hx hb dL_figure_249 (by decide) ?_
                          refine lv_aload hx hb dL_figure_285 (lv_at hl 16 rfl) ?_
                          refine lv_iload hx hb dL_figure_287 (lv_at hl 11 rfl) ?_
                          refine lv_iload hx hb dL_figure_289 (lv_at hl 2 rfl) ?_
                          refine mias S hK hP hI hS (by omega) hiso_10 (vp_in_nI (by omega) (by omega)) dL_figure_291 (fun g_11 H locs eg_11 hP hS => ?_)
                          have hiso_11 : g_11 iso = .inl (cy 1, 64, .inl (fun x9 => nI ((va_up ((inR (fun x9 => cev xs L (fr + 6 + 3 * k + x9)) n (fgR xs L fr n k) i).2.1) ((inR (fun x9 => cev xs L (fr + 6 + 3 * k + x9)) n (fgR xs L fr n k) i).1) (srt (cev xs L (fr + 6 + 3 * k + i)))) x9))) := by rw [eg_11, va_up_self]; exact (arrN_up (by omega))
                          have hit_11 : g_11 it = .inl (cy 1, 64, .inl (fun x9 => nI ((va_up T3 len2 46) x9))) := ((congrFun eg_11 _).trans (va_up_ne _ _ (by omega))).trans hit_10
                          have hinu_11 : g_11 inu = .inl (cy 1, 64, .inl (fun x9 => nI (((inR (fun x9 => cev xs L (fr + 6 + 3 * k + x9)) n (fgR xs L fr n k) i).2.2) x9))) := ((congrFun eg_11 _).trans (va_up_ne _ _ (by omega))).trans hinu_10
                          have hib_11 : g_11 ib = .inl (cy 1, 1, .inl (fun x9 => nI (BB x9))) := ((congrFun eg_11 _).trans (va_up_ne _ _ (by omega))).trans hib_10
                          have hfr_11 : ∀ j : Nat, j ≠ it → j ≠ iso → j ≠ inu → g_11 j = g j := fun j n0 n1 n2 => ((congrFun eg_11 _).trans (va_up_ne _ _ n1)).trans (hfr_10 j n0 n1 n2)
                          refine lv_aload hx hb dL_figure_292 (lv_at hl 17 rfl) ?_
                          refine lv_iload hx hb dL_figure_294 (lv_at hl 11 rfl) ?_
                          refine lv_iload hx hb dL_figure_296 (lv_at hl 1 rfl) ?_
                          refine mias S hK hP hI hS (by omega) hinu_11 (vp_in_nI (by omega) (by omega)) dL_figure_298 (fun g_12 H locs eg_12 hP hS => ?_)
                          have hinu_12 : g_12 inu = .inl (cy 1, 64, .inl (fun x9 => nI ((va_up ((inR (fun x9 => cev xs L (fr + 6 + 3 * k + x9)) n (fgR xs L fr n k) i).2.2) ((inR (fun x9 => cev xs L (fr + 6 + 3 * k + x9)) n (fgR xs L fr n k) i).1) (nub (cev xs L (fr + 6 + 3 * k + i)) n (srt (cev xs L (fr + 6 + 3 * k + i))))) x9))) := by rw [eg_12, va_up_self]; exact (arrN_up (by omega))
                          have hit_12 : g_12 it = .inl (cy 1, 64, .inl (fun x9 => nI ((va_up T3 len2 46) x9))) := ((congrFun eg_12 _).trans (va_up_ne _ _ (by omega))).trans hit_11
                          have hiso_12 : g_12 iso = .inl (cy 1, 64, .inl (fun x9 => nI ((va_up ((inR (fun x9 => cev xs L (fr + 6 + 3 * k + x9)) n (fgR xs L fr n k) i).2.1) ((inR (fun x9 => cev xs L (fr + 6 + 3 * k + x9)) n (fgR xs L fr n k) i).1) (srt (cev xs L (fr + 6 + 3 * k + i)))) x9))) := ((congrFun eg_12 _).trans (va_up_ne _ _ (by omega))).trans hiso_11
                          have hib_12 : g_12 ib = .inl (cy 1, 1, .inl (fun x9 => nI (BB x9))) := ((congrFun eg_12 _).trans (va_up_ne _ _ (by omega))).trans hib_11
                          have hfr_12 : ∀ j : Nat, j ≠ it → j ≠ iso → j ≠ inu → g_12 j = g j := fun j n0 n1 n2 => ((congrFun eg_12 _).trans (va_up_ne _ _ n2)).trans (hfr_11 j n0 n1 n2)
                          refine lv_iinc (v := nI (((inR (fun x9 => cev xs L (fr + 6 + 3 * k + x9)) n (fgR xs L fr n k) i).1) + 1)) (lv' := [(9, .int (nI (((inR (fun x9 => cev xs L (fr + 6 + 3 * k + x9)) n (fgR xs L fr n k) i).1) + 1))), (8, .int (nI (len2 + 1))), (19, .int (nI (nub (cev xs L (fr + 6 + 3 * k + i)) n (srt (cev xs L (fr + 6 + 3 * k + i)))))), (18, .int (nI (srt (cev xs L (fr + 6 + 3 * k + i))))), (17, .int (cev xs L (fr + 6 + 3 * k + i))), (16, .int (nI (i))), (15, .int (nI ((fgR xs L fr n k).1))), (14, .int (nI (tms9 (cev xs L (fr + 1 + k))))), (13, .int (nI (inn9 (cev xs L (fr + 1 + k))))), (12, .int (cev xs L (fr + 1 + k))), (11, .int (nI (k))), (10, .int (nI (fgI xs L fr))), (0, .ref b), (1, .int (nI (fr))), (2, .int (nI (n))), (3, .ref (ad it)), (4, .ref (ad iso)), (5, .ref (ad inu)), (6, .ref (ad ib)), (7, .int (nI (0)))]) hx hb dL_figure_299 hl (k := 11) rfl (by exact nI_add ((inR (fun x9 => cev xs L (fr + 6 + 3 * k + x9)) n (fgR xs L fr n k) i).1) 1) (by decide) rfl (fun ls hl => ?_)
                          refine lv_iinc (v := nI (i + 1)) (lv' := [(16, .int (nI (i + 1))), (9, .int (nI (((inR (fun x9 => cev xs L (fr + 6 + 3 * k + x9)) n (fgR xs L fr n k) i).1) + 1))), (8, .int (nI (len2 + 1))), (19, .int (nI (nub (cev xs L (fr + 6 + 3 * k + i)) n (srt (cev xs L (fr + 6 + 3 * k + i)))))), (18, .int (nI (srt (cev xs L (fr + 6 + 3 * k + i))))), (17, .int (cev xs L (fr + 6 + 3 * k + i))), (15, .int (nI ((fgR xs L fr n k).1))), (14, .int (nI (tms9 (cev xs L (fr + 1 + k))))), (13, .int (nI (inn9 (cev xs L (fr + 1 + k))))), (12, .int (cev xs L (fr + 1 + k))), (11, .int (nI (k))), (10, .int (nI (fgI xs L fr))), (0, .ref b), (1, .int (nI (fr))), (2, .int (nI (n))), (3, .ref (ad it)), (4, .ref (ad iso)), (5, .ref (ad inu)), (6, .ref (ad ib)), (7, .int (nI (0)))]) hx hb dL_figure_302 hl (k := 5) rfl (by exact nI_add i 1) (by decide) rfl (fun ls hl => ?_)
                          refine lv_goto (tgt := 130) hx hb dL_figure_305 (by decide) ?_
                          exact ih130 (i + 1) (len2 + 1) (va_up T3 len2 46) (by omega) (by omega) (by first | exact up128 h1282 (by decide) | exact up128 (up128 (up128 h1282 (ltr_x (by omega)).2.2.2) (by have := nub_lt (y := cev xs L (fr + 6 + 3 * k + i)) (n := n) (s := srt (cev xs L (fr + 6 + 3 * k + i))) (by omega); omega)) (by decide)) (by obtain ⟨em, he, h⟩ := htx2; first | exact ⟨0, fun _ => rfl, tx_dot h c_237 (by omega)⟩ | exact ⟨0, fun _ => rfl, tx_act h (by omega) hn.2 c_237 (by omega)⟩) (by omega) g_12 _ _ hit_12 hiso_12 hinu_12 hfr_12 hP hS _ (lv_sub hl [0, 6, 7, 8, 9, 10, 11, 1, 2, 12, 13, 14, 15, 16, 17, 18, 19] rfl)
                      refine lv_icmp_ne (tgt := 222) hx hb dL_figure_215 (by decide) (fun c_215 => ?_) (fun c_215 => ?_)
                      · skip
                        have c_215 := (not_congr (nI_eq (by omega) (by omega))).mp c_215
                        refine lv_iload hx hb dL_figure_222 (lv_at hl 1 rfl) ?_
                        refine lv_bipush (v := nI (7)) hx hb dL_figure_224 (by decide) ?_
                        refine lv_ishr hx hb dL_figure_226 ?_
                        refine lv_iload_n hx hb dL_figure_227 rfl (lv_at hl 13 rfl) ?_
                        refine kSi (As := [.int ((cev xs L (fr + 6 + 3 * k + i)) >>> ((nI (7)) &&& 31)), .int (nI (n))]) (rest := []) S hK hP (c_L_part l D cy ad N g_3 ((cev xs L (fr + 6 + 3 * k + i)) >>> ((nI (7)) &&& 31)) n ⟨by omega, by omega⟩) cs_L_29 ⟨rfl, rfl⟩ rfl hl.1 rfl (Nat.le_of_ble_eq_true rfl) ⟨Nat.zero_le _, Nat.zero_le _⟩ dL_figure_228 (fun r_228 q_228 => ?_)
                        subst q_228
                        refine tpi (y := nI (nub (cev xs L (fr + 6 + 3 * k + i)) n (srt (cev xs L (fr + 6 + 3 * k + i))))) (congrArg nI (if_neg c_215).symm) ?_
                        exact J231  _ (lv_sub hl [0, 1, 2, 3, 4, 5, 6, 7, 8, 9, 10, 11, 12, 13, 14, 15, 16, 17, 18] rfl)
                      · skip
                        have c_215 := (nI_eq (by omega) (by omega)).mp c_215
                        refine lv_iconst (v := nI (0)) hx hb dL_figure_218 (by decide) ?_
                        refine tpi (y := nI (nub (cev xs L (fr + 6 + 3 * k + i)) n (srt (cev xs L (fr + 6 + 3 * k + i))))) (congrArg nI (if_pos c_215).symm) ?_
                        refine lv_goto (tgt := 231) hx hb dL_figure_219 (by decide) ?_
                        exact J231  _ (lv_sub hl [0, 1, 2, 3, 4, 5, 6, 7, 8, 9, 10, 11, 12, 13, 14, 15, 16, 17, 18] rfl)
                    refine lv_if_ne (tgt := 170) hx hb dL_figure_162 (by decide) (fun c_162 => ?_) (fun c_162 => ?_)
                    · skip
                      have c_162 := (not_congr (z_eq (by omega))).mp c_162
                      refine lv_iload hx hb dL_figure_170 (lv_at hl 0 rfl) ?_
                      refine lv_iconst (v := nI (4)) hx hb dL_figure_172 (by decide) ?_
                      refine kSi (As := [.int (cev xs L (fr + 6 + 3 * k + i)), .int (nI (4))]) (rest := []) S hK hP (c_L_part l D cy ad N g_3 (cev xs L (fr + 6 + 3 * k + i)) 4 ⟨by omega, by omega⟩) cs_L_29 ⟨rfl, rfl⟩ rfl hl.1 rfl (Nat.le_of_ble_eq_true rfl) ⟨Nat.zero_le _, Nat.zero_le _⟩ dL_figure_173 (fun r_173 q_173 => ?_)
                      subst q_173
                      have hp173 := ptv_lt (cev xs L (fr + 6 + 3 * k + i)) (n := 4) (by decide)
                      refine lv_if_ne (tgt := 201) hx hb dL_figure_176 (by decide) (fun c_176 => ?_) (fun c_176 => ?_)
                      · skip
                        have c_176 := (not_congr (z_eq (by omega))).mp c_176
                        refine lv_iload hx hb dL_figure_201 (lv_at hl 0 rfl) ?_
                        refine lv_iconst (v := nI (5)) hx hb dL_figure_203 (by decide) ?_
                        refine lv_ishr hx hb dL_figure_204 ?_
                        refine lv_iconst (v := nI (2)) hx hb dL_figure_205 (by decide) ?_
                        refine kSi (As := [.int ((cev xs L (fr + 6 + 3 * k + i)) >>> ((nI (5)) &&& 31)), .int (nI (2))]) (rest := []) S hK hP (c_L_part l D cy ad N g_3 ((cev xs L (fr + 6 + 3 * k + i)) >>> ((nI (5)) &&& 31)) 2 ⟨by omega, by omega⟩) cs_L_29 ⟨rfl, rfl⟩ rfl hl.1 rfl (Nat.le_of_ble_eq_true rfl) ⟨Nat.zero_le _, Nat.zero_le _⟩ dL_figure_206 (fun r_206 q_206 => ?_)
                        subst q_206
                        refine tpi (y := nI (srt (cev xs L (fr + 6 + 3 * k + i)))) (congrArg nI ((if_neg c_162).trans (if_neg c_176)).symm) ?_
                        exact J209  _ (lv_sub hl [0, 1, 2, 3, 4, 5, 6, 7, 8, 9, 10, 11, 12, 13, 14, 15, 16, 17] rfl)
                      · skip
                        have c_176 := (z_eq (by omega)).mp c_176
                        refine lv_iconst (v := nI (2)) hx hb dL_figure_179 (by decide) ?_
                        refine lv_iload hx hb dL_figure_180 (lv_at hl 0 rfl) ?_
                        refine lv_iconst (v := nI (3)) hx hb dL_figure_182 (by decide) ?_
                        refine lv_ishr hx hb dL_figure_183 ?_
                        refine lv_iload hx hb dL_figure_184 (lv_at hl 17 rfl) ?_
                        refine lv_if_eq (tgt := 193) hx hb dL_figure_186 (by decide) (fun c_186 => ?_) (fun c_186 => ?_)
                        · skip
                          have c_186 := (z_eq (by omega)).mp c_186
                          refine lv_iconst (v := nI (2)) hx hb dL_figure_193 (by decide) ?_
                          refine kSi (As := [.int ((cev xs L (fr + 6 + 3 * k + i)) >>> ((nI (3)) &&& 31)), .int (nI (2))]) (rest := [.int (nI (2))]) S hK hP (c_L_part l D cy ad N g_3 ((cev xs L (fr + 6 + 3 * k + i)) >>> ((nI (3)) &&& 31)) 2 ⟨by omega, by omega⟩) cs_L_29 ⟨rfl, rfl⟩ rfl hl.1 rfl (Nat.le_of_ble_eq_true rfl) ⟨Nat.zero_le _, Nat.zero_le _⟩ dL_figure_194 (fun r_194 q_194 => ?_)
                          subst q_194
                          refine lv_iadd hx hb dL_figure_197 ?_
                          refine tpi (nI_add 2 (ptv ((cev xs L (fr + 6 + 3 * k + i)) >>> ((nI (3)) &&& 31)) 2)) ?_
                          refine tpi (y := nI (srt (cev xs L (fr + 6 + 3 * k + i)))) (congrArg nI ((if_neg c_162).trans (if_pos c_176)).symm) ?_
                          refine lv_goto (tgt := 209) hx hb dL_figure_198 (by decide) ?_
                          exact J209  _ (lv_sub hl [0, 1, 2, 3, 4, 5, 6, 7, 8, 9, 10, 11, 12, 13, 14, 15, 16, 17] rfl)
                        · skip
                          have c_186 := (not_congr (z_eq (by omega))).mp c_186
                          exact absurd c_186 (by decide)
                    · skip
                      have c_162 := (z_eq (by omega)).mp c_162
                      refine lv_bipush (v := nI (6)) hx hb dL_figure_165 (by decide) ?_
                      refine tpi (y := nI (srt (cev xs L (fr + 6 + 3 * k + i)))) (congrArg nI (if_pos c_162).symm) ?_
                      refine lv_goto (tgt := 209) hx hb dL_figure_167 (by decide) ?_
                      exact J209  _ (lv_sub hl [0, 1, 2, 3, 4, 5, 6, 7, 8, 9, 10, 11, 12, 13, 14, 15, 16, 17] rfl)
              exact L130 ((inn9 (cev xs L (fr + 1 + k)) - 0) + 1) 0 len T2 (by omega) (by omega) (by first | exact h128 | exact up128 (up128 h128 (by omega)) (by decide)) (by obtain ⟨em, he, h⟩ := htx; first | (rw [if_pos c_99]; exact ⟨em, fun q => absurd q (Nat.lt_irrefl _), TXP_f h⟩) | (rw [if_neg c_99]; exact ⟨1, fun q => absurd q (Nat.lt_irrefl _), tx_open h (by omega) (by omega)⟩)) (Nat.lt_succ_self _) g_1 _ _ hit_1 hiso_1 hinu_1 hfr_1 hP hS _ (lv_sub hl [0, 1, 2, 3, 4, 5, 6, 7, 8, 9, 10, 11, 12, 13, 14, 15, 16] rfl)
            · skip
              have c_99 := (not_congr (z_le (by omega))).mp c_99
              refine lv_aload_n hx hb dL_figure_102 rfl (lv_at hl 10 rfl) ?_
              refine lv_iload hx hb dL_figure_103 (lv_at hl 6 rfl) ?_
              refine lv_iinc (v := nI (len + 1)) (lv' := [(8, .int (nI (len + 1))), (14, .int (nI (tms9 (cev xs L (fr + 1 + k))))), (13, .int (nI (inn9 (cev xs L (fr + 1 + k))))), (12, .int (cev xs L (fr + 1 + k))), (11, .int (nI (k))), (10, .int (nI (fgI xs L fr))), (9, .int (nI ((fgR xs L fr n k).1))), (0, .ref b), (1, .int (nI (fr))), (2, .int (nI (n))), (3, .ref (ad it)), (4, .ref (ad iso)), (5, .ref (ad inu)), (6, .ref (ad ib)), (7, .int (nI (0)))]) hx hb dL_figure_105 hl (k := 6) rfl (by exact nI_add len 1) (by decide) rfl (fun ls hl => ?_)
              refine lv_bipush (v := nI (48)) hx hb dL_figure_108 (by decide) ?_
              refine lv_iload hx hb dL_figure_110 (lv_at hl 1 rfl) ?_
              refine lv_iadd hx hb dL_figure_112 ?_
              refine tpi (nI_add 48 (tms9 (cev xs L (fr + 1 + k)))) ?_
              refine mias S hK hP hI hS (by omega) hit_1 (vp_in_nI (by omega) (by omega)) dL_figure_113 (fun g_13 H locs eg_13 hP hS => ?_)
              have hit_13 : g_13 it = .inl (cy 1, 64, .inl (fun x9 => nI ((va_up T2 len (48 + (tms9 (cev xs L (fr + 1 + k))))) x9))) := by rw [eg_13, va_up_self]; exact (arrN_up (by omega))
              have hiso_13 : g_13 iso = .inl (cy 1, 64, .inl (fun x9 => nI (((fgR xs L fr n k).2.1) x9))) := ((congrFun eg_13 _).trans (va_up_ne _ _ (by omega))).trans hiso_1
              have hinu_13 : g_13 inu = .inl (cy 1, 64, .inl (fun x9 => nI (((fgR xs L fr n k).2.2) x9))) := ((congrFun eg_13 _).trans (va_up_ne _ _ (by omega))).trans hinu_1
              have hib_13 : g_13 ib = .inl (cy 1, 1, .inl (fun x9 => nI (BB x9))) := ((congrFun eg_13 _).trans (va_up_ne _ _ (by omega))).trans hib_1
              have hfr_13 : ∀ j : Nat, j ≠ it → j ≠ iso → j ≠ inu → g_13 j = g j := fun j n0 n1 n2 => ((congrFun eg_13 _).trans (va_up_ne _ _ n0)).trans (hfr_1 j n0 n1 n2)
              refine lv_aload_n hx hb dL_figure_114 rfl (lv_at hl 10 rfl) ?_
              refine lv_iload hx hb dL_figure_115 (lv_at hl 0 rfl) ?_
              refine lv_iinc (v := nI ((len + 1) + 1)) (lv' := [(8, .int (nI ((len + 1) + 1))), (14, .int (nI (tms9 (cev xs L (fr + 1 + k))))), (13, .int (nI (inn9 (cev xs L (fr + 1 + k))))), (12, .int (cev xs L (fr + 1 + k))), (11, .int (nI (k))), (10, .int (nI (fgI xs L fr))), (9, .int (nI ((fgR xs L fr n k).1))), (0, .ref b), (1, .int (nI (fr))), (2, .int (nI (n))), (3, .ref (ad it)), (4, .ref (ad iso)), (5, .ref (ad inu)), (6, .ref (ad ib)), (7, .int (nI (0)))]) hx hb dL_figure_117 hl (k := 0) rfl (by exact nI_add (len + 1) 1) (by decide) rfl (fun ls hl => ?_)
              refine lv_bipush (v := nI (40)) hx hb dL_figure_120 (by decide) ?_
              refine mias S hK hP hI hS (by omega) hit_13 (vp_in_nI (by omega) (by omega)) dL_figure_122 (fun g_14 H locs eg_14 hP hS => ?_)
              have hit_14 : g_14 it = .inl (cy 1, 64, .inl (fun x9 => nI ((va_up (va_up T2 len (48 + (tms9 (cev xs L (fr + 1 + k))))) (len + 1) 40) x9))) := by rw [eg_14, va_up_self]; exact (arrN_up (by omega))
              have hiso_14 : g_14 iso = .inl (cy 1, 64, .inl (fun x9 => nI (((fgR xs L fr n k).2.1) x9))) := ((congrFun eg_14 _).trans (va_up_ne _ _ (by omega))).trans hiso_13
              have hinu_14 : g_14 inu = .inl (cy 1, 64, .inl (fun x9 => nI (((fgR xs L fr n k).2.2) x9))) := ((congrFun eg_14 _).trans (va_up_ne _ _ (by omega))).trans hinu_13
              have hib_14 : g_14 ib = .inl (cy 1, 1, .inl (fun x9 => nI (BB x9))) := ((congrFun eg_14 _).trans (va_up_ne _ _ (by omega))).trans hib_13
              have hfr_14 : ∀ j : Nat, j ≠ it → j ≠ iso → j ≠ inu → g_14 j = g j := fun j n0 n1 n2 => ((congrFun eg_14 _).trans (va_up_ne _ _ n0)).trans (hfr_13 j n0 n1 n2)
              refine lv_iload hx hb dL_figure_123 (lv_at hl 6 rfl) ?_
              refine lv_istore (lv' := [(15, .int (nI ((fgR xs L fr n k).1))), (8, .int (nI ((len + 1) + 1))), (14, .int (nI (tms9 (cev xs L (fr + 1 + k))))), (13, .int (nI (inn9 (cev xs L (fr + 1 + k))))), (12, .int (cev xs L (fr + 1 + k))), (11, .int (nI (k))), (10, .int (nI (fgI xs L fr))), (9, .int (nI ((fgR xs L fr n k).1))), (0, .ref b), (1, .int (nI (fr))), (2, .int (nI (n))), (3, .ref (ad it)), (4, .ref (ad iso)), (5, .ref (ad inu)), (6, .ref (ad ib)), (7, .int (nI (0)))]) hx hb dL_figure_125 hl (by decide) rfl (fun ls hl => ?_)
              refine lv_iconst (v := nI (0)) hx hb dL_figure_127 (by decide) ?_
              refine lv_istore (lv' := [(16, .int (nI (0))), (15, .int (nI ((fgR xs L fr n k).1))), (8, .int (nI ((len + 1) + 1))), (14, .int (nI (tms9 (cev xs L (fr + 1 + k))))), (13, .int (nI (inn9 (cev xs L (fr + 1 + k))))), (12, .int (cev xs L (fr + 1 + k))), (11, .int (nI (k))), (10, .int (nI (fgI xs L fr))), (9, .int (nI ((fgR xs L fr n k).1))), (0, .ref b), (1, .int (nI (fr))), (2, .int (nI (n))), (3, .ref (ad it)), (4, .ref (ad iso)), (5, .ref (ad inu)), (6, .ref (ad ib)), (7, .int (nI (0)))]) hx hb dL_figure_128 hl (by decide) rfl (fun ls hl => ?_)
              have L130 : ∀ (fu : Nat) (i len2 : Nat) (T3 : Nat → Nat), (i ≤ inn9 (cev xs L (fr + 1 + k))) → (len2 ≤ 12 * k + 2 + 3 * i) → (∀ j, j < len2 → T3 j < 128) → (∃ em, (0 < i → em = 0) ∧ TXP T3 len2 (inR (fun x9 => cev xs L (fr + 6 + 3 * k + x9)) n (fgR xs L fr n k) i).1 (rw8 (inR (fun x9 => cev xs L (fr + 6 + 3 * k + x9)) n (fgR xs L fr n k) i)) (if tms9 (cev xs L (fr + 1 + k)) = 0 then 0 else 1) em (fgR xs L fr n k).1 (tms9 (cev xs L (fr + 1 + k)))) → (inn9 (cev xs L (fr + 1 + k)) - i) < fu → ∀ (g_15 : Nat → va_E) (H : Heap) (locs : List Loc), g_15 it = .inl (cy 1, 64, .inl (fun x9 => nI (T3 x9))) → g_15 iso = .inl (cy 1, 64, .inl (fun x9 => nI (((inR (fun x9 => cev xs L (fr + 6 + 3 * k + x9)) n (fgR xs L fr n k) i).2.1) x9))) → g_15 inu = .inl (cy 1, 64, .inl (fun x9 => nI (((inR (fun x9 => cev xs L (fr + 6 + 3 * k + x9)) n (fgR xs L fr n k) i).2.2) x9))) → (∀ j : Nat, j ≠ it → j ≠ iso → j ≠ inu → g_15 j = g j) → MM D ad N g_15 H → va_S (AA ad N) s.heap H locs → ∀ (ls : Array Slot), lv_has ls 20 [(16, .int (nI (i))), (15, .int (nI ((fgR xs L fr n k).1))), (8, .int (nI (len2))), (14, .int (nI (tms9 (cev xs L (fr + 1 + k))))), (13, .int (nI (inn9 (cev xs L (fr + 1 + k))))), (12, .int (cev xs L (fr + 1 + k))), (11, .int (nI (k))), (10, .int (nI (fgI xs L fr))), (9, .int (nI ((inR (fun x9 => cev xs L (fr + 6 + 3 * k + x9)) n (fgR xs L fr n k) i).1))), (0, .ref b), (1, .int (nI (fr))), (2, .int (nI (n))), (3, .ref (ad it)), (4, .ref (ad iso)), (5, .ref (ad inu)), (6, .ref (ad ib)), (7, .int (nI (0)))] → W p l e (rmF 1 21) s m [.ref b, .int (nI (fr)), .int (nI (n)), .ref (ad it), .ref (ad iso), .ref (ad inu), .ref (ad ib), .int (nI (0))].toArray below meth c H locs 0 0 (MQ below (QI (fun r g1 => ∃ (T9 : Nat → Nat), ∃ (l9 : Nat), (r = nI l9) ∧ (l9 ≤ 48) ∧ (∀ j, j < l9 → T9 j < 128) ∧ (TXP T9 l9 (fgR xs L fr n (fgI xs L fr)).1 (rw8 (fgR xs L fr n (fgI xs L fr))) 0 0 0 0) ∧ g1 it = .inl (cy 1, 64, .inl (fun x9 => nI (T9 x9))) ∧ g1 ib = .inl (cy 1, 1, .inl (fun x9 => nI ((va_up BB 0 (fgR xs L fr n (fgI xs L fr)).1) x9))) ∧ (∀ j, j ≠ it → j ≠ ib → j ≠ iso → j ≠ inu → g1 j = g j)) D ad N) [.ref b, .int (nI (fr)), .int (nI (n)), .ref (ad it), .ref (ad iso), .ref (ad inu), .ref (ad ib), .int (nI (0))].toArray s 0 0 (AA ad N)) (F0 m 130 ls []) := by
                intro fu
                induction fu with
                | zero => intro i len2 T3 hi hln2 h1282 htx2 hms g_15 H locs hit_15 hiso_15 hinu_15 hfr_15 hP hS ls hl; exact absurd hms (Nat.not_lt_zero _)
                | succ fu ih130 =>
                  intro i len2 T3 hi hln2 h1282 htx2 hms g_15 H locs hit_15 hiso_15 hinu_15 hfr_15 hP hS ls hl
                  have hib_15 : g_15 ib = .inl (cy 1, 1, .inl (fun x9 => nI (BB x9))) := (hfr_15 ib (by omega) (by omega) (by omega)).trans hbb
                  have hir := inR_1 (Y := (fun x9 => cev xs L (fr + 6 + 3 * k + x9))) (n := n) (E := (fgR xs L fr n k)) i
                  refine lv_iload hx hb dL_figure_130 (lv_at hl 0 rfl) ?_
                  refine lv_iload hx hb dL_figure_132 (lv_at hl 4 rfl) ?_
                  refine lv_icmp_ge (tgt := 308) hx hb dL_figure_134 (by decide) (fun c_134 => ?_) (fun c_134 => ?_)
                  · skip
                    have c_134 := (nI_leI (by omega) (by omega)).mp c_134
                    obtain rfl : i = inn9 (cev xs L (fr + 1 + k)) := by omega
                    refine lv_iload hx hb dL_figure_308 (lv_at hl 3 rfl) ?_
                    refine lv_if_le (tgt := 322) hx hb dL_figure_310 (by decide) (fun c_310 => ?_) (fun c_310 => ?_)
                    · skip
                      have c_310 := (z_le (by omega)).mp c_310
                      exact absurd c_310 c_99
                    · skip
                      have c_310 := (not_congr (z_le (by omega))).mp c_310
                      refine lv_aload_n hx hb dL_figure_313 rfl (lv_at hl 12 rfl) ?_
                      refine lv_iload hx hb dL_figure_314 (lv_at hl 2 rfl) ?_
                      refine lv_iinc (v := nI (len2 + 1)) (lv' := [(8, .int (nI (len2 + 1))), (16, .int (nI ((inn9 (cev xs L (fr + 1 + k)))))), (15, .int (nI ((fgR xs L fr n k).1))), (14, .int (nI (tms9 (cev xs L (fr + 1 + k))))), (13, .int (nI (inn9 (cev xs L (fr + 1 + k))))), (12, .int (cev xs L (fr + 1 + k))), (11, .int (nI (k))), (10, .int (nI (fgI xs L fr))), (9, .int (nI ((inR (fun x9 => cev xs L (fr + 6 + 3 * k + x9)) n (fgR xs L fr n k) (inn9 (cev xs L (fr + 1 + k)))).1))), (0, .ref b), (1, .int (nI (fr))), (2, .int (nI (n))), (3, .ref (ad it)), (4, .ref (ad iso)), (5, .ref (ad inu)), (6, .ref (ad ib)), (7, .int (nI (0)))]) hx hb dL_figure_316 hl (k := 2) rfl (by exact nI_add len2 1) (by decide) rfl (fun ls hl => ?_)
                      refine lv_bipush (v := nI (41)) hx hb dL_figure_319 (by decide) ?_
                      refine mias S hK hP hI hS (by omega) hit_15 (vp_in_nI (by omega) (by omega)) dL_figure_321 (fun g_16 H locs eg_16 hP hS => ?_)
                      have hit_16 : g_16 it = .inl (cy 1, 64, .inl (fun x9 => nI ((va_up T3 len2 41) x9))) := by rw [eg_16, va_up_self]; exact (arrN_up (by omega))
                      have hiso_16 : g_16 iso = .inl (cy 1, 64, .inl (fun x9 => nI (((inR (fun x9 => cev xs L (fr + 6 + 3 * k + x9)) n (fgR xs L fr n k) (inn9 (cev xs L (fr + 1 + k)))).2.1) x9))) := ((congrFun eg_16 _).trans (va_up_ne _ _ (by omega))).trans hiso_15
                      have hinu_16 : g_16 inu = .inl (cy 1, 64, .inl (fun x9 => nI (((inR (fun x9 => cev xs L (fr + 6 + 3 * k + x9)) n (fgR xs L fr n k) (inn9 (cev xs L (fr + 1 + k)))).2.2) x9))) := ((congrFun eg_16 _).trans (va_up_ne _ _ (by omega))).trans hinu_15
                      have hib_16 : g_16 ib = .inl (cy 1, 1, .inl (fun x9 => nI (BB x9))) := ((congrFun eg_16 _).trans (va_up_ne _ _ (by omega))).trans hib_15
                      have hfr_16 : ∀ j : Nat, j ≠ it → j ≠ iso → j ≠ inu → g_16 j = g j := fun j n0 n1 n2 => ((congrFun eg_16 _).trans (va_up_ne _ _ n0)).trans (hfr_15 j n0 n1 n2)
                      refine lv_iload hx hb dL_figure_322 (lv_at hl 8 rfl) ?_
                      refine lv_iload hx hb dL_figure_324 (lv_at hl 2 rfl) ?_
                      refine lv_isub hx hb dL_figure_326 ?_
                      refine tpi (pk_sub (a := (inR (fun x9 => cev xs L (fr + 6 + 3 * k + x9)) n (fgR xs L fr n k) (inn9 (cev xs L (fr + 1 + k)))).1) (b := (fgR xs L fr n k).1) (by omega)) ?_
                      refine tpi (y := nI (inn9 (cev xs L (fr + 1 + k)))) (congrArg nI (a₂ := inn9 (cev xs L (fr + 1 + k))) (by omega)) ?_
                      refine lv_istore (lv' := [(16, .int (nI (inn9 (cev xs L (fr + 1 + k))))), (8, .int (nI (len2 + 1))), (15, .int (nI ((fgR xs L fr n k).1))), (14, .int (nI (tms9 (cev xs L (fr + 1 + k))))), (13, .int (nI (inn9 (cev xs L (fr + 1 + k))))), (12, .int (cev xs L (fr + 1 + k))), (11, .int (nI (k))), (10, .int (nI (fgI xs L fr))), (9, .int (nI ((inR (fun x9 => cev xs L (fr + 6 + 3 * k + x9)) n (fgR xs L fr n k) (inn9 (cev xs L (fr + 1 + k)))).1))), (0, .ref b), (1, .int (nI (fr))), (2, .int (nI (n))), (3, .ref (ad it)), (4, .ref (ad iso)), (5, .ref (ad inu)), (6, .ref (ad ib)), (7, .int (nI (0)))]) hx hb dL_figure_327 hl (by decide) rfl (fun ls hl => ?_)
                      refine lv_iconst (v := nI (0)) hx hb dL_figure_329 (by decide) ?_
                      refine lv_istore (lv' := [(17, .int (nI (0))), (16, .int (nI (inn9 (cev xs L (fr + 1 + k))))), (8, .int (nI (len2 + 1))), (15, .int (nI ((fgR xs L fr n k).1))), (14, .int (nI (tms9 (cev xs L (fr + 1 + k))))), (13, .int (nI (inn9 (cev xs L (fr + 1 + k))))), (12, .int (cev xs L (fr + 1 + k))), (11, .int (nI (k))), (10, .int (nI (fgI xs L fr))), (9, .int (nI ((inR (fun x9 => cev xs L (fr + 6 + 3 * k + x9)) n (fgR xs L fr n k) (inn9 (cev xs L (fr + 1 + k)))).1))), (0, .ref b), (1, .int (nI (fr))), (2, .int (nI (n))), (3, .ref (ad it)), (4, .ref (ad iso)), (5, .ref (ad inu)), (6, .ref (ad ib)), (7, .int (nI (0)))]) hx hb dL_figure_330 hl (by decide) rfl (fun ls hl => ?_)
                      have L332 : ∀ (fu : Nat) (q len3 : Nat) (T4 : Nat → Nat), (q ≤ inn9 (cev xs L (fr + 1 + k)) * (tms9 (cev xs L (fr + 1 + k)) - 1)) → (len3 ≤ 12 * k + 12) → (∀ j, j < len3 → T4 j < 128) → (TXP T4 len3 (fgR xs L fr n (k + 1)).1 (rw8 (fgR xs L fr n (k + 1))) 0 0 0 0) → (inn9 (cev xs L (fr + 1 + k)) * (tms9 (cev xs L (fr + 1 + k)) - 1) - q) < fu → ∀ (g_17 : Nat → va_E) (H : Heap) (locs : List Loc), g_17 it = .inl (cy 1, 64, .inl (fun x9 => nI (T4 x9))) → g_17 iso = .inl (cy 1, 64, .inl (fun x9 => nI (((rpR (fgR xs L fr n k).1 (inn9 (cev xs L (fr + 1 + k))) (inR (fun x9 => cev xs L (fr + 6 + 3 * k + x9)) n (fgR xs L fr n k) (inn9 (cev xs L (fr + 1 + k)))) q).2.1) x9))) → g_17 inu = .inl (cy 1, 64, .inl (fun x9 => nI (((rpR (fgR xs L fr n k).1 (inn9 (cev xs L (fr + 1 + k))) (inR (fun x9 => cev xs L (fr + 6 + 3 * k + x9)) n (fgR xs L fr n k) (inn9 (cev xs L (fr + 1 + k)))) q).2.2) x9))) → (∀ j : Nat, j ≠ it → j ≠ iso → j ≠ inu → g_17 j = g j) → MM D ad N g_17 H → va_S (AA ad N) s.heap H locs → ∀ (ls : Array Slot), lv_has ls 20 [(17, .int (nI (q))), (16, .int (nI (inn9 (cev xs L (fr + 1 + k))))), (8, .int (nI (len3))), (15, .int (nI ((fgR xs L fr n k).1))), (14, .int (nI (tms9 (cev xs L (fr + 1 + k))))), (13, .int (nI (inn9 (cev xs L (fr + 1 + k))))), (12, .int (cev xs L (fr + 1 + k))), (11, .int (nI (k))), (10, .int (nI (fgI xs L fr))), (9, .int (nI ((rpR (fgR xs L fr n k).1 (inn9 (cev xs L (fr + 1 + k))) (inR (fun x9 => cev xs L (fr + 6 + 3 * k + x9)) n (fgR xs L fr n k) (inn9 (cev xs L (fr + 1 + k)))) q).1))), (0, .ref b), (1, .int (nI (fr))), (2, .int (nI (n))), (3, .ref (ad it)), (4, .ref (ad iso)), (5, .ref (ad inu)), (6, .ref (ad ib)), (7, .int (nI (0)))] → W p l e (rmF 1 21) s m [.ref b, .int (nI (fr)), .int (nI (n)), .ref (ad it), .ref (ad iso), .ref (ad inu), .ref (ad ib), .int (nI (0))].toArray below meth c H locs 0 0 (MQ below (QI (fun r g1 => ∃ (T9 : Nat → Nat), ∃ (l9 : Nat), (r = nI l9) ∧ (l9 ≤ 48) ∧ (∀ j, j < l9 → T9 j < 128) ∧ (TXP T9 l9 (fgR xs L fr n (fgI xs L fr)).1 (rw8 (fgR xs L fr n (fgI xs L fr))) 0 0 0 0) ∧ g1 it = .inl (cy 1, 64, .inl (fun x9 => nI (T9 x9))) ∧ g1 ib = .inl (cy 1, 1, .inl (fun x9 => nI ((va_up BB 0 (fgR xs L fr n (fgI xs L fr)).1) x9))) ∧ (∀ j, j ≠ it → j ≠ ib → j ≠ iso → j ≠ inu → g1 j = g j)) D ad N) [.ref b, .int (nI (fr)), .int (nI (n)), .ref (ad it), .ref (ad iso), .ref (ad inu), .ref (ad ib), .int (nI (0))].toArray s 0 0 (AA ad N)) (F0 m 332 ls []) := by
                        intro fu
                        induction fu with
                        | zero => intro q len3 T4 hq hln3 h1283 htx3 hms g_17 H locs hit_17 hiso_17 hinu_17 hfr_17 hP hS ls hl; exact absurd hms (Nat.not_lt_zero _)
                        | succ fu ih332 =>
                          intro q len3 T4 hq hln3 h1283 htx3 hms g_17 H locs hit_17 hiso_17 hinu_17 hfr_17 hP hS ls hl
                          have hib_17 : g_17 ib = .inl (cy 1, 1, .inl (fun x9 => nI (BB x9))) := (hfr_17 ib (by omega) (by omega) (by omega)).trans hbb
                          have hrp := rpR_1 (f := (fgR xs L fr n k).1) (sz := inn9 (cev xs L (fr + 1 + k))) (E := (inR (fun x9 => cev xs L (fr + 6 + 3 * k + x9)) n (fgR xs L fr n k) (inn9 (cev xs L (fr + 1 + k))))) q
                          refine lv_iload hx hb dL_figure_332 (lv_at hl 0 rfl) ?_
                          refine lv_iload hx hb dL_figure_334 (lv_at hl 1 rfl) ?_
                          refine lv_iload hx hb dL_figure_336 (lv_at hl 4 rfl) ?_
                          refine lv_iconst (v := nI (1)) hx hb dL_figure_338 (by decide) ?_
                          refine lv_isub hx hb dL_figure_339 ?_
                          refine tpi (pk_sub (a := tms9 (cev xs L (fr + 1 + k))) (b := 1) (by omega)) ?_
                          refine lv_imul hx hb dL_figure_340 ?_
                          refine tpi (pk_mul (inn9 (cev xs L (fr + 1 + k))) (tms9 (cev xs L (fr + 1 + k)) - 1)) ?_
                          refine lv_icmp_ge (tgt := 385) hx hb dL_figure_341 (by decide) (fun c_341 => ?_) (fun c_341 => ?_)
                          · skip
                            have c_341 := (nI_leI (by omega) (by omega)).mp c_341
                            obtain rfl : q = inn9 (cev xs L (fr + 1 + k)) * (tms9 (cev xs L (fr + 1 + k)) - 1) := by omega
                            refine lv_iinc (v := nI (k + 1)) (lv' := [(11, .int (nI (k + 1))), (17, .int (nI ((inn9 (cev xs L (fr + 1 + k)) * (tms9 (cev xs L (fr + 1 + k)) - 1))))), (16, .int (nI (inn9 (cev xs L (fr + 1 + k))))), (8, .int (nI (len3))), (15, .int (nI ((fgR xs L fr n k).1))), (14, .int (nI (tms9 (cev xs L (fr + 1 + k))))), (13, .int (nI (inn9 (cev xs L (fr + 1 + k))))), (12, .int (cev xs L (fr + 1 + k))), (10, .int (nI (fgI xs L fr))), (9, .int (nI ((rpR (fgR xs L fr n k).1 (inn9 (cev xs L (fr + 1 + k))) (inR (fun x9 => cev xs L (fr + 6 + 3 * k + x9)) n (fgR xs L fr n k) (inn9 (cev xs L (fr + 1 + k)))) (inn9 (cev xs L (fr + 1 + k)) * (tms9 (cev xs L (fr + 1 + k)) - 1))).1))), (0, .ref b), (1, .int (nI (fr))), (2, .int (nI (n))), (3, .ref (ad it)), (4, .ref (ad iso)), (5, .ref (ad inu)), (6, .ref (ad ib)), (7, .int (nI (0)))]) hx hb dL_figure_385 hl (k := 7) rfl (by exact nI_add k 1) (by decide) rfl (fun ls hl => ?_)
                            refine lv_goto (tgt := 22) hx hb dL_figure_388 (by decide) ?_
                            exact ih22 (k + 1) len3 T4 (by omega) (by omega) h1283 ⟨0, fun _ => rfl, htx3⟩ (by omega) g_17 _ _ hit_17 hiso_17 hinu_17 hfr_17 hP hS _ (lv_sub hl [0, 8, 9, 3, 10, 11, 12, 13, 14, 15, 16, 17] rfl)
                          · skip
                            have c_341 := (not_congr (nI_leI (by omega) (by omega))).mp c_341
                            have hqm := Nat.mod_lt q (show 0 < inn9 (cev xs L (fr + 1 + k)) by omega)
                            refine lv_aload hx hb dL_figure_344 (lv_at hl 14 rfl) ?_
                            refine lv_iload hx hb dL_figure_346 (lv_at hl 9 rfl) ?_
                            refine lv_aload hx hb dL_figure_348 (lv_at hl 14 rfl) ?_
                            refine lv_iload hx hb dL_figure_350 (lv_at hl 3 rfl) ?_
                            refine lv_iload hx hb dL_figure_352 (lv_at hl 0 rfl) ?_
                            refine lv_iload hx hb dL_figure_354 (lv_at hl 1 rfl) ?_
                            refine lv_irem hx hb dL_figure_356 (fun h => by have h := (z_eq (by omega)).mp h; omega) ?_
                            refine tpi (pk_rem (a := q) (by omega) (by omega) (by omega)) ?_
                            refine lv_iadd hx hb dL_figure_357 ?_
                            refine tpi (nI_add ((fgR xs L fr n k).1) (q % (inn9 (cev xs L (fr + 1 + k))))) ?_
                            refine mial S hK hP (by omega) hiso_17 (vp_in_nI (by omega) (by omega)) dL_figure_358 ?_
                            refine tpi (congrArg ((fun x9 => nI (((rpR (fgR xs L fr n k).1 (inn9 (cev xs L (fr + 1 + k))) (inR (fun x9 => cev xs L (fr + 6 + 3 * k + x9)) n (fgR xs L fr n k) (inn9 (cev xs L (fr + 1 + k)))) q).2.1) x9))) (nI_clamp (by omega))) ?_
                            refine mias S hK hP hI hS (by omega) hiso_17 (vp_in_nI (by omega) (by omega)) dL_figure_359 (fun g_18 H locs eg_18 hP hS => ?_)
                            have hiso_18 : g_18 iso = .inl (cy 1, 64, .inl (fun x9 => nI ((va_up ((rpR (fgR xs L fr n k).1 (inn9 (cev xs L (fr + 1 + k))) (inR (fun x9 => cev xs L (fr + 6 + 3 * k + x9)) n (fgR xs L fr n k) (inn9 (cev xs L (fr + 1 + k)))) q).2.1) ((rpR (fgR xs L fr n k).1 (inn9 (cev xs L (fr + 1 + k))) (inR (fun x9 => cev xs L (fr + 6 + 3 * k + x9)) n (fgR xs L fr n k) (inn9 (cev xs L (fr + 1 + k)))) q).1) (((rpR (fgR xs L fr n k).1 (inn9 (cev xs L (fr + 1 + k))) (inR (fun x9 => cev xs L (fr + 6 + 3 * k + x9)) n (fgR xs L fr n k) (inn9 (cev xs L (fr + 1 + k)))) q).2.1) (((fgR xs L fr n k).1) + (q % (inn9 (cev xs L (fr + 1 + k))))))) x9))) := by rw [eg_18, va_up_self]; exact (arrN_up (by omega))
                            have hit_18 : g_18 it = .inl (cy 1, 64, .inl (fun x9 => nI (T4 x9))) := ((congrFun eg_18 _).trans (va_up_ne _ _ (by omega))).trans hit_17
                            have hinu_18 : g_18 inu = .inl (cy 1, 64, .inl (fun x9 => nI (((rpR (fgR xs L fr n k).1 (inn9 (cev xs L (fr + 1 + k))) (inR (fun x9 => cev xs L (fr + 6 + 3 * k + x9)) n (fgR xs L fr n k) (inn9 (cev xs L (fr + 1 + k)))) q).2.2) x9))) := ((congrFun eg_18 _).trans (va_up_ne _ _ (by omega))).trans hinu_17
                            have hib_18 : g_18 ib = .inl (cy 1, 1, .inl (fun x9 => nI (BB x9))) := ((congrFun eg_18 _).trans (va_up_ne _ _ (by omega))).trans hib_17
                            have hfr_18 : ∀ j : Nat, j ≠ it → j ≠ iso → j ≠ inu → g_18 j = g j := fun j n0 n1 n2 => ((congrFun eg_18 _).trans (va_up_ne _ _ n1)).trans (hfr_17 j n0 n1 n2)
                            refine lv_aload hx hb dL_figure_360 (lv_at hl 15 rfl) ?_
                            refine lv_iload hx hb dL_figure_362 (lv_at hl 9 rfl) ?_
                            refine lv_aload hx hb dL_figure_364 (lv_at hl 15 rfl) ?_
                            refine lv_iload hx hb dL_figure_366 (lv_at hl 3 rfl) ?_
                            refine lv_iload hx hb dL_figure_368 (lv_at hl 0 rfl) ?_
                            refine lv_iload hx hb dL_figure_370 (lv_at hl 1 rfl) ?_
                            refine lv_irem hx hb dL_figure_372 (fun h => by have h := (z_eq (by omega)).mp h; omega) ?_
                            refine tpi (pk_rem (a := q) (by omega) (by omega) (by omega)) ?_
                            refine lv_iadd hx hb dL_figure_373 ?_
                            refine tpi (nI_add ((fgR xs L fr n k).1) (q % (inn9 (cev xs L (fr + 1 + k))))) ?_
                            refine mial S hK hP (by omega) hinu_18 (vp_in_nI (by omega) (by omega)) dL_figure_374 ?_
                            refine tpi (congrArg ((fun x9 => nI (((rpR (fgR xs L fr n k).1 (inn9 (cev xs L (fr + 1 + k))) (inR (fun x9 => cev xs L (fr + 6 + 3 * k + x9)) n (fgR xs L fr n k) (inn9 (cev xs L (fr + 1 + k)))) q).2.2) x9))) (nI_clamp (by omega))) ?_
                            refine mias S hK hP hI hS (by omega) hinu_18 (vp_in_nI (by omega) (by omega)) dL_figure_375 (fun g_19 H locs eg_19 hP hS => ?_)
                            have hinu_19 : g_19 inu = .inl (cy 1, 64, .inl (fun x9 => nI ((va_up ((rpR (fgR xs L fr n k).1 (inn9 (cev xs L (fr + 1 + k))) (inR (fun x9 => cev xs L (fr + 6 + 3 * k + x9)) n (fgR xs L fr n k) (inn9 (cev xs L (fr + 1 + k)))) q).2.2) ((rpR (fgR xs L fr n k).1 (inn9 (cev xs L (fr + 1 + k))) (inR (fun x9 => cev xs L (fr + 6 + 3 * k + x9)) n (fgR xs L fr n k) (inn9 (cev xs L (fr + 1 + k)))) q).1) (((rpR (fgR xs L fr n k).1 (inn9 (cev xs L (fr + 1 + k))) (inR (fun x9 => cev xs L (fr + 6 + 3 * k + x9)) n (fgR xs L fr n k) (inn9 (cev xs L (fr + 1 + k)))) q).2.2) (((fgR xs L fr n k).1) + (q % (inn9 (cev xs L (fr + 1 + k))))))) x9))) := by rw [eg_19, va_up_self]; exact (arrN_up (by omega))
                            have hit_19 : g_19 it = .inl (cy 1, 64, .inl (fun x9 => nI (T4 x9))) := ((congrFun eg_19 _).trans (va_up_ne _ _ (by omega))).trans hit_18
                            have hiso_19 : g_19 iso = .inl (cy 1, 64, .inl (fun x9 => nI ((va_up ((rpR (fgR xs L fr n k).1 (inn9 (cev xs L (fr + 1 + k))) (inR (fun x9 => cev xs L (fr + 6 + 3 * k + x9)) n (fgR xs L fr n k) (inn9 (cev xs L (fr + 1 + k)))) q).2.1) ((rpR (fgR xs L fr n k).1 (inn9 (cev xs L (fr + 1 + k))) (inR (fun x9 => cev xs L (fr + 6 + 3 * k + x9)) n (fgR xs L fr n k) (inn9 (cev xs L (fr + 1 + k)))) q).1) (((rpR (fgR xs L fr n k).1 (inn9 (cev xs L (fr + 1 + k))) (inR (fun x9 => cev xs L (fr + 6 + 3 * k + x9)) n (fgR xs L fr n k) (inn9 (cev xs L (fr + 1 + k)))) q).2.1) (((fgR xs L fr n k).1) + (q % (inn9 (cev xs L (fr + 1 + k))))))) x9))) := ((congrFun eg_19 _).trans (va_up_ne _ _ (by omega))).trans hiso_18
                            have hib_19 : g_19 ib = .inl (cy 1, 1, .inl (fun x9 => nI (BB x9))) := ((congrFun eg_19 _).trans (va_up_ne _ _ (by omega))).trans hib_18
                            have hfr_19 : ∀ j : Nat, j ≠ it → j ≠ iso → j ≠ inu → g_19 j = g j := fun j n0 n1 n2 => ((congrFun eg_19 _).trans (va_up_ne _ _ n2)).trans (hfr_18 j n0 n1 n2)
                            refine lv_iinc (v := nI (((rpR (fgR xs L fr n k).1 (inn9 (cev xs L (fr + 1 + k))) (inR (fun x9 => cev xs L (fr + 6 + 3 * k + x9)) n (fgR xs L fr n k) (inn9 (cev xs L (fr + 1 + k)))) q).1) + 1)) (lv' := [(9, .int (nI (((rpR (fgR xs L fr n k).1 (inn9 (cev xs L (fr + 1 + k))) (inR (fun x9 => cev xs L (fr + 6 + 3 * k + x9)) n (fgR xs L fr n k) (inn9 (cev xs L (fr + 1 + k)))) q).1) + 1))), (17, .int (nI (q))), (16, .int (nI (inn9 (cev xs L (fr + 1 + k))))), (8, .int (nI (len3))), (15, .int (nI ((fgR xs L fr n k).1))), (14, .int (nI (tms9 (cev xs L (fr + 1 + k))))), (13, .int (nI (inn9 (cev xs L (fr + 1 + k))))), (12, .int (cev xs L (fr + 1 + k))), (11, .int (nI (k))), (10, .int (nI (fgI xs L fr))), (0, .ref b), (1, .int (nI (fr))), (2, .int (nI (n))), (3, .ref (ad it)), (4, .ref (ad iso)), (5, .ref (ad inu)), (6, .ref (ad ib)), (7, .int (nI (0)))]) hx hb dL_figure_376 hl (k := 9) rfl (by exact nI_add ((rpR (fgR xs L fr n k).1 (inn9 (cev xs L (fr + 1 + k))) (inR (fun x9 => cev xs L (fr + 6 + 3 * k + x9)) n (fgR xs L fr n k) (inn9 (cev xs L (fr + 1 + k)))) q).1) 1) (by decide) rfl (fun ls hl => ?_)
                            refine lv_iinc (v := nI (q + 1)) (lv' := [(17, .int (nI (q + 1))), (9, .int (nI (((rpR (fgR xs L fr n k).1 (inn9 (cev xs L (fr + 1 + k))) (inR (fun x9 => cev xs L (fr + 6 + 3 * k + x9)) n (fgR xs L fr n k) (inn9 (cev xs L (fr + 1 + k)))) q).1) + 1))), (16, .int (nI (inn9 (cev xs L (fr + 1 + k))))), (8, .int (nI (len3))), (15, .int (nI ((fgR xs L fr n k).1))), (14, .int (nI (tms9 (cev xs L (fr + 1 + k))))), (13, .int (nI (inn9 (cev xs L (fr + 1 + k))))), (12, .int (cev xs L (fr + 1 + k))), (11, .int (nI (k))), (10, .int (nI (fgI xs L fr))), (0, .ref b), (1, .int (nI (fr))), (2, .int (nI (n))), (3, .ref (ad it)), (4, .ref (ad iso)), (5, .ref (ad inu)), (6, .ref (ad ib)), (7, .int (nI (0)))]) hx hb dL_figure_379 hl (k := 1) rfl (by exact nI_add q 1) (by decide) rfl (fun ls hl => ?_)
                            refine lv_goto (tgt := 332) hx hb dL_figure_382 (by decide) ?_
                            exact ih332 (q + 1) len3 T4 (by omega) (by omega) (by omega) (by omega) (by omega) g_19 _ _ hit_19 hiso_19 hinu_19 hfr_19 hP hS _ (lv_sub hl [0, 2, 3, 4, 5, 6, 7, 8, 9, 1, 10, 11, 12, 13, 14, 15, 16, 17] rfl)
                      exact L332 ((inn9 (cev xs L (fr + 1 + k)) * (tms9 (cev xs L (fr + 1 + k)) - 1) - 0) + 1) 0 (len2 + 1) (va_up T3 len2 41) (by omega) (by omega) (by first | exact h1282 | exact up128 h1282 (by decide)) (by obtain ⟨em, he, h⟩ := htx2; have he := he (by omega); subst he; first | (rw [if_pos c_99] at h; exact tx_none h c_99) | (rw [if_neg c_99] at h; exact tx_close h (by omega) (by omega))) (Nat.lt_succ_self _) g_16 _ _ hit_16 hiso_16 hinu_16 hfr_16 hP hS _ (lv_sub hl [0, 1, 2, 3, 4, 5, 6, 7, 8, 9, 10, 11, 12, 13, 14, 15, 16, 17] rfl)
                  · skip
                    have c_134 := (not_congr (nI_leI (by omega) (by omega))).mp c_134
                    refine lv_aload_n hx hb dL_figure_137 rfl (lv_at hl 9 rfl) ?_
                    refine lv_iload_n hx hb dL_figure_138 rfl (lv_at hl 10 rfl) ?_
                    refine lv_bipush (v := nI (6)) hx hb dL_figure_139 (by decide) ?_
                    refine lv_iadd hx hb dL_figure_141 ?_
                    refine tpi (nI_add fr 6) ?_
                    refine lv_iconst (v := nI (3)) hx hb dL_figure_142 (by decide) ?_
                    refine lv_iload hx hb dL_figure_143 (lv_at hl 6 rfl) ?_
                    refine lv_imul hx hb dL_figure_145 ?_
                    refine tpi (pk_mul 3 k) ?_
                    refine lv_iadd hx hb dL_figure_146 ?_
                    refine tpi (nI_add (fr + 6) (3 * k)) ?_
                    refine lv_iload hx hb dL_figure_147 (lv_at hl 0 rfl) ?_
                    refine lv_iadd hx hb dL_figure_149 ?_
                    refine tpi (nI_add ((fr + 6) + (3 * k)) i) ?_
                    refine kPi (A := AA ad N) (As := [.ref b, .int (nI (((fr + 6) + (3 * k)) + i))]) (rest := []) S hK hP hX hbl hbA (fun _ h => h) hS (c_L_cell l D cy ad N g_15 b L xs (((fr + 6) + (3 * k)) + i) (by omega) hL) cs_L_23 ⟨rfl, rfl⟩ rfl hl.1 rfl (Nat.le_of_ble_eq_true rfl) ⟨Nat.zero_le _, Nat.zero_le _⟩ dL_figure_150 (fun r_150 q_150 => ?_)
                    subst q_150
                    refine tpi (y := cev xs L (fr + 6 + 3 * k + i)) (rfl) ?_
                    refine lv_istore (lv' := [(17, .int (cev xs L (fr + 6 + 3 * k + i))), (16, .int (nI (i))), (15, .int (nI ((fgR xs L fr n k).1))), (8, .int (nI (len2))), (14, .int (nI (tms9 (cev xs L (fr + 1 + k))))), (13, .int (nI (inn9 (cev xs L (fr + 1 + k))))), (12, .int (cev xs L (fr + 1 + k))), (11, .int (nI (k))), (10, .int (nI (fgI xs L fr))), (9, .int (nI ((inR (fun x9 => cev xs L (fr + 6 + 3 * k + x9)) n (fgR xs L fr n k) i).1))), (0, .ref b), (1, .int (nI (fr))), (2, .int (nI (n))), (3, .ref (ad it)), (4, .ref (ad iso)), (5, .ref (ad inu)), (6, .ref (ad ib)), (7, .int (nI (0)))]) hx hb dL_figure_153 hl (by decide) rfl (fun ls hl => ?_)
                    refine lv_iload hx hb dL_figure_155 (lv_at hl 0 rfl) ?_
                    refine lv_bipush (v := nI (8)) hx hb dL_figure_157 (by decide) ?_
                    refine kSi (As := [.int (cev xs L (fr + 6 + 3 * k + i)), .int (nI (8))]) (rest := []) S hK hP (c_L_part l D cy ad N g_15 (cev xs L (fr + 6 + 3 * k + i)) 8 ⟨by omega, by omega⟩) cs_L_29 ⟨rfl, rfl⟩ rfl hl.1 rfl (Nat.le_of_ble_eq_true rfl) ⟨Nat.zero_le _, Nat.zero_le _⟩ dL_figure_159 (fun r_159 q_159 => ?_)
                    subst q_159
                    have hp159 := ptv_lt (cev xs L (fr + 6 + 3 * k + i)) (n := 8) (by decide)
                    have J209 : ∀ (ls : Array Slot), lv_has ls 20 [(17, .int (cev xs L (fr + 6 + 3 * k + i))), (16, .int (nI (i))), (15, .int (nI ((fgR xs L fr n k).1))), (8, .int (nI (len2))), (14, .int (nI (tms9 (cev xs L (fr + 1 + k))))), (13, .int (nI (inn9 (cev xs L (fr + 1 + k))))), (12, .int (cev xs L (fr + 1 + k))), (11, .int (nI (k))), (10, .int (nI (fgI xs L fr))), (9, .int (nI ((inR (fun x9 => cev xs L (fr + 6 + 3 * k + x9)) n (fgR xs L fr n k) i).1))), (0, .ref b), (1, .int (nI (fr))), (2, .int (nI (n))), (3, .ref (ad it)), (4, .ref (ad iso)), (5, .ref (ad inu)), (6, .ref (ad ib)), (7, .int (nI (0)))] → W p l e (rmF 1 21) s m [.ref b, .int (nI (fr)), .int (nI (n)), .ref (ad it), .ref (ad iso), .ref (ad inu), .ref (ad ib), .int (nI (0))].toArray below meth c H locs 0 0 (MQ below (QI (fun r g1 => ∃ (T9 : Nat → Nat), ∃ (l9 : Nat), (r = nI l9) ∧ (l9 ≤ 48) ∧ (∀ j, j < l9 → T9 j < 128) ∧ (TXP T9 l9 (fgR xs L fr n (fgI xs L fr)).1 (rw8 (fgR xs L fr n (fgI xs L fr))) 0 0 0 0) ∧ g1 it = .inl (cy 1, 64, .inl (fun x9 => nI (T9 x9))) ∧ g1 ib = .inl (cy 1, 1, .inl (fun x9 => nI ((va_up BB 0 (fgR xs L fr n (fgI xs L fr)).1) x9))) ∧ (∀ j, j ≠ it → j ≠ ib → j ≠ iso → j ≠ inu → g1 j = g j)) D ad N) [.ref b, .int (nI (fr)), .int (nI (n)), .ref (ad it), .ref (ad iso), .ref (ad inu), .ref (ad ib), .int (nI (0))].toArray s 0 0 (AA ad N)) (F0 m 209 ls [.int (nI (srt (cev xs L (fr + 6 + 3 * k + i))))]) := by
                      intro ls hl
                      have hsr := srt_ok (cev xs L (fr + 6 + 3 * k + i))
                      refine lv_istore (lv' := [(18, .int (nI (srt (cev xs L (fr + 6 + 3 * k + i))))), (17, .int (cev xs L (fr + 6 + 3 * k + i))), (16, .int (nI (i))), (15, .int (nI ((fgR xs L fr n k).1))), (8, .int (nI (len2))), (14, .int (nI (tms9 (cev xs L (fr + 1 + k))))), (13, .int (nI (inn9 (cev xs L (fr + 1 + k))))), (12, .int (cev xs L (fr + 1 + k))), (11, .int (nI (k))), (10, .int (nI (fgI xs L fr))), (9, .int (nI ((inR (fun x9 => cev xs L (fr + 6 + 3 * k + x9)) n (fgR xs L fr n k) i).1))), (0, .ref b), (1, .int (nI (fr))), (2, .int (nI (n))), (3, .ref (ad it)), (4, .ref (ad iso)), (5, .ref (ad inu)), (6, .ref (ad ib)), (7, .int (nI (0)))]) hx hb dL_figure_209 hl (by decide) rfl (fun ls hl => ?_)
                      refine lv_iload hx hb dL_figure_211 (lv_at hl 0 rfl) ?_
                      refine lv_bipush (v := nI (6)) hx hb dL_figure_213 (by decide) ?_
                      have J231 : ∀ (ls : Array Slot), lv_has ls 20 [(18, .int (nI (srt (cev xs L (fr + 6 + 3 * k + i))))), (17, .int (cev xs L (fr + 6 + 3 * k + i))), (16, .int (nI (i))), (15, .int (nI ((fgR xs L fr n k).1))), (8, .int (nI (len2))), (14, .int (nI (tms9 (cev xs L (fr + 1 + k))))), (13, .int (nI (inn9 (cev xs L (fr + 1 + k))))), (12, .int (cev xs L (fr + 1 + k))), (11, .int (nI (k))), (10, .int (nI (fgI xs L fr))), (9, .int (nI ((inR (fun x9 => cev xs L (fr + 6 + 3 * k + x9)) n (fgR xs L fr n k) i).1))), (0, .ref b), (1, .int (nI (fr))), (2, .int (nI (n))), (3, .ref (ad it)), (4, .ref (ad iso)), (5, .ref (ad inu)), (6, .ref (ad ib)), (7, .int (nI (0)))] → W p l e (rmF 1 21) s m [.ref b, .int (nI (fr)), .int (nI (n)), .ref (ad it), .ref (ad iso), .ref (ad inu), .ref (ad ib), .int (nI (0))].toArray below meth c H locs 0 0 (MQ below (QI (fun r g1 => ∃ (T9 : Nat → Nat), ∃ (l9 : Nat), (r = nI l9) ∧ (l9 ≤ 48) ∧ (∀ j, j < l9 → T9 j < 128) ∧ (TXP T9 l9 (fgR xs L fr n (fgI xs L fr)).1 (rw8 (fgR xs L fr n (fgI xs L fr))) 0 0 0 0) ∧ g1 it = .inl (cy 1, 64, .inl (fun x9 => nI (T9 x9))) ∧ g1 ib = .inl (cy 1, 1, .inl (fun x9 => nI ((va_up BB 0 (fgR xs L fr n (fgI xs L fr)).1) x9))) ∧ (∀ j, j ≠ it → j ≠ ib → j ≠ iso → j ≠ inu → g1 j = g j)) D ad N) [.ref b, .int (nI (fr)), .int (nI (n)), .ref (ad it), .ref (ad iso), .ref (ad inu), .ref (ad ib), .int (nI (0))].toArray s 0 0 (AA ad N)) (F0 m 231 ls [.int (nI (nub (cev xs L (fr + 6 + 3 * k + i)) n (srt (cev xs L (fr + 6 + 3 * k + i)))))]) := by
                        intro ls hl
                        refine lv_istore (lv' := [(19, .int (nI (nub (cev xs L (fr + 6 + 3 * k + i)) n (srt (cev xs L (fr + 6 + 3 * k + i)))))), (18, .int (nI (srt (cev xs L (fr + 6 + 3 * k + i))))), (17, .int (cev xs L (fr + 6 + 3 * k + i))), (16, .int (nI (i))), (15, .int (nI ((fgR xs L fr n k).1))), (8, .int (nI (len2))), (14, .int (nI (tms9 (cev xs L (fr + 1 + k))))), (13, .int (nI (inn9 (cev xs L (fr + 1 + k))))), (12, .int (cev xs L (fr + 1 + k))), (11, .int (nI (k))), (10, .int (nI (fgI xs L fr))), (9, .int (nI ((inR (fun x9 => cev xs L (fr + 6 + 3 * k + x9)) n (fgR xs L fr n k) i).1))), (0, .ref b), (1, .int (nI (fr))), (2, .int (nI (n))), (3, .ref (ad it)), (4, .ref (ad iso)), (5, .ref (ad inu)), (6, .ref (ad ib)), (7, .int (nI (0)))]) hx hb dL_figure_231 hl (by decide) rfl (fun ls hl => ?_)
                        refine lv_iload hx hb dL_figure_233 (lv_at hl 1 rfl) ?_
                        refine lv_bipush (v := nI (6)) hx hb dL_figure_235 (by decide) ?_
                        refine lv_icmp_ne (tgt := 252) hx hb dL_figure_237 (by decide) (fun c_237 => ?_) (fun c_237 => ?_)
                        · skip
                          have c_237 := (not_congr (nI_eq (by omega) (by omega))).mp c_237
                          refine lv_aload_n hx hb dL_figure_252 rfl (lv_at hl 15 rfl) ?_
                          refine lv_iload hx hb dL_figure_253 (lv_at hl 5 rfl) ?_
                          refine lv_iinc (v := nI (len2 + 1)) (lv' := [(8, .int (nI (len2 + 1))), (19, .int (nI (nub (cev xs L (fr + 6 + 3 * k + i)) n (srt (cev xs L (fr + 6 + 3 * k + i)))))), (18, .int (nI (srt (cev xs L (fr + 6 + 3 * k + i))))), (17, .int (cev xs L (fr + 6 + 3 * k + i))), (16, .int (nI (i))), (15, .int (nI ((fgR xs L fr n k).1))), (14, .int (nI (tms9 (cev xs L (fr + 1 + k))))), (13, .int (nI (inn9 (cev xs L (fr + 1 + k))))), (12, .int (cev xs L (fr + 1 + k))), (11, .int (nI (k))), (10, .int (nI (fgI xs L fr))), (9, .int (nI ((inR (fun x9 => cev xs L (fr + 6 + 3 * k + x9)) n (fgR xs L fr n k) i).1))), (0, .ref b), (1, .int (nI (fr))), (2, .int (nI (n))), (3, .ref (ad it)), (4, .ref (ad iso)), (5, .ref (ad inu)), (6, .ref (ad ib)), (7, .int (nI (0)))]) hx hb dL_figure_255 hl (k := 5) rfl (by exact nI_add len2 1) (by decide) rfl (fun ls hl => ?_)
                          refine lv_iload hx hb dL_figure_258 (lv_at hl 2 rfl) ?_
                          refine kSi (As := [.int (nI (srt (cev xs L (fr + 6 + 3 * k + i))))]) (rest := [.int (nI (len2)), .ref (ad it)]) S hK hP (c_L_letter l D cy ad N g_15 (srt (cev xs L (fr + 6 + 3 * k + i))) (by omega)) cs_L_33 ⟨rfl, rfl⟩ rfl hl.1 rfl (Nat.le_of_ble_eq_true rfl) ⟨Nat.zero_le _, Nat.zero_le _⟩ dL_figure_260 (fun r_260 q_260 => ?_)
                          subst q_260
                          refine mias S hK hP hI hS (by omega) hit_15 (vp_in_nI (by omega) (by omega)) dL_figure_263 (fun g_20 H locs eg_20 hP hS => ?_)
                          have hit_20 : g_20 it = .inl (cy 1, 64, .inl (fun x9 => nI ((va_up T3 len2 (ltr (srt (cev xs L (fr + 6 + 3 * k + i))))) x9))) := by rw [eg_20, va_up_self]; exact (arrN_up (by omega))
                          have hiso_20 : g_20 iso = .inl (cy 1, 64, .inl (fun x9 => nI (((inR (fun x9 => cev xs L (fr + 6 + 3 * k + x9)) n (fgR xs L fr n k) i).2.1) x9))) := ((congrFun eg_20 _).trans (va_up_ne _ _ (by omega))).trans hiso_15
                          have hinu_20 : g_20 inu = .inl (cy 1, 64, .inl (fun x9 => nI (((inR (fun x9 => cev xs L (fr + 6 + 3 * k + x9)) n (fgR xs L fr n k) i).2.2) x9))) := ((congrFun eg_20 _).trans (va_up_ne _ _ (by omega))).trans hinu_15
                          have hib_20 : g_20 ib = .inl (cy 1, 1, .inl (fun x9 => nI (BB x9))) := ((congrFun eg_20 _).trans (va_up_ne _ _ (by omega))).trans hib_15
                          have hfr_20 : ∀ j : Nat, j ≠ it → j ≠ iso → j ≠ inu → g_20 j = g j := fun j n0 n1 n2 => ((congrFun eg_20 _).trans (va_up_ne _ _ n0)).trans (hfr_15 j n0 n1 n2)
                          refine lv_aload_n hx hb dL_figure_264 rfl (lv_at hl 15 rfl) ?_
                          refine lv_iload hx hb dL_figure_265 (lv_at hl 0 rfl) ?_
                          refine lv_iinc (v := nI ((len2 + 1) + 1)) (lv' := [(8, .int (nI ((len2 + 1) + 1))), (19, .int (nI (nub (cev xs L (fr + 6 + 3 * k + i)) n (srt (cev xs L (fr + 6 + 3 * k + i)))))), (18, .int (nI (srt (cev xs L (fr + 6 + 3 * k + i))))), (17, .int (cev xs L (fr + 6 + 3 * k + i))), (16, .int (nI (i))), (15, .int (nI ((fgR xs L fr n k).1))), (14, .int (nI (tms9 (cev xs L (fr + 1 + k))))), (13, .int (nI (inn9 (cev xs L (fr + 1 + k))))), (12, .int (cev xs L (fr + 1 + k))), (11, .int (nI (k))), (10, .int (nI (fgI xs L fr))), (9, .int (nI ((inR (fun x9 => cev xs L (fr + 6 + 3 * k + x9)) n (fgR xs L fr n k) i).1))), (0, .ref b), (1, .int (nI (fr))), (2, .int (nI (n))), (3, .ref (ad it)), (4, .ref (ad iso)), (5, .ref (ad inu)), (6, .ref (ad ib)), (7, .int (nI (0)))]) hx hb dL_figure_267 hl (k := 0) rfl (by exact nI_add (len2 + 1) 1) (by decide) rfl (fun ls hl => ?_)
                          refine lv_bipush (v := nI (48)) hx hb dL_figure_270 (by decide) ?_
                          refine lv_iload hx hb dL_figure_272 (lv_at hl 1 rfl) ?_
                          refine lv_iadd hx hb dL_figure_274 ?_
                          refine tpi (nI_add 48 (nub (cev xs L (fr + 6 + 3 * k + i)) n (srt (cev xs L (fr + 6 + 3 * k + i))))) ?_
                          refine mias S hK hP hI hS (by omega) hit_20 (vp_in_nI (by omega) (by omega)) dL_figure_275 (fun g_21 H locs eg_21 hP hS => ?_)
                          have hit_21 : g_21 it = .inl (cy 1, 64, .inl (fun x9 => nI ((va_up (va_up T3 len2 (ltr (srt (cev xs L (fr + 6 + 3 * k + i))))) (len2 + 1) (48 + (nub (cev xs L (fr + 6 + 3 * k + i)) n (srt (cev xs L (fr + 6 + 3 * k + i)))))) x9))) := by rw [eg_21, va_up_self]; exact (arrN_up (by omega))
                          have hiso_21 : g_21 iso = .inl (cy 1, 64, .inl (fun x9 => nI (((inR (fun x9 => cev xs L (fr + 6 + 3 * k + x9)) n (fgR xs L fr n k) i).2.1) x9))) := ((congrFun eg_21 _).trans (va_up_ne _ _ (by omega))).trans hiso_20
                          have hinu_21 : g_21 inu = .inl (cy 1, 64, .inl (fun x9 => nI (((inR (fun x9 => cev xs L (fr + 6 + 3 * k + x9)) n (fgR xs L fr n k) i).2.2) x9))) := ((congrFun eg_21 _).trans (va_up_ne _ _ (by omega))).trans hinu_20
                          have hib_21 : g_21 ib = .inl (cy 1, 1, .inl (fun x9 => nI (BB x9))) := ((congrFun eg_21 _).trans (va_up_ne _ _ (by omega))).trans hib_20
                          have hfr_21 : ∀ j : Nat, j ≠ it → j ≠ iso → j ≠ inu → g_21 j = g j := fun j n0 n1 n2 => ((congrFun eg_21 _).trans (va_up_ne _ _ n0)).trans (hfr_20 j n0 n1 n2)
                          refine lv_aload_n hx hb dL_figure_276 rfl (lv_at hl 15 rfl) ?_
                          refine lv_iload hx hb dL_figure_277 (lv_at hl 0 rfl) ?_
                          refine lv_iinc (v := nI (((len2 + 1) + 1) + 1)) (lv' := [(8, .int (nI (((len2 + 1) + 1) + 1))), (19, .int (nI (nub (cev xs L (fr + 6 + 3 * k + i)) n (srt (cev xs L (fr + 6 + 3 * k + i)))))), (18, .int (nI (srt (cev xs L (fr + 6 + 3 * k + i))))), (17, .int (cev xs L (fr + 6 + 3 * k + i))), (16, .int (nI (i))), (15, .int (nI ((fgR xs L fr n k).1))), (14, .int (nI (tms9 (cev xs L (fr + 1 + k))))), (13, .int (nI (inn9 (cev xs L (fr + 1 + k))))), (12, .int (cev xs L (fr + 1 + k))), (11, .int (nI (k))), (10, .int (nI (fgI xs L fr))), (9, .int (nI ((inR (fun x9 => cev xs L (fr + 6 + 3 * k + x9)) n (fgR xs L fr n k) i).1))), (0, .ref b), (1, .int (nI (fr))), (2, .int (nI (n))), (3, .ref (ad it)), (4, .ref (ad iso)), (5, .ref (ad inu)), (6, .ref (ad ib)), (7, .int (nI (0)))]) hx hb dL_figure_279 hl (k := 0) rfl (by exact nI_add ((len2 + 1) + 1) 1) (by decide) rfl (fun ls hl => ?_)
                          refine lv_bipush (v := nI (32)) hx hb dL_figure_282 (by decide) ?_
                          refine mias S hK hP hI hS (by omega) hit_21 (vp_in_nI (by omega) (by omega)) dL_figure_284 (fun g_22 H locs eg_22 hP hS => ?_)
                          have hit_22 : g_22 it = .inl (cy 1, 64, .inl (fun x9 => nI ((va_up (va_up (va_up T3 len2 (ltr (srt (cev xs L (fr + 6 + 3 * k + i))))) (len2 + 1) (48 + (nub (cev xs L (fr + 6 + 3 * k + i)) n (srt (cev xs L (fr + 6 + 3 * k + i)))))) ((len2 + 1) + 1) 32) x9))) := by rw [eg_22, va_up_self]; exact (arrN_up (by omega))
                          have hiso_22 : g_22 iso = .inl (cy 1, 64, .inl (fun x9 => nI (((inR (fun x9 => cev xs L (fr + 6 + 3 * k + x9)) n (fgR xs L fr n k) i).2.1) x9))) := ((congrFun eg_22 _).trans (va_up_ne _ _ (by omega))).trans hiso_21
                          have hinu_22 : g_22 inu = .inl (cy 1, 64, .inl (fun x9 => nI (((inR (fun x9 => cev xs L (fr + 6 + 3 * k + x9)) n (fgR xs L fr n k) i).2.2) x9))) := ((congrFun eg_22 _).trans (va_up_ne _ _ (by omega))).trans hinu_21
                          have hib_22 : g_22 ib = .inl (cy 1, 1, .inl (fun x9 => nI (BB x9))) := ((congrFun eg_22 _).trans (va_up_ne _ _ (by omega))).trans hib_21
                          have hfr_22 : ∀ j : Nat, j ≠ it → j ≠ iso → j ≠ inu → g_22 j = g j := fun j n0 n1 n2 => ((congrFun eg_22 _).trans (va_up_ne _ _ n0)).trans (hfr_21 j n0 n1 n2)
                          refine lv_aload hx hb dL_figure_285 (lv_at hl 16 rfl) ?_
                          refine lv_iload hx hb dL_figure_287 (lv_at hl 11 rfl) ?_
                          refine lv_iload hx hb dL_figure_289 (lv_at hl 2 rfl) ?_
                          refine mias S hK hP hI hS (by omega) hiso_22 (vp_in_nI (by omega) (by omega)) dL_figure_291 (fun g_23 H locs eg_23 hP hS => ?_)
                          have hiso_23 : g_23 iso = .inl (cy 1, 64, .inl (fun x9 => nI ((va_up ((inR (fun x9 => cev xs L (fr + 6 + 3 * k + x9)) n (fgR xs L fr n k) i).2.1) ((inR (fun x9 => cev xs L (fr + 6 + 3 * k + x9)) n (fgR xs L fr n k) i).1) (srt (cev xs L (fr + 6 + 3 * k + i)))) x9))) := by rw [eg_23, va_up_self]; exact (arrN_up (by omega))
                          have hit_23 : g_23 it = .inl (cy 1, 64, .inl (fun x9 => nI ((va_up (va_up (va_up T3 len2 (ltr (srt (cev xs L (fr + 6 + 3 * k + i))))) (len2 + 1) (48 + (nub (cev xs L (fr + 6 + 3 * k + i)) n (srt (cev xs L (fr + 6 + 3 * k + i)))))) ((len2 + 1) + 1) 32) x9))) := ((congrFun eg_23 _).trans (va_up_ne _ _ (by omega))).trans hit_22
                          have hinu_23 : g_23 inu = .inl (cy 1, 64, .inl (fun x9 => nI (((inR (fun x9 => cev xs L (fr + 6 + 3 * k + x9)) n (fgR xs L fr n k) i).2.2) x9))) := ((congrFun eg_23 _).trans (va_up_ne _ _ (by omega))).trans hinu_22
                          have hib_23 : g_23 ib = .inl (cy 1, 1, .inl (fun x9 => nI (BB x9))) := ((congrFun eg_23 _).trans (va_up_ne _ _ (by omega))).trans hib_22
                          have hfr_23 : ∀ j : Nat, j ≠ it → j ≠ iso → j ≠ inu → g_23 j = g j := fun j n0 n1 n2 => ((congrFun eg_23 _).trans (va_up_ne _ _ n1)).trans (hfr_22 j n0 n1 n2)
                          refine lv_aload hx hb dL_figure_292 (lv_at hl 17 rfl) ?_
                          refine lv_iload hx hb dL_figure_294 (lv_at hl 11 rfl) ?_
                          refine lv_iload hx hb dL_figure_296 (lv_at hl 1 rfl) ?_
                          refine mias S hK hP hI hS (by omega) hinu_23 (vp_in_nI (by omega) (by omega)) dL_figure_298 (fun g_24 H locs eg_24 hP hS => ?_)
                          have hinu_24 : g_24 inu = .inl (cy 1, 64, .inl (fun x9 => nI ((va_up ((inR (fun x9 => cev xs L (fr + 6 + 3 * k + x9)) n (fgR xs L fr n k) i).2.2) ((inR (fun x9 => cev xs L (fr + 6 + 3 * k + x9)) n (fgR xs L fr n k) i).1) (nub (cev xs L (fr + 6 + 3 * k + i)) n (srt (cev xs L (fr + 6 + 3 * k + i))))) x9))) := by rw [eg_24, va_up_self]; exact (arrN_up (by omega))
                          have hit_24 : g_24 it = .inl (cy 1, 64, .inl (fun x9 => nI ((va_up (va_up (va_up T3 len2 (ltr (srt (cev xs L (fr + 6 + 3 * k + i))))) (len2 + 1) (48 + (nub (cev xs L (fr + 6 + 3 * k + i)) n (srt (cev xs L (fr + 6 + 3 * k + i)))))) ((len2 + 1) + 1) 32) x9))) := ((congrFun eg_24 _).trans (va_up_ne _ _ (by omega))).trans hit_23
                          have hiso_24 : g_24 iso = .inl (cy 1, 64, .inl (fun x9 => nI ((va_up ((inR (fun x9 => cev xs L (fr + 6 + 3 * k + x9)) n (fgR xs L fr n k) i).2.1) ((inR (fun x9 => cev xs L (fr + 6 + 3 * k + x9)) n (fgR xs L fr n k) i).1) (srt (cev xs L (fr + 6 + 3 * k + i)))) x9))) := ((congrFun eg_24 _).trans (va_up_ne _ _ (by omega))).trans hiso_23
                          have hib_24 : g_24 ib = .inl (cy 1, 1, .inl (fun x9 => nI (BB x9))) := ((congrFun eg_24 _).trans (va_up_ne _ _ (by omega))).trans hib_23
                          have hfr_24 : ∀ j : Nat, j ≠ it → j ≠ iso → j ≠ inu → g_24 j = g j := fun j n0 n1 n2 => ((congrFun eg_24 _).trans (va_up_ne _ _ n2)).trans (hfr_23 j n0 n1 n2)
                          refine lv_iinc (v := nI (((inR (fun x9 => cev xs L (fr + 6 + 3 * k + x9)) n (fgR xs L fr n k) i).1) + 1)) (lv' := [(9, .int (nI (((inR (fun x9 => cev xs L (fr + 6 + 3 * k + x9)) n (fgR xs L fr n k) i).1) + 1))), (8, .int (nI (((len2 + 1) + 1) + 1))), (19, .int (nI (nub (cev xs L (fr + 6 + 3 * k + i)) n (srt (cev xs L (fr + 6 + 3 * k + i)))))), (18, .int (nI (srt (cev xs L (fr + 6 + 3 * k + i))))), (17, .int (cev xs L (fr + 6 + 3 * k + i))), (16, .int (nI (i))), (15, .int (nI ((fgR xs L fr n k).1))), (14, .int (nI (tms9 (cev xs L (fr + 1 + k))))), (13, .int (nI (inn9 (cev xs L (fr + 1 + k))))), (12, .int (cev xs L (fr + 1 + k))), (11, .int (nI (k))), (10, .int (nI (fgI xs L fr))), (0, .ref b), (1, .int (nI (fr))), (2, .int (nI (n))), (3, .ref (ad it)), (4, .ref (ad iso)), (5, .ref (ad inu)), (6, .ref (ad ib)), (7, .int (nI (0)))]) hx hb dL_figure_299 hl (k := 11) rfl (by exact nI_add ((inR (fun x9 => cev xs L (fr + 6 + 3 * k + x9)) n (fgR xs L fr n k) i).1) 1) (by decide) rfl (fun ls hl => ?_)
                          refine lv_iinc (v := nI (i + 1)) (lv' := [(16, .int (nI (i + 1))), (9, .int (nI (((inR (fun x9 => cev xs L (fr + 6 + 3 * k + x9)) n (fgR xs L fr n k) i).1) + 1))), (8, .int (nI (((len2 + 1) + 1) + 1))), (19, .int (nI (nub (cev xs L (fr + 6 + 3 * k + i)) n (srt (cev xs L (fr + 6 + 3 * k + i)))))), (18, .int (nI (srt (cev xs L (fr + 6 + 3 * k + i))))), (17, .int (cev xs L (fr + 6 + 3 * k + i))), (15, .int (nI ((fgR xs L fr n k).1))), (14, .int (nI (tms9 (cev xs L (fr + 1 + k))))), (13, .int (nI (inn9 (cev xs L (fr + 1 + k))))), (12, .int (cev xs L (fr + 1 + k))), (11, .int (nI (k))), (10, .int (nI (fgI xs L fr))), (0, .ref b), (1, .int (nI (fr))), (2, .int (nI (n))), (3, .ref (ad it)), (4, .ref (ad iso)), (5, .ref (ad inu)), (6, .ref (ad ib)), (7, .int (nI (0)))]) hx hb dL_figure_302 hl (k := 5) rfl (by exact nI_add i 1) (by decide) rfl (fun ls hl => ?_)
                          refine lv_goto (tgt := 130) hx hb dL_figure_305 (by decide) ?_
                          exact ih130 (i + 1) (((len2 + 1) + 1) + 1) (va_up (va_up (va_up T3 len2 (ltr (srt (cev xs L (fr + 6 + 3 * k + i))))) (len2 + 1) (48 + (nub (cev xs L (fr + 6 + 3 * k + i)) n (srt (cev xs L (fr + 6 + 3 * k + i)))))) ((len2 + 1) + 1) 32) (by omega) (by omega) (by first | exact up128 h1282 (by decide) | exact up128 (up128 (up128 h1282 (ltr_x (by omega)).2.2.2) (by have := nub_lt (y := cev xs L (fr + 6 + 3 * k + i)) (n := n) (s := srt (cev xs L (fr + 6 + 3 * k + i))) (by omega); omega)) (by decide)) (by obtain ⟨em, he, h⟩ := htx2; first | exact ⟨0, fun _ => rfl, tx_dot h c_237 (by omega)⟩ | exact ⟨0, fun _ => rfl, tx_act h (by omega) hn.2 c_237 (by omega)⟩) (by omega) g_24 _ _ hit_24 hiso_24 hinu_24 hfr_24 hP hS _ (lv_sub hl [0, 6, 2, 7, 8, 9, 10, 11, 1, 12, 13, 14, 15, 16, 17, 18, 19] rfl)
                        · skip
                          have c_237 := (nI_eq (by omega) (by omega)).mp c_237
                          refine lv_aload_n hx hb dL_figure_240 rfl (lv_at hl 15 rfl) ?_
                          refine lv_iload hx hb dL_figure_241 (lv_at hl 5 rfl) ?_
                          refine lv_iinc (v := nI (len2 + 1)) (lv' := [(8, .int (nI (len2 + 1))), (19, .int (nI (nub (cev xs L (fr + 6 + 3 * k + i)) n (srt (cev xs L (fr + 6 + 3 * k + i)))))), (18, .int (nI (srt (cev xs L (fr + 6 + 3 * k + i))))), (17, .int (cev xs L (fr + 6 + 3 * k + i))), (16, .int (nI (i))), (15, .int (nI ((fgR xs L fr n k).1))), (14, .int (nI (tms9 (cev xs L (fr + 1 + k))))), (13, .int (nI (inn9 (cev xs L (fr + 1 + k))))), (12, .int (cev xs L (fr + 1 + k))), (11, .int (nI (k))), (10, .int (nI (fgI xs L fr))), (9, .int (nI ((inR (fun x9 => cev xs L (fr + 6 + 3 * k + x9)) n (fgR xs L fr n k) i).1))), (0, .ref b), (1, .int (nI (fr))), (2, .int (nI (n))), (3, .ref (ad it)), (4, .ref (ad iso)), (5, .ref (ad inu)), (6, .ref (ad ib)), (7, .int (nI (0)))]) hx hb dL_figure_243 hl (k := 5) rfl (by exact nI_add len2 1) (by decide) rfl (fun ls hl => ?_)
                          refine lv_bipush (v := nI (46)) hx hb dL_figure_246 (by decide) ?_
                          refine mias S hK hP hI hS (by omega) hit_15 (vp_in_nI (by omega) (by omega)) dL_figure_248 (fun g_25 H locs eg_25 hP hS => ?_)
                          have hit_25 : g_25 it = .inl (cy 1, 64, .inl (fun x9 => nI ((va_up T3 len2 46) x9))) := by rw [eg_25, va_up_self]; exact (arrN_up (by omega))
                          have hiso_25 : g_25 iso = .inl (cy 1, 64, .inl (fun x9 => nI (((inR (fun x9 => cev xs L (fr + 6 + 3 * k + x9)) n (fgR xs L fr n k) i).2.1) x9))) := ((congrFun eg_25 _).trans (va_up_ne _ _ (by omega))).trans hiso_15
                          have hinu_25 : g_25 inu = .inl (cy 1, 64, .inl (fun x9 => nI (((inR (fun x9 => cev xs L (fr + 6 + 3 * k + x9)) n (fgR xs L fr n k) i).2.2) x9))) := ((congrFun eg_25 _).trans (va_up_ne _ _ (by omega))).trans hinu_15
                          have hib_25 : g_25 ib = .inl (cy 1, 1, .inl (fun x9 => nI (BB x9))) := ((congrFun eg_25 _).trans (va_up_ne _ _ (by omega))).trans hib_15
                          have hfr_25 : ∀ j : Nat, j ≠ it → j ≠ iso → j ≠ inu → g_25 j = g j := fun j n0 n1 n2 => ((congrFun eg_25 _).trans (va_up_ne _ _ n0)).trans (hfr_15 j n0 n1 n2)
                          refine lv_goto (tgt := 285) hx hb dL_figure_249 (by decide) ?_
                          refine lv_aload hx hb dL_figure_285 (lv_at hl 16 rfl) ?_
                          refine lv_iload hx hb dL_figure_287 (lv_at hl 11 rfl) ?_
                          refine lv_iload hx hb dL_figure_289 (lv_at hl 2 rfl) ?_
                          refine mias S hK hP hI hS (by omega) hiso_25 (vp_in_nI (by omega) (by omega)) dL_figure_291 (fun g_26 H locs eg_26 hP hS => ?_)
                          have hiso_26 : g_26 iso = .inl (cy 1, 64, .inl (fun x9 => nI ((va_up ((inR (fun x9 => cev xs L (fr + 6 + 3 * k + x9)) n (fgR xs L fr n k) i).2.1) ((inR (fun x9 => cev xs L (fr + 6 + 3 * k + x9)) n (fgR xs L fr n k) i).1) (srt (cev xs L (fr + 6 + 3 * k + i)))) x9))) := by rw [eg_26, va_up_self]; exact (arrN_up (by omega))
                          have hit_26 : g_26 it = .inl (cy 1, 64, .inl (fun x9 => nI ((va_up T3 len2 46) x9))) := ((congrFun eg_26 _).trans (va_up_ne _ _ (by omega))).trans hit_25
                          have hinu_26 : g_26 inu = .inl (cy 1, 64, .inl (fun x9 => nI (((inR (fun x9 => cev xs L (fr + 6 + 3 * k + x9)) n (fgR xs L fr n k) i).2.2) x9))) := ((congrFun eg_26 _).trans (va_up_ne _ _ (by omega))).trans hinu_25
                          have hib_26 : g_26 ib = .inl (cy 1, 1, .inl (fun x9 => nI (BB x9))) := ((congrFun eg_26 _).trans (va_up_ne _ _ (by omega))).trans hib_25
                          have hfr_26 : ∀ j : Nat, j ≠ it → j ≠ iso → j ≠ inu → g_26 j = g j := fun j n0 n1 n2 => ((congrFun eg_26 _).trans (va_up_ne _ _ n1)).trans (hfr_25 j n0 n1 n2)
                          refine lv_aload hx hb dL_figure_292 (lv_at hl 17 rfl) ?_
                          refine lv_iload hx hb dL_figure_294 (lv_at hl 11 rfl) ?_
                          refine lv_iload hx hb dL_figure_296 (lv_at hl 1 rfl) ?_
                          refine mias S hK hP hI hS (by omega) hinu_26 (vp_in_nI (by omega) (by omega)) dL_figure_298 (fun g_27 H locs eg_27 hP hS => ?_)
                          have hinu_27 : g_27 inu = .inl (cy 1, 64, .inl (fun x9 => nI ((va_up ((inR (fun x9 => cev xs L (fr + 6 + 3 * k + x9)) n (fgR xs L fr n k) i).2.2) ((inR (fun x9 => cev xs L (fr + 6 + 3 * k + x9)) n (fgR xs L fr n k) i).1) (nub (cev xs L (fr + 6 + 3 * k + i)) n (srt (cev xs L (fr + 6 + 3 * k + i))))) x9))) := by rw [eg_27, va_up_self]; exact (arrN_up (by omega))
                          have hit_27 : g_27 it = .inl (cy 1, 64, .inl (fun x9 => nI ((va_up T3 len2 46) x9))) := ((congrFun eg_27 _).trans (va_up_ne _ _ (by omega))).trans hit_26
                          have hiso_27 : g_27 iso = .inl (cy 1, 64, .inl (fun x9 => nI ((va_up ((inR (fun x9 => cev xs L (fr + 6 + 3 * k + x9)) n (fgR xs L fr n k) i).2.1) ((inR (fun x9 => cev xs L (fr + 6 + 3 * k + x9)) n (fgR xs L fr n k) i).1) (srt (cev xs L (fr + 6 + 3 * k + i)))) x9))) := ((congrFun eg_27 _).trans (va_up_ne _ _ (by omega))).trans hiso_26
                          have hib_27 : g_27 ib = .inl (cy 1, 1, .inl (fun x9 => nI (BB x9))) := ((congrFun eg_27 _).trans (va_up_ne _ _ (by omega))).trans hib_26
                          have hfr_27 : ∀ j : Nat, j ≠ it → j ≠ iso → j ≠ inu → g_27 j = g j := fun j n0 n1 n2 => ((congrFun eg_27 _).trans (va_up_ne _ _ n2)).trans (hfr_26 j n0 n1 n2)
                          refine lv_iinc (v := nI (((inR (fun x9 => cev xs L (fr + 6 + 3 * k + x9)) n (fgR xs L fr n k) i).1) + 1)) (lv' := [(9, .int (nI (((inR (fun x9 => cev xs L (fr + 6 + 3 * k + x9)) n (fgR xs L fr n k) i).1) + 1))), (8, .int (nI (len2 + 1))), (19, .int (nI (nub (cev xs L (fr + 6 + 3 * k + i)) n (srt (cev xs L (fr + 6 + 3 * k + i)))))), (18, .int (nI (srt (cev xs L (fr + 6 + 3 * k + i))))), (17, .int (cev xs L (fr + 6 + 3 * k + i))), (16, .int (nI (i))), (15, .int (nI ((fgR xs L fr n k).1))), (14, .int (nI (tms9 (cev xs L (fr + 1 + k))))), (13, .int (nI (inn9 (cev xs L (fr + 1 + k))))), (12, .int (cev xs L (fr + 1 + k))), (11, .int (nI (k))), (10, .int (nI (fgI xs L fr))), (0, .ref b), (1, .int (nI (fr))), (2, .int (nI (n))), (3, .ref (ad it)), (4, .ref (ad iso)), (5, .ref (ad inu)), (6, .ref (ad ib)), (7, .int (nI (0)))]) hx hb dL_figure_299 hl (k := 11) rfl (by exact nI_add ((inR (fun x9 => cev xs L (fr + 6 + 3 * k + x9)) n (fgR xs L fr n k) i).1) 1) (by decide) rfl (fun ls hl => ?_)
                          refine lv_iinc (v := nI (i + 1)) (lv' := [(16, .int (nI (i + 1))), (9, .int (nI (((inR (fun x9 => cev xs L (fr + 6 + 3 * k + x9)) n (fgR xs L fr n k) i).1) + 1))), (8, .int (nI (len2 + 1))), (19, .int (nI (nub (cev xs L (fr + 6 + 3 * k + i)) n (srt (cev xs L (fr + 6 + 3 * k + i)))))), (18, .int (nI (srt (cev xs L (fr + 6 + 3 * k + i))))), (17, .int (cev xs L (fr + 6 + 3 * k + i))), (15, .int (nI ((fgR xs L fr n k).1))), (14, .int (nI (tms9 (cev xs L (fr + 1 + k))))), (13, .int (nI (inn9 (cev xs L (fr + 1 + k))))), (12, .int (cev xs L (fr + 1 + k))), (11, .int (nI (k))), (10, .int (nI (fgI xs L fr))), (0, .ref b), (1, .int (nI (fr))), (2, .int (nI (n))), (3, .ref (ad it)), (4, .ref (ad iso)), (5, .ref (ad inu)), (6, .ref (ad ib)), (7, .int (nI (0)))]) hx hb dL_figure_302 hl (k := 5) rfl (by exact nI_add i 1) (by decide) rfl (fun ls hl => ?_)
                          refine lv_goto (tgt := 130) hx hb dL_figure_305 (by decide) ?_
                          exact ih130 (i + 1) (len2 + 1) (va_up T3 len2 46) (by omega) (by omega) (by first | exact up128 h1282 (by decide) | exact up128 (up128 (up128 h1282 (ltr_x (by omega)).2.2.2) (by have := nub_lt (y := cev xs L (fr + 6 + 3 * k + i)) (n := n) (s := srt (cev xs L (fr + 6 + 3 * k + i))) (by omega); omega)) (by decide)) (by obtain ⟨em, he, h⟩ := htx2; first | exact ⟨0, fun _ => rfl, tx_dot h c_237 (by omega)⟩ | exact ⟨0, fun _ => rfl, tx_act h (by omega) hn.2 c_237 (by omega)⟩) (by omega) g_27 _ _ hit_27 hiso_27 hinu_27 hfr_27 hP hS _ (lv_sub hl [0, 6, 2, 7, 8, 9, 10, 11, 1, 12, 13, 14, 15, 16, 17, 18, 19] rfl)
                      refine lv_icmp_ne (tgt := 222) hx hb dL_figure_215 (by decide) (fun c_215 => ?_) (fun c_215 => ?_)
                      · skip
                        have c_215 := (not_congr (nI_eq (by omega) (by omega))).mp c_215
                        refine lv_iload hx hb dL_figure_222 (lv_at hl 1 rfl) ?_
                        refine lv_bipush (v := nI (7)) hx hb dL_figure_224 (by decide) ?_
                        refine lv_ishr hx hb dL_figure_226 ?_
                        refine lv_iload_n hx hb dL_figure_227 rfl (lv_at hl 13 rfl) ?_
                        refine kSi (As := [.int ((cev xs L (fr + 6 + 3 * k + i)) >>> ((nI (7)) &&& 31)), .int (nI (n))]) (rest := []) S hK hP (c_L_part l D cy ad N g_15 ((cev xs L (fr + 6 + 3 * k + i)) >>> ((nI (7)) &&& 31)) n ⟨by omega, by omega⟩) cs_L_29 ⟨rfl, rfl⟩ rfl hl.1 rfl (Nat.le_of_ble_eq_true rfl) ⟨Nat.zero_le _, Nat.zero_le _⟩ dL_figure_228 (fun r_228 q_228 => ?_)
                        subst q_228
                        refine tpi (y := nI (nub (cev xs L (fr + 6 + 3 * k + i)) n (srt (cev xs L (fr + 6 + 3 * k + i))))) (congrArg nI (if_neg c_215).symm) ?_
                        exact J231  _ (lv_sub hl [0, 1, 2, 3, 4, 5, 6, 7, 8, 9, 10, 11, 12, 13, 14, 15, 16, 17, 18] rfl)
                      · skip
                        have c_215 := (nI_eq (by omega) (by omega)).mp c_215
                        refine lv_iconst (v := nI (0)) hx hb dL_figure_218 (by decide) ?_
                        refine tpi (y := nI (nub (cev xs L (fr + 6 + 3 * k + i)) n (srt (cev xs L (fr + 6 + 3 * k + i))))) (congrArg nI (if_pos c_215).symm) ?_
                        refine lv_goto (tgt := 231) hx hb dL_figure_219 (by decide) ?_
                        exact J231  _ (lv_sub hl [0, 1, 2, 3, 4, 5, 6, 7, 8, 9, 10, 11, 12, 13, 14, 15, 16, 17, 18] rfl)
                    refine lv_if_ne (tgt := 170) hx hb dL_figure_162 (by decide) (fun c_162 => ?_) (fun c_162 => ?_)
                    · skip
                      have c_162 := (not_congr (z_eq (by omega))).mp c_162
                      refine lv_iload hx hb dL_figure_170 (lv_at hl 0 rfl) ?_
                      refine lv_iconst (v := nI (4)) hx hb dL_figure_172 (by decide) ?_
                      refine kSi (As := [.int (cev xs L (fr + 6 + 3 * k + i)), .int (nI (4))]) (rest := []) S hK hP (c_L_part l D cy ad N g_15 (cev xs L (fr + 6 + 3 * k + i)) 4 ⟨by omega, by omega⟩) cs_L_29 ⟨rfl, rfl⟩ rfl hl.1 rfl (Nat.le_of_ble_eq_true rfl) ⟨Nat.zero_le _, Nat.zero_le _⟩ dL_figure_173 (fun r_173 q_173 => ?_)
                      subst q_173
                      have hp173 := ptv_lt (cev xs L (fr + 6 + 3 * k + i)) (n := 4) (by decide)
                      refine lv_if_ne (tgt := 201) hx hb dL_figure_176 (by decide) (fun c_176 => ?_) (fun c_176 => ?_)
                      · skip
                        have c_176 := (not_congr (z_eq (by omega))).mp c_176
                        refine lv_iload hx hb dL_figure_201 (lv_at hl 0 rfl) ?_
                        refine lv_iconst (v := nI (5)) hx hb dL_figure_203 (by decide) ?_
                        refine lv_ishr hx hb dL_figure_204 ?_
                        refine lv_iconst (v := nI (2)) hx hb dL_figure_205 (by decide) ?_
                        refine kSi (As := [.int ((cev xs L (fr + 6 + 3 * k + i)) >>> ((nI (5)) &&& 31)), .int (nI (2))]) (rest := []) S hK hP (c_L_part l D cy ad N g_15 ((cev xs L (fr + 6 + 3 * k + i)) >>> ((nI (5)) &&& 31)) 2 ⟨by omega, by omega⟩) cs_L_29 ⟨rfl, rfl⟩ rfl hl.1 rfl (Nat.le_of_ble_eq_true rfl) ⟨Nat.zero_le _, Nat.zero_le _⟩ dL_figure_206 (fun r_206 q_206 => ?_)
                        subst q_206
                        refine tpi (y := nI (srt (cev xs L (fr + 6 + 3 * k + i)))) (congrArg nI ((if_neg c_162).trans (if_neg c_176)).symm) ?_
                        exact J209  _ (lv_sub hl [0, 1, 2, 3, 4, 5, 6, 7, 8, 9, 10, 11, 12, 13, 14, 15, 16, 17] rfl)
                      · skip
                        have c_176 := (z_eq (by omega)).mp c_176
                        refine lv_iconst (v := nI (2)) hx hb dL_figure_179 (by decide) ?_
                        refine lv_iload hx hb dL_figure_180 (lv_at hl 0 rfl) ?_
                        refine lv_iconst (v := nI (3)) hx hb dL_figure_182 (by decide) ?_
                        refine lv_ishr hx hb dL_figure_183 ?_
                        refine lv_iload hx hb dL_figure_184 (lv_at hl 17 rfl) ?_
                        refine lv_if_eq (tgt := 193) hx hb dL_figure_186 (by decide) (fun c_186 => ?_) (fun c_186 => ?_)
                        · skip
                          have c_186 := (z_eq (by omega)).mp c_186
                          refine lv_iconst (v := nI (2)) hx hb dL_figure_193 (by decide) ?_
                          refine kSi (As := [.int ((cev xs L (fr + 6 + 3 * k + i)) >>> ((nI (3)) &&& 31)), .int (nI (2))]) (rest := [.int (nI (2))]) S hK hP (c_L_part l D cy ad N g_15 ((cev xs L (fr + 6 + 3 * k + i)) >>> ((nI (3)) &&& 31)) 2 ⟨by omega, by omega⟩) cs_L_29 ⟨rfl, rfl⟩ rfl hl.1 rfl (Nat.le_of_ble_eq_true rfl) ⟨Nat.zero_le _, Nat.zero_le _⟩ dL_figure_194 (fun r_194 q_194 => ?_)
                          subst q_194
                          refine lv_iadd hx hb dL_figure_197 ?_
                          refine tpi (nI_add 2 (ptv ((cev xs L (fr + 6 + 3 * k + i)) >>> ((nI (3)) &&& 31)) 2)) ?_
                          refine tpi (y := nI (srt (cev xs L (fr + 6 + 3 * k + i)))) (congrArg nI ((if_neg c_162).trans (if_pos c_176)).symm) ?_
                          refine lv_goto (tgt := 209) hx hb dL_figure_198 (by decide) ?_
                          exact J209  _ (lv_sub hl [0, 1, 2, 3, 4, 5, 6, 7, 8, 9, 10, 11, 12, 13, 14, 15, 16, 17] rfl)
                        · skip
                          have c_186 := (not_congr (z_eq (by omega))).mp c_186
                          exact absurd c_186 (by decide)
                    · skip
                      have c_162 := (z_eq (by omega)).mp c_162
                      refine lv_bipush (v := nI (6)) hx hb dL_figure_165 (by decide) ?_
                      refine tpi (y := nI (srt (cev xs L (fr + 6 + 3 * k + i)))) (congrArg nI (if_pos c_162).symm) ?_
                      refine lv_goto (tgt := 209) hx hb dL_figure_167 (by decide) ?_
                      exact J209  _ (lv_sub hl [0, 1, 2, 3, 4, 5, 6, 7, 8, 9, 10, 11, 12, 13, 14, 15, 16, 17] rfl)
              exact L130 ((inn9 (cev xs L (fr + 1 + k)) - 0) + 1) 0 ((len + 1) + 1) (va_up (va_up T2 len (48 + (tms9 (cev xs L (fr + 1 + k))))) (len + 1) 40) (by omega) (by omega) (by first | exact h128 | exact up128 (up128 h128 (by omega)) (by decide)) (by obtain ⟨em, he, h⟩ := htx; first | (rw [if_pos c_99]; exact ⟨em, fun q => absurd q (Nat.lt_irrefl _), TXP_f h⟩) | (rw [if_neg c_99]; exact ⟨1, fun q => absurd q (Nat.lt_irrefl _), tx_open h (by omega) (by omega)⟩)) (Nat.lt_succ_self _) g_14 _ _ hit_14 hiso_14 hinu_14 hfr_14 hP hS _ (lv_sub hl [0, 1, 2, 3, 4, 5, 6, 7, 8, 9, 10, 11, 12, 13, 14, 15, 16] rfl)
          refine lv_icmp_gt (tgt := 81) hx hb dL_figure_69 (by decide) (fun c_69 => ?_) (fun c_69 => ?_)
          · skip
            have c_69 := (nI_ltI (by omega) (by omega)).mp c_69
            refine lv_iconst (v := nI (1)) hx hb dL_figure_81 (by decide) ?_
            refine lv_iload hx hb dL_figure_82 (lv_at hl 1 rfl) ?_
            refine lv_iconst (v := nI (5)) hx hb dL_figure_84 (by decide) ?_
            refine lv_ishr hx hb dL_figure_85 ?_
            refine lv_iconst (v := nI (3)) hx hb dL_figure_86 (by decide) ?_
            refine kSi (As := [.int ((cev xs L (fr + 1 + k)) >>> ((nI (5)) &&& 31)), .int (nI (3))]) (rest := [.int (nI (1))]) S hK hP (c_L_part l D cy ad N g_1 ((cev xs L (fr + 1 + k)) >>> ((nI (5)) &&& 31)) 3 ⟨by omega, by omega⟩) cs_L_29 ⟨rfl, rfl⟩ rfl hl.1 rfl (Nat.le_of_ble_eq_true rfl) ⟨Nat.zero_le _, Nat.zero_le _⟩ dL_figure_87 (fun r_87 q_87 => ?_)
            subst q_87
            refine lv_iadd hx hb dL_figure_90 ?_
            refine tpi (nI_add 1 (ptv ((cev xs L (fr + 1 + k)) >>> ((nI (5)) &&& 31)) 3)) ?_
            refine tpi (y := nI (tms9 (cev xs L (fr + 1 + k)))) (congrArg nI (if_pos (c := 1 < inn9 (cev xs L (fr + 1 + k)) ∨ ptv (cev xs L (fr + 1 + k)) 4 = 0) (by first | exact Or.inl c_69 | exact Or.inr c_78)).symm) ?_
            refine lv_goto (tgt := 95) hx hb dL_figure_91 (by decide) ?_
            exact J95  _ (lv_sub hl [0, 1, 2, 3, 4, 5, 6, 7, 8, 9, 10, 11, 12, 13] rfl)
          · skip
            have c_69 := (not_congr (nI_ltI (by omega) (by omega))).mp c_69
            refine lv_iload hx hb dL_figure_72 (lv_at hl 1 rfl) ?_
            refine lv_iconst (v := nI (4)) hx hb dL_figure_74 (by decide) ?_
            refine kSi (As := [.int (cev xs L (fr + 1 + k)), .int (nI (4))]) (rest := []) S hK hP (c_L_part l D cy ad N g_1 (cev xs L (fr + 1 + k)) 4 ⟨by omega, by omega⟩) cs_L_29 ⟨rfl, rfl⟩ rfl hl.1 rfl (Nat.le_of_ble_eq_true rfl) ⟨Nat.zero_le _, Nat.zero_le _⟩ dL_figure_75 (fun r_75 q_75 => ?_)
            subst q_75
            have hp75 := ptv_lt (cev xs L (fr + 1 + k)) (n := 4) (by decide)
            refine lv_if_ne (tgt := 94) hx hb dL_figure_78 (by decide) (fun c_78 => ?_) (fun c_78 => ?_)
            · skip
              have c_78 := (not_congr (z_eq (by omega))).mp c_78
              refine lv_iconst (v := nI (0)) hx hb dL_figure_94 (by decide) ?_
              refine tpi (y := nI (tms9 (cev xs L (fr + 1 + k)))) (congrArg nI (if_neg (c := 1 < inn9 (cev xs L (fr + 1 + k)) ∨ ptv (cev xs L (fr + 1 + k)) 4 = 0) (fun z => z.elim c_69 c_78)).symm) ?_
              exact J95  _ (lv_sub hl [0, 1, 2, 3, 4, 5, 6, 7, 8, 9, 10, 11, 12, 13] rfl)
            · skip
              have c_78 := (z_eq (by omega)).mp c_78
              refine lv_iconst (v := nI (1)) hx hb dL_figure_81 (by decide) ?_
              refine lv_iload hx hb dL_figure_82 (lv_at hl 1 rfl) ?_
              refine lv_iconst (v := nI (5)) hx hb dL_figure_84 (by decide) ?_
              refine lv_ishr hx hb dL_figure_85 ?_
              refine lv_iconst (v := nI (3)) hx hb dL_figure_86 (by decide) ?_
              refine kSi (As := [.int ((cev xs L (fr + 1 + k)) >>> ((nI (5)) &&& 31)), .int (nI (3))]) (rest := [.int (nI (1))]) S hK hP (c_L_part l D cy ad N g_1 ((cev xs L (fr + 1 + k)) >>> ((nI (5)) &&& 31)) 3 ⟨by omega, by omega⟩) cs_L_29 ⟨rfl, rfl⟩ rfl hl.1 rfl (Nat.le_of_ble_eq_true rfl) ⟨Nat.zero_le _, Nat.zero_le _⟩ dL_figure_87 (fun r_87 q_87 => ?_)
              subst q_87
              refine lv_iadd hx hb dL_figure_90 ?_
              refine tpi (nI_add 1 (ptv ((cev xs L (fr + 1 + k)) >>> ((nI (5)) &&& 31)) 3)) ?_
              refine tpi (y := nI (tms9 (cev xs L (fr + 1 + k)))) (congrArg nI (if_pos (c := 1 < inn9 (cev xs L (fr + 1 + k)) ∨ ptv (cev xs L (fr + 1 + k)) 4 = 0) (by first | exact Or.inl c_69 | exact Or.inr c_78)).symm) ?_
              refine lv_goto (tgt := 95) hx hb dL_figure_91 (by decide) ?_
              exact J95  _ (lv_sub hl [0, 1, 2, 3, 4, 5, 6, 7, 8, 9, 10, 11, 12, 13] rfl)
        refine lv_if_ne (tgt := 63) hx hb dL_figure_47 (by decide) (fun c_47 => ?_) (fun c_47 => ?_)
        · skip
          have c_47 := (not_congr (z_eq (by omega))).mp c_47
          refine lv_iconst (v := nI (1)) hx hb dL_figure_63 (by decide) ?_
          refine tpi (y := nI (inn9 (cev xs L (fr + 1 + k)))) (congrArg nI (if_neg c_47).symm) ?_
          exact J64  _ (lv_sub hl [0, 1, 2, 3, 4, 5, 6, 7, 8, 9, 10, 11, 12] rfl)
        · skip
          have c_47 := (z_eq (by omega)).mp c_47
          refine lv_iconst (v := nI (1)) hx hb dL_figure_50 (by decide) ?_
          refine lv_iload hx hb dL_figure_51 (lv_at hl 0 rfl) ?_
          refine lv_iconst (v := nI (3)) hx hb dL_figure_53 (by decide) ?_
          refine lv_ishr hx hb dL_figure_54 ?_
          refine lv_iconst (v := nI (3)) hx hb dL_figure_55 (by decide) ?_
          refine kSi (As := [.int ((cev xs L (fr + 1 + k)) >>> ((nI (3)) &&& 31)), .int (nI (3))]) (rest := [.int (nI (1))]) S hK hP (c_L_part l D cy ad N g_1 ((cev xs L (fr + 1 + k)) >>> ((nI (3)) &&& 31)) 3 ⟨by omega, by omega⟩) cs_L_29 ⟨rfl, rfl⟩ rfl hl.1 rfl (Nat.le_of_ble_eq_true rfl) ⟨Nat.zero_le _, Nat.zero_le _⟩ dL_figure_56 (fun r_56 q_56 => ?_)
          subst q_56
          refine lv_iadd hx hb dL_figure_59 ?_
          refine tpi (nI_add 1 (ptv ((cev xs L (fr + 1 + k)) >>> ((nI (3)) &&& 31)) 3)) ?_
          refine tpi (y := nI (inn9 (cev xs L (fr + 1 + k)))) (congrArg nI (if_pos c_47).symm) ?_
          refine lv_goto (tgt := 64) hx hb dL_figure_60 (by decide) ?_
          exact J64  _ (lv_sub hl [0, 1, 2, 3, 4, 5, 6, 7, 8, 9, 10, 11, 12] rfl)
  exact L22 ((fgI xs L fr - 0) + 1) 0 0 T (by omega) (by omega) (fun j q => absurd q (Nat.not_lt_zero _)) ⟨1, fun q => absurd q (Nat.lt_irrefl _), TXP_0⟩ (Nat.lt_succ_self _) g _ _ ht hso hnu (fun j n0 n1 n2 => hfr j ) hP hS _ (lv_sub hl [0, 1, 2, 3, 4, 5, 6, 7, 8, 9, 10, 11] rfl)

def pfu (b0 N i : Nat) : Nat → Option Nat := fun j => if j < i then some (bd b0 (N + 2 + j)) else none
theorem pfu_s {b0 N i : Nat} : va_up (pfu b0 N i) i (some (bd b0 (N + 2 + i))) = pfu b0 N (i + 1) := by
  funext j
  unfold va_up pfu
  by_cases h : j = i
  · subst h; rw [if_pos rfl, if_pos (by omega)]
  · rw [if_neg h]
    by_cases h2 : j < i
    · rw [if_pos h2, if_pos (by omega)]
    · rw [if_neg h2, if_neg (by omega)]
theorem pfu_0 {b0 N : Nat} : (fun _ => none) = pfu b0 N 0 := by
  funext j
  unfold pfu
  rw [if_neg (by omega)]
set_option maxHeartbeats 4000000 in
set_option maxRecDepth 100000 in
theorem c_X1_init (l : Launch) (D : va_G) (cy : Nat → ClassId) (b0 N : Nat) (g : Nat → va_E) (k : Nat) (hk : k < N) (hg : g k = .inr (1, [.null, .null, .int (nI 0), .int (nI 0), .int (nI 0)])) : Met l yX1_init (WS yX1_init cX1_init 2 none) (rmG 3 15 83 61) (PG [.ref (bd b0 k)] D cy b0 N g) (QG (fun g1 => g1 k = .inr (1, [.ref (bd b0 N), .ref (bd b0 (N + 1)), .int (nI 0), .int (nI 0), .int (nI 0)]) ∧ g1 N = .inr (8, [.int (nI 5), .long (lN (sea (fun p => p) 5)), .int (nI (2 ^ 5 - 1)), .int (nI (2 ^ 5 - 1)), .long (lN 0)]) ∧ g1 (N + 1) = .inl (cy 6, 13, .inr (.inr (.inr (.inr (pfu b0 N 13))))) ∧ (∀ j, j < 13 → g1 (N + 2 + j) = .inr (8, [.int (nI 5), .long (lN (sea (fun p => p) 5)), .int (nI (2 ^ 5 - 1)), .int (nI (2 ^ 5 - 1)), .long (lN 0)])) ∧ ∀ j, j < N → j ≠ k → g1 j = g j) D b0 (N + 15)) 15 83 (AB b0) := by
  refine gentry (by decide) (Nat.le_of_ble_eq_true rfl) (fun p e s m below meth c ls S hr hlk hnm hz0 hP hK hN hl => ?_)
  have S : CallFix p m c cX1_init 2 s _ wsL_law RX1 := S
  have hx := S.1
  have hb := S.2.1
  have hl : lv_has ls 2 [(0, .ref (bd b0 k))] := hl
  have hS : va_S (AB b0) s.heap s.heap [] := va_S.rf
  have hA : ∀ q, s.heap.size ≤ q → AB b0 q := fun q h => by show b0 ≤ q; omega
  have hfr : ∀ j : Nat, j < N → j ≠ k → g j = g j := fun _ _ _ => rfl
  refine lv_aload_n hx hb dX1_init_0 rfl (lv_at hl 0 rfl) ?_
  refine W.objInit hx hb S.2.2.2.1 (S.2.2.2.2 _ m_X1_3) (S.2.2.2.2 _ mi_objectInit) (S.2.2.2.2 _ mc_objectInit) rfl (hl.1.trans S.2.2.1.symm) rfl dX1_init_1 (Nat.le_of_ble_eq_true rfl) (Nat.le_of_ble_eq_true rfl) ?_
  refine W.eq (g2 := F0 m 4 ls []) rfl ?_
  refine lv_aload_n hx hb dX1_init_4 rfl (lv_at hl 0 rfl) ?_
  refine W_hz hz0 hP (by omega) (by omega) (fun hz => ?_)
  refine gnew (ci := 8) (NF := 5) (C := RX8) (T := TX8) (ty := tyX8) (fs := [.int (nI 0), .long (lN 0), .int (nI 0), .int (nI 0), .long (lN 0)]) S hK hP bd_MD hS hA hz.symm rfl inlX8 tyX8_ok m_X1_9 mj_RX8 mn_RX8 (fun j hj => by rcases (show j = 0 ∨ j = 1 ∨ j = 2 ∨ j = 3 ∨ j = 4 by omega) with rfl | rfl | rfl | rfl | rfl <;> rfl) (Nat.le_of_ble_eq_true rfl) (Nat.le_of_ble_eq_true rfl) dX1_init_5 (fun g_1 H eg_1 hP _ hS _ => ?_)
  have hk_1 : g_1 k = .inr (1, [.null, .null, .int (nI 0), .int (nI 0), .int (nI 0)]) := ((congrFun eg_1 _).trans (va_up_ne _ _ (nkl hk 0))).trans hg
  have hN_1 : g_1 N = .inr (8, [.int (nI 0), .long (lN 0), .int (nI 0), .int (nI 0), .long (lN 0)]) := by (rw [eg_1, va_up_self]) <;> exact rfl
  have hfr_1 : ∀ j : Nat, j < N → j ≠ k → g_1 j = g j := fun j a b => ((congrFun eg_1 _).trans (va_up_ne _ _ (nkl a 0))).trans (hfr j a b)
  refine lv_dup hx hb dX1_init_8 rfl ?_
  refine W_hz hz0 hP (by omega) (by omega) (fun hz => ?_)
  refine kGI (As := []) (rest := [.ref (bd b0 N), .ref (bd b0 k)]) S hK hN hz hP hS (c_X8_init l D cy b0 (N + 1) g_1 N (by omega) hN_1) ci_X1_11 ⟨rfl, rfl⟩ rfl hl.1 rfl (Nat.le_of_ble_eq_true rfl) ⟨Nat.le_of_ble_eq_true rfl, Nat.le_of_ble_eq_true rfl⟩ dX1_init_9 (fun g_2 H locs q_2 _ hP hS => ?_)
  obtain ⟨x0_2, f_2⟩ := q_2
  have hk_2 : g_2 k = .inr (1, [.null, .null, .int (nI 0), .int (nI 0), .int (nI 0)]) := (f_2 k (lkn hk 1) (nkl hk 0)).trans hk_1
  have hN_2 : g_2 N = .inr (8, [.int (nI 5), .long (lN (sea (fun p => p) 5)), .int (nI (2 ^ 5 - 1)), .int (nI (2 ^ 5 - 1)), .long (lN 0)]) := x0_2
  have hfr_2 : ∀ j : Nat, j < N → j ≠ k → g_2 j = g j := fun j a b => (f_2 j (lkn a 1) (nkl a 0)).trans (hfr_1 j a b)
  refine mpF S hnm hK hP bd_MD hS (by omega) hk_2 fd_X1_12 (fun r z => by cases z; rfl) rfl rfl (Nat.le_of_ble_eq_true rfl) dX1_init_12 (fun g_3 H locs eg_3 hP hS => ?_)
  have hk_3 : g_3 k = .inr (1, [.ref (bd b0 N), .null, .int (nI 0), .int (nI 0), .int (nI 0)]) := by (rw [eg_3, va_up_self]) <;> exact rfl
  have hN_3 : g_3 N = .inr (8, [.int (nI 5), .long (lN (sea (fun p => p) 5)), .int (nI (2 ^ 5 - 1)), .int (nI (2 ^ 5 - 1)), .long (lN 0)]) := ((congrFun eg_3 _).trans (va_up_ne _ _ (nkr hk 0))).trans hN_2
  have hfr_3 : ∀ j : Nat, j < N → j ≠ k → g_3 j = g j := fun j a b => ((congrFun eg_3 _).trans (va_up_ne _ _ b)).trans (hfr_2 j a b)
  refine lv_aload_n hx hb dX1_init_15 rfl (lv_at hl 0 rfl) ?_
  refine lv_bipush (v := nI 13) hx hb dX1_init_16 (by decide) ?_
  refine W_hz hz0 hP (by omega) (by omega) (fun hz => ?_)
  refine gnewq (t := 6) (n0 := 13) (C := RX8) S hK hP bd_MD hS hA hz.symm m_X1_9 (hN.2 RX8 (by simp)) rfl (by decide) (by decide) (Nat.le_of_ble_eq_true rfl) (Nat.le_of_ble_eq_true rfl) (Nat.le_of_ble_eq_true rfl) dX1_init_18 (fun g_4 H eg_4 hP _ hS _ => ?_)
  have hk_4 : g_4 k = .inr (1, [.ref (bd b0 N), .null, .int (nI 0), .int (nI 0), .int (nI 0)]) := ((congrFun eg_4 _).trans (va_up_ne _ _ (nkl hk 1))).trans hk_3
  have hN_4 : g_4 N = .inr (8, [.int (nI 5), .long (lN (sea (fun p => p) 5)), .int (nI (2 ^ 5 - 1)), .int (nI (2 ^ 5 - 1)), .long (lN 0)]) := ((congrFun eg_4 _).trans (va_up_ne _ _ (nab 0 1 rfl))).trans hN_3
  have hN___1_4 : g_4 (N + 1) = .inl (cy 6, 13, .inr (.inr (.inr (.inr (fun _ => none))))) := by (rw [eg_4, va_up_self]) <;> exact rfl
  have hfr_4 : ∀ j : Nat, j < N → j ≠ k → g_4 j = g j := fun j a b => ((congrFun eg_4 _).trans (va_up_ne _ _ (nkl a 1))).trans (hfr_3 j a b)
  refine mpF S hnm hK hP bd_MD hS (by omega) hk_4 fd_X1_18 (fun r z => by cases z; rfl) rfl rfl (Nat.le_of_ble_eq_true rfl) dX1_init_21 (fun g_5 H locs eg_5 hP hS => ?_)
  have hk_5 : g_5 k = .inr (1, [.ref (bd b0 N), .ref (bd b0 (N + 1)), .int (nI 0), .int (nI 0), .int (nI 0)]) := by (rw [eg_5, va_up_self]) <;> exact rfl
  have hN_5 : g_5 N = .inr (8, [.int (nI 5), .long (lN (sea (fun p => p) 5)), .int (nI (2 ^ 5 - 1)), .int (nI (2 ^ 5 - 1)), .long (lN 0)]) := ((congrFun eg_5 _).trans (va_up_ne _ _ (nkr hk 0))).trans hN_4
  have hN___1_5 : g_5 (N + 1) = .inl (cy 6, 13, .inr (.inr (.inr (.inr (fun _ => none))))) := ((congrFun eg_5 _).trans (va_up_ne _ _ (nkr hk 1))).trans hN___1_4
  have hfr_5 : ∀ j : Nat, j < N → j ≠ k → g_5 j = g j := fun j a b => ((congrFun eg_5 _).trans (va_up_ne _ _ b)).trans (hfr_4 j a b)
  refine lv_iconst (v := nI 0) hx hb dX1_init_24 (by decide) ?_
  refine lv_istore_n (lv' := [(1, .int (nI 0)), (0, .ref (bd b0 k))]) hx hb dX1_init_25 rfl hl (by decide) rfl (fun ls hl => ?_)
  have L26 : ∀ (fu i : Nat), i ≤ 13 → 13 - i < fu → ∀ (h : Nat → va_E) (H : Heap) (locs : List Loc), h k = .inr (1, [.ref (bd b0 N), .ref (bd b0 (N + 1)), .int (nI 0), .int (nI 0), .int (nI 0)]) → h N = .inr (8, [.int (nI 5), .long (lN (sea (fun p => p) 5)), .int (nI (2 ^ 5 - 1)), .int (nI (2 ^ 5 - 1)), .long (lN 0)]) → h (N + 1) = .inl (cy 6, 13, .inr (.inr (.inr (.inr (pfu b0 N i))))) → (∀ j, j < i → h (N + 2 + j) = .inr (8, [.int (nI 5), .long (lN (sea (fun p => p) 5)), .int (nI (2 ^ 5 - 1)), .int (nI (2 ^ 5 - 1)), .long (lN 0)])) → (∀ j, j < N → j ≠ k → h j = g j) → MM D (bd b0) (N + 2 + i) h H → va_S (AB b0) s.heap H locs → ∀ (ls : Array Slot), lv_has ls 2 [(1, .int (nI i)), (0, .ref (bd b0 k))] → W p l e (rmG 3 15 83 61) s m [.ref (bd b0 k)].toArray below meth c H locs (2 + i) (18 + 5 * i) (MQ below (QG (fun g1 => g1 k = .inr (1, [.ref (bd b0 N), .ref (bd b0 (N + 1)), .int (nI 0), .int (nI 0), .int (nI 0)]) ∧ g1 N = .inr (8, [.int (nI 5), .long (lN (sea (fun p => p) 5)), .int (nI (2 ^ 5 - 1)), .int (nI (2 ^ 5 - 1)), .long (lN 0)]) ∧ g1 (N + 1) = .inl (cy 6, 13, .inr (.inr (.inr (.inr (pfu b0 N 13))))) ∧ (∀ j, j < 13 → g1 (N + 2 + j) = .inr (8, [.int (nI 5), .long (lN (sea (fun p => p) 5)), .int (nI (2 ^ 5 - 1)), .int (nI (2 ^ 5 - 1)), .long (lN 0)])) ∧ ∀ j, j < N → j ≠ k → g1 j = g j) D b0 (N + 15)) [.ref (bd b0 k)].toArray s 15 83 (AB b0)) (F0 m 26 ls []) := by
    intro fu
    induction fu with
    | zero => intro i h1 h2; exact absurd h2 (Nat.not_lt_zero _)
    | succ fu ih =>
      intro i h1 h2 h H locs hk0 hn0 ha0 hw0 hf0 hP hS ls hl
      refine lv_iload_n hx hb dX1_init_26 rfl (lv_at hl 0 rfl) ?_
      refine lv_aload_n hx hb dX1_init_27 rfl (lv_at hl 1 rfl) ?_
      refine mg S hK hP (by omega) hk0 fd_X1_18 rfl dX1_init_28 ?_
      refine malen S hK hP (k := N + 1) (t := 6) (by omega) ha0 rfl (v := nI 13) rfl dX1_init_31 ?_
      refine lv_icmp_ge (tgt := 54) hx hb dX1_init_32 (by decide) (fun c_32 => ?_) (fun c_32 => ?_)
      · have e : i = 13 := by have := (nI_leI (by omega) (by omega)).mp c_32; omega
        subst e
        refine W_hz hz0 hP (by omega) (by omega) (fun hz => ?_)
        exact rGv S hr hlk hz hP hS ⟨hk0, hn0, ha0, hw0, hf0⟩ (Nat.le_of_ble_eq_true rfl) (Nat.le_of_ble_eq_true rfl) dX1_init_54
      · have hi : i < 13 := by
          rcases Nat.lt_or_ge i 13 with z | z
          · exact z
          · exact absurd ((nI_leI (by omega) (by omega)).mpr z) c_32
        refine lv_aload_n hx hb dX1_init_35 rfl (lv_at hl 1 rfl) ?_
        refine mg S hK hP (by omega) hk0 fd_X1_18 rfl dX1_init_36 ?_
        refine lv_iload_n hx hb dX1_init_39 rfl (lv_at hl 0 rfl) ?_
        refine W_hz hz0 hP (by omega) (by omega) (fun hz => ?_)
        refine gnew (ci := 8) (NF := 5) (C := RX8) (T := TX8) (ty := tyX8) (fs := [.int (nI 0), .long (lN 0), .int (nI 0), .int (nI 0), .long (lN 0)]) S hK hP bd_MD hS hA hz.symm rfl inlX8 tyX8_ok m_X1_9 mj_RX8 mn_RX8 (fun j hj => by rcases (show j = 0 ∨ j = 1 ∨ j = 2 ∨ j = 3 ∨ j = 4 by omega) with rfl | rfl | rfl | rfl | rfl <;> rfl) (show 2 + i + 1 ≤ 15 by omega) (show 18 + 5 * i + 5 ≤ 83 by omega) dX1_init_40 (fun h1 H eg1 hP _ hS _ => ?_)
        refine lv_dup hx hb dX1_init_43 rfl ?_
        refine W_hz hz0 hP (by omega) (by omega) (fun hz => ?_)
        refine kGI (As := []) (rest := [.ref (bd b0 (N + 2 + i)), .int (nI i), .ref (bd b0 (N + 1))]) S hK hN hz hP hS (c_X8_init l D cy b0 (N + 2 + i + 1) h1 (N + 2 + i) (by omega) (by rw [eg1, va_up_self])) ci_X1_11 ⟨rfl, rfl⟩ rfl hl.1 rfl (Nat.le_of_ble_eq_true rfl) ⟨show 2 + i + 1 + 0 ≤ 15 by omega, show 18 + 5 * i + 5 + 0 ≤ 83 by omega⟩ dX1_init_44 (fun h2 H locs q2 _ hP hS => ?_)
        obtain ⟨q2a, q2f⟩ := q2
        have hb2 : ∀ j, j < N + 2 + i → h2 j = h j := fun j hj => (q2f j (by omega) (by omega)).trans ((congrFun eg1 _).trans (va_up_ne _ _ (by omega)))
        refine gast (t := 6) (C := RX8) (T := TX8) (NF := 5) S hK hP bd_MD hS (k := N + 1) (kv := N + 2 + i) (by omega) ((hb2 (N + 1) (by omega)).trans ha0) rfl (by omega) q2a rfl (vp_in_nI (by omega) (by omega)) dX1_init_47 (fun h3 H locs eg3 hP hS => ?_)
        refine lv_iinc (v := nI (i + 1)) (lv' := [(1, .int (nI (i + 1))), (0, .ref (bd b0 k))]) hx hb dX1_init_48 hl (k := 0) rfl (by exact nI_add i 1) (by decide) rfl (fun ls hl => ?_)
        refine lv_goto (tgt := 26) hx hb dX1_init_51 (by decide) ?_
        have hb3 : ∀ j, j < N + 2 + i → j ≠ N + 1 → h3 j = h j := fun j hj hn => (congrFun eg3 _).trans ((va_up_ne _ _ hn).trans (hb2 j hj))
        refine W.widen (k := 2 + (i + 1)) (n := 18 + 5 * (i + 1)) (by omega) (by omega) ?_
        exact ih (i + 1) (by omega) (by omega) h3 H locs ((hb3 k (by omega) (by omega)).trans hk0) ((hb3 N (by omega) (by omega)).trans hn0) (by rw [eg3, va_up_self, nI_clamp (by omega), pfu_s]) (fun j hj => by
          by_cases e : j = i
          · subst e; exact (congrFun eg3 _).trans ((va_up_ne _ _ (by omega)).trans q2a)
          · exact (hb3 _ (by omega) (by omega)).trans (hw0 j (by omega))) (fun j a b => (hb3 j (by omega) (by omega)).trans (hf0 j a b)) hP hS ls hl
  refine W.widen (k := 2 + 0) (n := 18 + 5 * 0) (by omega) (by omega) ?_
  exact L26 14 0 (by omega) (by omega) g_5 H locs hk_5 hN_5 (by rw [hN___1_5, pfu_0 (b0 := b0) (N := N)]) (fun j hj => by omega) hfr_5 hP hS ls hl


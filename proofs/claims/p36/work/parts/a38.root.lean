/-- an array of new objects, the first i of them made: they lie st apart from nb on -/
def afu (b0 nb st i : Nat) : Nat → Option Nat := fun j => if j < i then some (bd b0 (nb + st * j)) else none
theorem afu_s {b0 nb st i : Nat} : va_up (afu b0 nb st i) i (some (bd b0 (nb + st * i))) = afu b0 nb st (i + 1) := by
  funext j
  unfold va_up afu
  by_cases h : j = i
  · subst h; rw [if_pos rfl, if_pos (by omega)]
  · rw [if_neg h]
    by_cases h2 : j < i
    · rw [if_pos h2, if_pos (by omega)]
    · rw [if_neg h2, if_neg (by omega)]
theorem afu_s1 {b0 nb i : Nat} : va_up (afu b0 nb 1 i) i (some (bd b0 (nb + i))) = afu b0 nb 1 (i + 1) := by
  have z := afu_s (b0 := b0) (nb := nb) (st := 1) (i := i)
  rw [Nat.one_mul] at z
  exact z
theorem afu_0 (b0 nb st : Nat) : (fun _ => none) = afu b0 nb st 0 := by
  funext j
  unfold afu
  rw [if_neg (by omega)]
theorem MM_n {D : va_G} {ad : Nat → Nat} {N N2 : Nat} {g : Nat → va_E} {H : Heap} (h : N = N2) (hP : MM D ad N g H) : MM D ad N2 g H := h ▸ hP
/-- the roots and their arrays of objects -/
def spA (j : Nat) : Bool := j == 0 || j == 34 || j == 52 || j == 53 || j == 75
theorem spA_ne {j k : Nat} (h : spA j = false) (h2 : spA k = true) : j ≠ k := fun e => by rw [e, h2] at h; cases h
theorem spA_in {j : Nat} (h : (0 < j ∧ j < 34) ∨ (34 < j ∧ j < 52) ∨ (53 < j ∧ j < 75) ∨ 75 < j) : spA j = false := by
  unfold spA
  simp only [Bool.or_eq_false_iff, beq_eq_false_iff_ne]
  omega
def spB (j : Nat) : Bool := j == 114
theorem spB_ne {j k : Nat} (h : spB j = false) (h2 : spB k = true) : j ≠ k := fun e => by rw [e, h2] at h; cases h
theorem spB_in {j : Nat} (h : j < 114 ∨ 114 < j) : spB j = false := by
  unfold spB
  rw [beq_eq_false_iff_ne]
  omega
def IX9 (b0 : Nat) (cy : Nat → ClassId) (g g1 : Nat → va_E) : Prop := g1 0 = .inr (9, [.ref (bd b0 1), .ref (bd b0 17), .ref (bd b0 33), .ref (bd b0 34), .int (nI 0), .ref (bd b0 35), .ref (bd b0 45), .ref (bd b0 47), .ref (bd b0 52), .int (nI 0), .int (nI 0), .int (nI 0), .ref (bd b0 53), .int (nI 0), .ref (bd b0 54), .ref (bd b0 75)]) ∧ g1 34 = .inl (cy 6, 6, .inr (.inr (.inr (.inr (afu b0 76 1 6))))) ∧ g1 52 = .inl (cy 3, 8, .inr (.inr (.inr (.inr (afu b0 82 2 8))))) ∧ g1 53 = .inl (cy 5, 4, .inr (.inr (.inr (.inr (afu b0 98 2 4))))) ∧ g1 75 = .inl (cy 4, 4, .inr (.inr (.inr (.inr (afu b0 106 2 4))))) ∧ g1 1 = .inr (1, [.ref (bd b0 2), .ref (bd b0 3), .int (nI 0), .int (nI 0), .int (nI 0)]) ∧ g1 2 = .inr (8, [.int (nI 5), .long (lN (sea (fun p => p) 5)), .int (nI (2 ^ 5 - 1)), .int (nI (2 ^ 5 - 1)), .long (lN 0)]) ∧ g1 3 = .inl (cy 6, 13, .inr (.inr (.inr (.inr (pfu b0 2 13))))) ∧ (∀ j, j < 13 → g1 (4 + j) = .inr (8, [.int (nI 5), .long (lN (sea (fun p => p) 5)), .int (nI (2 ^ 5 - 1)), .int (nI (2 ^ 5 - 1)), .long (lN 0)])) ∧ g1 17 = .inr (1, [.ref (bd b0 18), .ref (bd b0 19), .int (nI 0), .int (nI 0), .int (nI 0)]) ∧ g1 18 = .inr (8, [.int (nI 5), .long (lN (sea (fun p => p) 5)), .int (nI (2 ^ 5 - 1)), .int (nI (2 ^ 5 - 1)), .long (lN 0)]) ∧ g1 19 = .inl (cy 6, 13, .inr (.inr (.inr (.inr (pfu b0 18 13))))) ∧ (∀ j, j < 13 → g1 (20 + j) = .inr (8, [.int (nI 5), .long (lN (sea (fun p => p) 5)), .int (nI (2 ^ 5 - 1)), .int (nI (2 ^ 5 - 1)), .long (lN 0)])) ∧ g1 33 = .inr (8, [.int (nI 5), .long (lN (sea (fun p => p) 5)), .int (nI (2 ^ 5 - 1)), .int (nI (2 ^ 5 - 1)), .long (lN 0)]) ∧ g1 35 = .inr (2, [.ref (bd b0 36), .ref (bd b0 37), .ref (bd b0 38), .ref (bd b0 39), .ref (bd b0 40), .ref (bd b0 41), .ref (bd b0 42), .ref (bd b0 43), .ref (bd b0 44), .long (lN 0), .int (nI 0), .int (nI 0), .int (nI 0), .int (nI 0)]) ∧ g1 36 = .inl (cy 2, 1500, .inr (.inl (fun x9 => lN ((fun _ => 0) x9)))) ∧ g1 37 = .inl (cy 2, 1500, .inr (.inl (fun x9 => lN ((fun _ => 0) x9)))) ∧ g1 38 = .inl (cy 2, 1500, .inr (.inl (fun x9 => lN ((fun _ => 0) x9)))) ∧ g1 39 = .inl (cy 1, 1500, .inl (fun x9 => nI ((fun _ => 0) x9))) ∧ g1 40 = .inl (cy 1, 1500, .inl (fun x9 => nI ((fun _ => 0) x9))) ∧ g1 41 = .inl (cy 1, 4096, .inl (fun x9 => nI ((fun _ => 0) x9))) ∧ g1 42 = .inr (8, [.int (nI 5), .long (lN (sea (fun p => p) 5)), .int (nI (2 ^ 5 - 1)), .int (nI (2 ^ 5 - 1)), .long (lN 0)]) ∧ g1 43 = .inr (8, [.int (nI 5), .long (lN (sea (fun p => p) 5)), .int (nI (2 ^ 5 - 1)), .int (nI (2 ^ 5 - 1)), .long (lN 0)]) ∧ g1 44 = .inr (8, [.int (nI 5), .long (lN (sea (fun p => p) 5)), .int (nI (2 ^ 5 - 1)), .int (nI (2 ^ 5 - 1)), .long (lN 0)]) ∧ g1 45 = .inr (5, [.ref (bd b0 46), .int (nI 0), .int (nI 0), .int (nI 0), .int (nI 0), .int (nI 0)]) ∧ g1 46 = .inl (cy 0, 160, .inl (fun x9 => nI ((fun _ => 0) x9))) ∧ g1 47 = .inr (6, [.ref (bd b0 48), .ref (bd b0 50), .ref (bd b0 51), .int (nI 0), .int (nI 0), .int (nI 0), .int (nI 0), .int (nI 0), .int (nI 0), .int (nI 0), .int (nI 0)]) ∧ g1 48 = .inr (0, [.ref (bd b0 49), .int (nI 0)]) ∧ g1 49 = .inl (cy 0, 200, .inl (fun x9 => nI ((fun _ => 0) x9))) ∧ g1 50 = .inl (cy 1, 4, .inl (fun x9 => nI ((fun _ => 0) x9))) ∧ g1 51 = .inl (cy 1, 4, .inl (fun x9 => nI ((fun _ => 0) x9))) ∧ g1 54 = .inr (3, [.ref (bd b0 55), .ref (bd b0 73)]) ∧ g1 55 = .inl (cy 7, 17, .inr (.inr (.inr (.inr (mrw (bd b0 55) 17))))) ∧ g1 73 = .inr (7, [.ref (bd b0 74), .int (nI 0)]) ∧ g1 74 = .inl (cy 1, 16, .inl (fun x9 => nI ((fun _ => 0) x9))) ∧ (∀ j, j < 17 → g1 (56 + j) = .inl (cy 1, 17, .inl (fun x9 => nI ((fun _ => 0) x9)))) ∧ (∀ j, j < 6 → g1 (76 + j) = .inr (8, [.int (nI 5), .long (lN (sea (fun p => p) 5)), .int (nI (2 ^ 5 - 1)), .int (nI (2 ^ 5 - 1)), .long (lN 0)])) ∧ (∀ j, j < 8 → g1 (82 + 2 * j) = .inr (0, [.ref (bd b0 (82 + 2 * j + 1)), .int (nI 0)])) ∧ (∀ j, j < 8 → g1 (82 + 2 * j + 1) = .inl (cy 0, 200, .inl (fun x9 => nI ((fun _ => 0) x9)))) ∧ (∀ j, j < 4 → g1 (98 + 2 * j) = .inr (7, [.ref (bd b0 (98 + 2 * j + 1)), .int (nI 0)])) ∧ (∀ j, j < 4 → g1 (98 + 2 * j + 1) = .inl (cy 1, 16, .inl (fun x9 => nI ((fun _ => 0) x9)))) ∧ (∀ j, j < 4 → g1 (106 + 2 * j) = .inr (4, [.ref (bd b0 (106 + 2 * j + 1)), .int (-1), .int (nI 0)])) ∧ (∀ j, j < 4 → g1 (106 + 2 * j + 1) = .inl (cy 1, 60, .inl (fun x9 => nI ((fun _ => 0) x9)))) ∧ ∀ j, j < 1 → spA j = false → g1 j = g j
set_option maxHeartbeats 4000000 in
set_option maxRecDepth 100000 in
theorem c_X9_init (l : Launch) (D : va_G) (cy : Nat → ClassId) (b0 : Nat) (g : Nat → va_E) (hg : g 0 = .inr (9, [.null, .null, .null, .null, .int (nI 0), .null, .null, .null, .null, .int (nI 0), .int (nI 0), .int (nI 0), .null, .int (nI 0), .null, .null])) : Met l yX9_init (WS yX9_init cX9_init 2 none) (rmG 4 113 14511 82) (PG [.ref (bd b0 0)] D cy b0 1 g) (QG (IX9 b0 cy g) D b0 114) 113 14511 (AB b0) := by
  refine gentry (by decide) (Nat.le_of_ble_eq_true rfl) (fun p e s m below meth c ls S hr hlk hnm hz0 hP hK hN hl => ?_)
  have S : CallFix p m c cX9_init 2 s _ wsL_law RX9 := S
  have hx := S.1
  have hb := S.2.1
  have hl : lv_has ls 2 [(0, .ref (bd b0 0))] := hl
  have hS : va_S (AB b0) s.heap s.heap [] := va_S.rf
  have hA : ∀ q, s.heap.size ≤ q → AB b0 q := fun q h => by show b0 ≤ q; omega
  refine lv_aload_n hx hb dX9_init_0 rfl (lv_at hl 0 rfl) ?_
  refine W.objInit hx hb S.2.2.2.1 (S.2.2.2.2 _ m_X9_1) (S.2.2.2.2 _ mi_objectInit) (S.2.2.2.2 _ mc_objectInit) rfl (hl.1.trans S.2.2.1.symm) rfl dX9_init_1 (Nat.le_of_ble_eq_true rfl) (Nat.le_of_ble_eq_true rfl) ?_
  refine W.eq (g2 := F0 m 4 ls []) rfl ?_
  refine lv_aload_n hx hb dX9_init_4 rfl (lv_at hl 0 rfl) ?_
  refine W_hz (N0 := 1) hz0 hP (by omega) (by omega) (fun hz => ?_)
  refine gnew (ci := 1) (NF := 5) (C := RX1) (T := TX1) (ty := tyX1) (fs := [.null, .null, .int (nI 0), .int (nI 0), .int (nI 0)]) S hK hP bd_MD hS hA hz.symm rfl inlX1 tyX1_ok m_X9_7 mj_RX1 mn_RX1 (fun j hj => by rcases (show j = 0 ∨ j = 1 ∨ j = 2 ∨ j = 3 ∨ j = 4 by omega) with rfl | rfl | rfl | rfl | rfl <;> rfl) (Nat.le_of_ble_eq_true rfl) (Nat.le_of_ble_eq_true rfl) dX9_init_5 (fun g_1 H eg_1 hP _ hS _ => ?_)
  have hP : MM D (bd b0) 2 g_1 H := hP
  have hn_1 : g_1 1 = .inr (1, [.null, .null, .int (nI 0), .int (nI 0), .int (nI 0)]) := by (rw [eg_1, va_up_self])
  refine lv_dup hx hb dX9_init_8 rfl ?_
  refine W_hz (N0 := 1) hz0 hP (by omega) (by omega) (fun hz => ?_)
  refine kGI (As := []) (rest := [.ref (bd b0 1), .ref (bd b0 0)]) S hK hN hz hP hS (c_X1_init l D cy b0 2 g_1 1 (by omega) hn_1) ci_X9_9 ⟨rfl, rfl⟩ rfl hl.1 rfl (Nat.le_of_ble_eq_true rfl) ⟨Nat.le_of_ble_eq_true rfl, Nat.le_of_ble_eq_true rfl⟩ dX9_init_9 (fun g_2 H locs q_2 _ hP hS => ?_)
  have hP : MM D (bd b0) 17 g_2 H := hP
  obtain ⟨x0_2, x1_2, x2_2, y2_2, f_2⟩ := q_2
  have F_2 : ∀ j : Nat, j < 1 → g_2 j = g j := fun j a => (f_2 j (Nat.lt_of_lt_of_le a (Nat.le_of_ble_eq_true rfl)) (Nat.ne_of_lt a)).trans ((congrFun eg_1 _).trans (va_up_ne _ _ (Nat.ne_of_lt a)))
  have h1_2 : g_2 1 = .inr (1, [.ref (bd b0 2), .ref (bd b0 3), .int (nI 0), .int (nI 0), .int (nI 0)]) := x0_2
  have h2_2 : g_2 2 = .inr (8, [.int (nI 5), .long (lN (sea (fun p => p) 5)), .int (nI (2 ^ 5 - 1)), .int (nI (2 ^ 5 - 1)), .long (lN 0)]) := x1_2
  have h3_2 : g_2 3 = .inl (cy 6, 13, .inr (.inr (.inr (.inr (pfu b0 2 13))))) := x2_2
  have hF4_2 : ∀ j, j < 13 → g_2 (4 + j) = .inr (8, [.int (nI 5), .long (lN (sea (fun p => p) 5)), .int (nI (2 ^ 5 - 1)), .int (nI (2 ^ 5 - 1)), .long (lN 0)]) := y2_2
  have h0_2 : g_2 0 = .inr (9, [.null, .null, .null, .null, .int (nI 0), .null, .null, .null, .null, .int (nI 0), .int (nI 0), .int (nI 0), .null, .int (nI 0), .null, .null]) := (F_2 0 (by decide)).trans hg
  refine mpF S hnm hK hP bd_MD hS (by omega) h0_2 fd_X9_10 (fun r z => by cases z; rfl) rfl rfl (Nat.le_of_ble_eq_true rfl) dX9_init_12 (fun g_3 H locs eg_3 hP hS => ?_)
  have h0_3 : g_3 0 = .inr (9, [.ref (bd b0 1), .null, .null, .null, .int (nI 0), .null, .null, .null, .null, .int (nI 0), .int (nI 0), .int (nI 0), .null, .int (nI 0), .null, .null]) := by (rw [eg_3, va_up_self]) <;> exact rfl
  refine lv_aload_n hx hb dX9_init_15 rfl (lv_at hl 0 rfl) ?_
  refine W_hz (N0 := 1) hz0 hP (by omega) (by omega) (fun hz => ?_)
  refine gnew (ci := 1) (NF := 5) (C := RX1) (T := TX1) (ty := tyX1) (fs := [.null, .null, .int (nI 0), .int (nI 0), .int (nI 0)]) S hK hP bd_MD hS hA hz.symm rfl inlX1 tyX1_ok m_X9_7 mj_RX1 mn_RX1 (fun j hj => by rcases (show j = 0 ∨ j = 1 ∨ j = 2 ∨ j = 3 ∨ j = 4 by omega) with rfl | rfl | rfl | rfl | rfl <;> rfl) (Nat.le_of_ble_eq_true rfl) (Nat.le_of_ble_eq_true rfl) dX9_init_16 (fun g_4 H eg_4 hP _ hS _ => ?_)
  have hP : MM D (bd b0) 18 g_4 H := hP
  have hn_4 : g_4 17 = .inr (1, [.null, .null, .int (nI 0), .int (nI 0), .int (nI 0)]) := by (rw [eg_4, va_up_self])
  refine lv_dup hx hb dX9_init_19 rfl ?_
  refine W_hz (N0 := 1) hz0 hP (by omega) (by omega) (fun hz => ?_)
  refine kGI (As := []) (rest := [.ref (bd b0 17), .ref (bd b0 0)]) S hK hN hz hP hS (c_X1_init l D cy b0 18 g_4 17 (by omega) hn_4) ci_X9_9 ⟨rfl, rfl⟩ rfl hl.1 rfl (Nat.le_of_ble_eq_true rfl) ⟨Nat.le_of_ble_eq_true rfl, Nat.le_of_ble_eq_true rfl⟩ dX9_init_20 (fun g_5 H locs q_5 _ hP hS => ?_)
  have hP : MM D (bd b0) 33 g_5 H := hP
  obtain ⟨x0_5, x1_5, x2_5, y2_5, f_5⟩ := q_5
  have F_5 : ∀ j : Nat, j < 17 → g_5 j = g_3 j := fun j a => (f_5 j (Nat.lt_of_lt_of_le a (Nat.le_of_ble_eq_true rfl)) (Nat.ne_of_lt a)).trans ((congrFun eg_4 _).trans (va_up_ne _ _ (Nat.ne_of_lt a)))
  have h17_5 : g_5 17 = .inr (1, [.ref (bd b0 18), .ref (bd b0 19), .int (nI 0), .int (nI 0), .int (nI 0)]) := x0_5
  have h18_5 : g_5 18 = .inr (8, [.int (nI 5), .long (lN (sea (fun p => p) 5)), .int (nI (2 ^ 5 - 1)), .int (nI (2 ^ 5 - 1)), .long (lN 0)]) := x1_5
  have h19_5 : g_5 19 = .inl (cy 6, 13, .inr (.inr (.inr (.inr (pfu b0 18 13))))) := x2_5
  have hF20_5 : ∀ j, j < 13 → g_5 (20 + j) = .inr (8, [.int (nI 5), .long (lN (sea (fun p => p) 5)), .int (nI (2 ^ 5 - 1)), .int (nI (2 ^ 5 - 1)), .long (lN 0)]) := y2_5
  have h0_5 : g_5 0 = .inr (9, [.ref (bd b0 1), .null, .null, .null, .int (nI 0), .null, .null, .null, .null, .int (nI 0), .int (nI 0), .int (nI 0), .null, .int (nI 0), .null, .null]) := (F_5 0 (by decide)).trans h0_3
  refine mpF S hnm hK hP bd_MD hS (by omega) h0_5 fd_X9_16 (fun r z => by cases z; rfl) rfl rfl (Nat.le_of_ble_eq_true rfl) dX9_init_23 (fun g_6 H locs eg_6 hP hS => ?_)
  have h0_6 : g_6 0 = .inr (9, [.ref (bd b0 1), .ref (bd b0 17), .null, .null, .int (nI 0), .null, .null, .null, .null, .int (nI 0), .int (nI 0), .int (nI 0), .null, .int (nI 0), .null, .null]) := by (rw [eg_6, va_up_self]) <;> exact rfl
  refine lv_aload_n hx hb dX9_init_26 rfl (lv_at hl 0 rfl) ?_
  refine W_hz (N0 := 1) hz0 hP (by omega) (by omega) (fun hz => ?_)
  refine gnew (ci := 8) (NF := 5) (C := RX8) (T := TX8) (ty := tyX8) (fs := [.int (nI 0), .long (lN 0), .int (nI 0), .int (nI 0), .long (lN 0)]) S hK hP bd_MD hS hA hz.symm rfl inlX8 tyX8_ok m_X9_19 mj_RX8 mn_RX8 (fun j hj => by rcases (show j = 0 ∨ j = 1 ∨ j = 2 ∨ j = 3 ∨ j = 4 by omega) with rfl | rfl | rfl | rfl | rfl <;> rfl) (Nat.le_of_ble_eq_true rfl) (Nat.le_of_ble_eq_true rfl) dX9_init_27 (fun g_7 H eg_7 hP _ hS _ => ?_)
  have hP : MM D (bd b0) 34 g_7 H := hP
  have hn_7 : g_7 33 = .inr (8, [.int (nI 0), .long (lN 0), .int (nI 0), .int (nI 0), .long (lN 0)]) := by (rw [eg_7, va_up_self])
  refine lv_dup hx hb dX9_init_30 rfl ?_
  refine W_hz (N0 := 1) hz0 hP (by omega) (by omega) (fun hz => ?_)
  refine kGI (As := []) (rest := [.ref (bd b0 33), .ref (bd b0 0)]) S hK hN hz hP hS (c_X8_init l D cy b0 34 g_7 33 (by omega) hn_7) ci_X9_21 ⟨rfl, rfl⟩ rfl hl.1 rfl (Nat.le_of_ble_eq_true rfl) ⟨Nat.le_of_ble_eq_true rfl, Nat.le_of_ble_eq_true rfl⟩ dX9_init_31 (fun g_8 H locs q_8 _ hP hS => ?_)
  have hP : MM D (bd b0) 34 g_8 H := hP
  obtain ⟨x0_8, f_8⟩ := q_8
  have F_8 : ∀ j : Nat, j < 33 → g_8 j = g_6 j := fun j a => (f_8 j (Nat.lt_of_lt_of_le a (Nat.le_of_ble_eq_true rfl)) (Nat.ne_of_lt a)).trans ((congrFun eg_7 _).trans (va_up_ne _ _ (Nat.ne_of_lt a)))
  have h33_8 : g_8 33 = .inr (8, [.int (nI 5), .long (lN (sea (fun p => p) 5)), .int (nI (2 ^ 5 - 1)), .int (nI (2 ^ 5 - 1)), .long (lN 0)]) := x0_8
  have h0_8 : g_8 0 = .inr (9, [.ref (bd b0 1), .ref (bd b0 17), .null, .null, .int (nI 0), .null, .null, .null, .null, .int (nI 0), .int (nI 0), .int (nI 0), .null, .int (nI 0), .null, .null]) := (F_8 0 (by decide)).trans h0_6
  refine mpF S hnm hK hP bd_MD hS (by omega) h0_8 fd_X9_22 (fun r z => by cases z; rfl) rfl rfl (Nat.le_of_ble_eq_true rfl) dX9_init_34 (fun g_9 H locs eg_9 hP hS => ?_)
  have h0_9 : g_9 0 = .inr (9, [.ref (bd b0 1), .ref (bd b0 17), .ref (bd b0 33), .null, .int (nI 0), .null, .null, .null, .null, .int (nI 0), .int (nI 0), .int (nI 0), .null, .int (nI 0), .null, .null]) := by (rw [eg_9, va_up_self]) <;> exact rfl
  refine lv_aload_n hx hb dX9_init_37 rfl (lv_at hl 0 rfl) ?_
  refine lv_bipush (v := nI 6) hx hb dX9_init_38 (by decide) ?_
  refine W_hz (N0 := 1) hz0 hP (by omega) (by omega) (fun hz => ?_)
  refine gnewq (t := 6) (n0 := 6) (C := RX8) S hK hP bd_MD hS hA hz.symm m_X9_19 (hN.2 RX8 (by simp)) rfl (by decide) (by decide) (Nat.le_of_ble_eq_true rfl) (Nat.le_of_ble_eq_true rfl) (Nat.le_of_ble_eq_true rfl) dX9_init_40 (fun g_10 H eg_10 hP _ hS _ => ?_)
  have hP : MM D (bd b0) 35 g_10 H := hP
  have h0_10 : g_10 0 = .inr (9, [.ref (bd b0 1), .ref (bd b0 17), .ref (bd b0 33), .null, .int (nI 0), .null, .null, .null, .null, .int (nI 0), .int (nI 0), .int (nI 0), .null, .int (nI 0), .null, .null]) := ((congrFun eg_10 _).trans (va_up_ne _ _ (by decide))).trans h0_9
  have h34_10 : g_10 34 = .inl (cy 6, 6, .inr (.inr (.inr (.inr (fun _ => none))))) := by (rw [eg_10, va_up_self]) <;> exact rfl
  refine mpF S hnm hK hP bd_MD hS (by omega) h0_10 fd_X9_26 (fun r z => by cases z; rfl) rfl rfl (Nat.le_of_ble_eq_true rfl) dX9_init_43 (fun g_11 H locs eg_11 hP hS => ?_)
  have h34_11 : g_11 34 = .inl (cy 6, 6, .inr (.inr (.inr (.inr (fun _ => none))))) := ((congrFun eg_11 _).trans (va_up_ne _ _ (by decide))).trans h34_10
  have h0_11 : g_11 0 = .inr (9, [.ref (bd b0 1), .ref (bd b0 17), .ref (bd b0 33), .ref (bd b0 34), .int (nI 0), .null, .null, .null, .null, .int (nI 0), .int (nI 0), .int (nI 0), .null, .int (nI 0), .null, .null]) := by (rw [eg_11, va_up_self]) <;> exact rfl
  refine lv_aload_n hx hb dX9_init_46 rfl (lv_at hl 0 rfl) ?_
  refine W_hz (N0 := 1) hz0 hP (by omega) (by omega) (fun hz => ?_)
  refine gnew (ci := 2) (NF := 14) (C := RX2) (T := TX2) (ty := tyX2) (fs := [.null, .null, .null, .null, .null, .null, .null, .null, .null, .long (lN 0), .int (nI 0), .int (nI 0), .int (nI 0), .int (nI 0)]) S hK hP bd_MD hS hA hz.symm rfl inlX2 tyX2_ok m_X9_30 mj_RX2 mn_RX2 (fun j hj => by rcases (show j = 0 ∨ j = 1 ∨ j = 2 ∨ j = 3 ∨ j = 4 ∨ j = 5 ∨ j = 6 ∨ j = 7 ∨ j = 8 ∨ j = 9 ∨ j = 10 ∨ j = 11 ∨ j = 12 ∨ j = 13 by omega) with rfl | rfl | rfl | rfl | rfl | rfl | rfl | rfl | rfl | rfl | rfl | rfl | rfl | rfl <;> rfl) (Nat.le_of_ble_eq_true rfl) (Nat.le_of_ble_eq_true rfl) dX9_init_47 (fun g_12 H eg_12 hP _ hS _ => ?_)
  have hP : MM D (bd b0) 36 g_12 H := hP
  have hn_12 : g_12 35 = .inr (2, [.null, .null, .null, .null, .null, .null, .null, .null, .null, .long (lN 0), .int (nI 0), .int (nI 0), .int (nI 0), .int (nI 0)]) := by (rw [eg_12, va_up_self])
  refine lv_dup hx hb dX9_init_50 rfl ?_
  refine W_hz (N0 := 1) hz0 hP (by omega) (by omega) (fun hz => ?_)
  refine kGN (As := []) (rest := [.ref (bd b0 35), .ref (bd b0 0)]) S hK hN hz hP hS (c_X2_init l D cy b0 36 g_12 35 (by omega) hn_12) (by decide) mi_yX2_init mn_RX2 mc_yX2_init rfl (by decide +kernel) ⟨rfl, rfl⟩ rfl hl.1 rfl (Nat.le_of_ble_eq_true rfl) ⟨Nat.le_of_ble_eq_true rfl, Nat.le_of_ble_eq_true rfl⟩ dX9_init_51 (fun g_13 H locs q_13 _ hP hS => ?_)
  have hP : MM D (bd b0) 45 g_13 H := hP
  obtain ⟨x0_13, x1_13, x2_13, x3_13, x4_13, x5_13, x6_13, x7_13, x8_13, x9_13, f_13⟩ := q_13
  have F_13 : ∀ j : Nat, j < 35 → g_13 j = g_11 j := fun j a => (f_13 j (Nat.lt_of_lt_of_le a (Nat.le_of_ble_eq_true rfl)) (Nat.ne_of_lt a)).trans ((congrFun eg_12 _).trans (va_up_ne _ _ (Nat.ne_of_lt a)))
  have h35_13 : g_13 35 = .inr (2, [.ref (bd b0 36), .ref (bd b0 37), .ref (bd b0 38), .ref (bd b0 39), .ref (bd b0 40), .ref (bd b0 41), .ref (bd b0 42), .ref (bd b0 43), .ref (bd b0 44), .long (lN 0), .int (nI 0), .int (nI 0), .int (nI 0), .int (nI 0)]) := x0_13
  have h36_13 : g_13 36 = .inl (cy 2, 1500, .inr (.inl (fun x9 => lN ((fun _ => 0) x9)))) := x1_13
  have h37_13 : g_13 37 = .inl (cy 2, 1500, .inr (.inl (fun x9 => lN ((fun _ => 0) x9)))) := x2_13
  have h38_13 : g_13 38 = .inl (cy 2, 1500, .inr (.inl (fun x9 => lN ((fun _ => 0) x9)))) := x3_13
  have h39_13 : g_13 39 = .inl (cy 1, 1500, .inl (fun x9 => nI ((fun _ => 0) x9))) := x4_13
  have h40_13 : g_13 40 = .inl (cy 1, 1500, .inl (fun x9 => nI ((fun _ => 0) x9))) := x5_13
  have h41_13 : g_13 41 = .inl (cy 1, 4096, .inl (fun x9 => nI ((fun _ => 0) x9))) := x6_13
  have h42_13 : g_13 42 = .inr (8, [.int (nI 5), .long (lN (sea (fun p => p) 5)), .int (nI (2 ^ 5 - 1)), .int (nI (2 ^ 5 - 1)), .long (lN 0)]) := x7_13
  have h43_13 : g_13 43 = .inr (8, [.int (nI 5), .long (lN (sea (fun p => p) 5)), .int (nI (2 ^ 5 - 1)), .int (nI (2 ^ 5 - 1)), .long (lN 0)]) := x8_13
  have h44_13 : g_13 44 = .inr (8, [.int (nI 5), .long (lN (sea (fun p => p) 5)), .int (nI (2 ^ 5 - 1)), .int (nI (2 ^ 5 - 1)), .long (lN 0)]) := x9_13
  have h0_13 : g_13 0 = .inr (9, [.ref (bd b0 1), .ref (bd b0 17), .ref (bd b0 33), .ref (bd b0 34), .int (nI 0), .null, .null, .null, .null, .int (nI 0), .int (nI 0), .int (nI 0), .null, .int (nI 0), .null, .null]) := (F_13 0 (by decide)).trans h0_11
  have h34_13 : g_13 34 = .inl (cy 6, 6, .inr (.inr (.inr (.inr (fun _ => none))))) := (F_13 34 (by decide)).trans h34_11
  refine mpF S hnm hK hP bd_MD hS (by omega) h0_13 fd_X9_33 (fun r z => by cases z; rfl) rfl rfl (Nat.le_of_ble_eq_true rfl) dX9_init_54 (fun g_14 H locs eg_14 hP hS => ?_)
  have h34_14 : g_14 34 = .inl (cy 6, 6, .inr (.inr (.inr (.inr (fun _ => none))))) := ((congrFun eg_14 _).trans (va_up_ne _ _ (by decide))).trans h34_13
  have h0_14 : g_14 0 = .inr (9, [.ref (bd b0 1), .ref (bd b0 17), .ref (bd b0 33), .ref (bd b0 34), .int (nI 0), .ref (bd b0 35), .null, .null, .null, .int (nI 0), .int (nI 0), .int (nI 0), .null, .int (nI 0), .null, .null]) := by (rw [eg_14, va_up_self]) <;> exact rfl
  refine lv_aload_n hx hb dX9_init_57 rfl (lv_at hl 0 rfl) ?_
  refine W_hz (N0 := 1) hz0 hP (by omega) (by omega) (fun hz => ?_)
  refine gnew (ci := 5) (NF := 6) (C := RX5) (T := TX5) (ty := tyX5) (fs := [.null, .int (nI 0), .int (nI 0), .int (nI 0), .int (nI 0), .int (nI 0)]) S hK hP bd_MD hS hA hz.symm rfl inlX5 tyX5_ok m_X9_37 mj_RX5 mn_RX5 (fun j hj => by rcases (show j = 0 ∨ j = 1 ∨ j = 2 ∨ j = 3 ∨ j = 4 ∨ j = 5 by omega) with rfl | rfl | rfl | rfl | rfl | rfl <;> rfl) (Nat.le_of_ble_eq_true rfl) (Nat.le_of_ble_eq_true rfl) dX9_init_58 (fun g_15 H eg_15 hP _ hS _ => ?_)
  have hP : MM D (bd b0) 46 g_15 H := hP
  have hn_15 : g_15 45 = .inr (5, [.null, .int (nI 0), .int (nI 0), .int (nI 0), .int (nI 0), .int (nI 0)]) := by (rw [eg_15, va_up_self])
  refine lv_dup hx hb dX9_init_61 rfl ?_
  refine W_hz (N0 := 1) hz0 hP (by omega) (by omega) (fun hz => ?_)
  refine kGN (As := []) (rest := [.ref (bd b0 45), .ref (bd b0 0)]) S hK hN hz hP hS (c_X5_init l D cy b0 46 g_15 45 (by omega) hn_15) (by decide) mi_yX5_init mn_RX5 mc_yX5_init rfl (by decide +kernel) ⟨rfl, rfl⟩ rfl hl.1 rfl (Nat.le_of_ble_eq_true rfl) ⟨Nat.le_of_ble_eq_true rfl, Nat.le_of_ble_eq_true rfl⟩ dX9_init_62 (fun g_16 H locs q_16 _ hP hS => ?_)
  have hP : MM D (bd b0) 47 g_16 H := hP
  obtain ⟨x0_16, x1_16, f_16⟩ := q_16
  have F_16 : ∀ j : Nat, j < 45 → g_16 j = g_14 j := fun j a => (f_16 j (Nat.lt_of_lt_of_le a (Nat.le_of_ble_eq_true rfl)) (Nat.ne_of_lt a)).trans ((congrFun eg_15 _).trans (va_up_ne _ _ (Nat.ne_of_lt a)))
  have h45_16 : g_16 45 = .inr (5, [.ref (bd b0 46), .int (nI 0), .int (nI 0), .int (nI 0), .int (nI 0), .int (nI 0)]) := x0_16
  have h46_16 : g_16 46 = .inl (cy 0, 160, .inl (fun x9 => nI ((fun _ => 0) x9))) := x1_16
  have h0_16 : g_16 0 = .inr (9, [.ref (bd b0 1), .ref (bd b0 17), .ref (bd b0 33), .ref (bd b0 34), .int (nI 0), .ref (bd b0 35), .null, .null, .null, .int (nI 0), .int (nI 0), .int (nI 0), .null, .int (nI 0), .null, .null]) := (F_16 0 (by decide)).trans h0_14
  have h34_16 : g_16 34 = .inl (cy 6, 6, .inr (.inr (.inr (.inr (fun _ => none))))) := (F_16 34 (by decide)).trans h34_14
  refine mpF S hnm hK hP bd_MD hS (by omega) h0_16 fd_X9_40 (fun r z => by cases z; rfl) rfl rfl (Nat.le_of_ble_eq_true rfl) dX9_init_65 (fun g_17 H locs eg_17 hP hS => ?_)
  have h34_17 : g_17 34 = .inl (cy 6, 6, .inr (.inr (.inr (.inr (fun _ => none))))) := ((congrFun eg_17 _).trans (va_up_ne _ _ (by decide))).trans h34_16
  have h0_17 : g_17 0 = .inr (9, [.ref (bd b0 1), .ref (bd b0 17), .ref (bd b0 33), .ref (bd b0 34), .int (nI 0), .ref (bd b0 35), .ref (bd b0 45), .null, .null, .int (nI 0), .int (nI 0), .int (nI 0), .null, .int (nI 0), .null, .null]) := by (rw [eg_17, va_up_self]) <;> exact rfl
  refine lv_aload_n hx hb dX9_init_68 rfl (lv_at hl 0 rfl) ?_
  refine W_hz (N0 := 1) hz0 hP (by omega) (by omega) (fun hz => ?_)
  refine gnew (ci := 6) (NF := 11) (C := RX6) (T := TX6) (ty := tyX6) (fs := [.null, .null, .null, .int (nI 0), .int (nI 0), .int (nI 0), .int (nI 0), .int (nI 0), .int (nI 0), .int (nI 0), .int (nI 0)]) S hK hP bd_MD hS hA hz.symm rfl inlX6 tyX6_ok m_X9_44 mj_RX6 mn_RX6 (fun j hj => by rcases (show j = 0 ∨ j = 1 ∨ j = 2 ∨ j = 3 ∨ j = 4 ∨ j = 5 ∨ j = 6 ∨ j = 7 ∨ j = 8 ∨ j = 9 ∨ j = 10 by omega) with rfl | rfl | rfl | rfl | rfl | rfl | rfl | rfl | rfl | rfl | rfl <;> rfl) (Nat.le_of_ble_eq_true rfl) (Nat.le_of_ble_eq_true rfl) dX9_init_69 (fun g_18 H eg_18 hP _ hS _ => ?_)
  have hP : MM D (bd b0) 48 g_18 H := hP
  have hn_18 : g_18 47 = .inr (6, [.null, .null, .null, .int (nI 0), .int (nI 0), .int (nI 0), .int (nI 0), .int (nI 0), .int (nI 0), .int (nI 0), .int (nI 0)]) := by (rw [eg_18, va_up_self])
  refine lv_dup hx hb dX9_init_72 rfl ?_
  refine W_hz (N0 := 1) hz0 hP (by omega) (by omega) (fun hz => ?_)
  refine kGN (As := []) (rest := [.ref (bd b0 47), .ref (bd b0 0)]) S hK hN hz hP hS (c_X6_init l D cy b0 48 g_18 47 (by omega) hn_18) (by decide) mi_yX6_init mn_RX6 mc_yX6_init rfl (by decide +kernel) ⟨rfl, rfl⟩ rfl hl.1 rfl (Nat.le_of_ble_eq_true rfl) ⟨Nat.le_of_ble_eq_true rfl, Nat.le_of_ble_eq_true rfl⟩ dX9_init_73 (fun g_19 H locs q_19 _ hP hS => ?_)
  have hP : MM D (bd b0) 52 g_19 H := hP
  obtain ⟨x0_19, x1_19, x2_19, x3_19, x4_19, f_19⟩ := q_19
  have F_19 : ∀ j : Nat, j < 47 → g_19 j = g_17 j := fun j a => (f_19 j (Nat.lt_of_lt_of_le a (Nat.le_of_ble_eq_true rfl)) (Nat.ne_of_lt a)).trans ((congrFun eg_18 _).trans (va_up_ne _ _ (Nat.ne_of_lt a)))
  have h47_19 : g_19 47 = .inr (6, [.ref (bd b0 48), .ref (bd b0 50), .ref (bd b0 51), .int (nI 0), .int (nI 0), .int (nI 0), .int (nI 0), .int (nI 0), .int (nI 0), .int (nI 0), .int (nI 0)]) := x0_19
  have h48_19 : g_19 48 = .inr (0, [.ref (bd b0 49), .int (nI 0)]) := x1_19
  have h49_19 : g_19 49 = .inl (cy 0, 200, .inl (fun x9 => nI ((fun _ => 0) x9))) := x2_19
  have h50_19 : g_19 50 = .inl (cy 1, 4, .inl (fun x9 => nI ((fun _ => 0) x9))) := x3_19
  have h51_19 : g_19 51 = .inl (cy 1, 4, .inl (fun x9 => nI ((fun _ => 0) x9))) := x4_19
  have h0_19 : g_19 0 = .inr (9, [.ref (bd b0 1), .ref (bd b0 17), .ref (bd b0 33), .ref (bd b0 34), .int (nI 0), .ref (bd b0 35), .ref (bd b0 45), .null, .null, .int (nI 0), .int (nI 0), .int (nI 0), .null, .int (nI 0), .null, .null]) := (F_19 0 (by decide)).trans h0_17
  have h34_19 : g_19 34 = .inl (cy 6, 6, .inr (.inr (.inr (.inr (fun _ => none))))) := (F_19 34 (by decide)).trans h34_17
  refine mpF S hnm hK hP bd_MD hS (by omega) h0_19 fd_X9_47 (fun r z => by cases z; rfl) rfl rfl (Nat.le_of_ble_eq_true rfl) dX9_init_76 (fun g_20 H locs eg_20 hP hS => ?_)
  have h34_20 : g_20 34 = .inl (cy 6, 6, .inr (.inr (.inr (.inr (fun _ => none))))) := ((congrFun eg_20 _).trans (va_up_ne _ _ (by decide))).trans h34_19
  have h0_20 : g_20 0 = .inr (9, [.ref (bd b0 1), .ref (bd b0 17), .ref (bd b0 33), .ref (bd b0 34), .int (nI 0), .ref (bd b0 35), .ref (bd b0 45), .ref (bd b0 47), .null, .int (nI 0), .int (nI 0), .int (nI 0), .null, .int (nI 0), .null, .null]) := by (rw [eg_20, va_up_self]) <;> exact rfl
  refine lv_aload_n hx hb dX9_init_79 rfl (lv_at hl 0 rfl) ?_
  refine lv_bipush (v := nI 8) hx hb dX9_init_80 (by decide) ?_
  refine W_hz (N0 := 1) hz0 hP (by omega) (by omega) (fun hz => ?_)
  refine gnewq (t := 3) (n0 := 8) (C := RX0) S hK hP bd_MD hS hA hz.symm m_X9_51 (hN.2 RX0 (by simp)) rfl (by decide) (by decide) (Nat.le_of_ble_eq_true rfl) (Nat.le_of_ble_eq_true rfl) (Nat.le_of_ble_eq_true rfl) dX9_init_82 (fun g_21 H eg_21 hP _ hS _ => ?_)
  have hP : MM D (bd b0) 53 g_21 H := hP
  have h0_21 : g_21 0 = .inr (9, [.ref (bd b0 1), .ref (bd b0 17), .ref (bd b0 33), .ref (bd b0 34), .int (nI 0), .ref (bd b0 35), .ref (bd b0 45), .ref (bd b0 47), .null, .int (nI 0), .int (nI 0), .int (nI 0), .null, .int (nI 0), .null, .null]) := ((congrFun eg_21 _).trans (va_up_ne _ _ (by decide))).trans h0_20
  have h34_21 : g_21 34 = .inl (cy 6, 6, .inr (.inr (.inr (.inr (fun _ => none))))) := ((congrFun eg_21 _).trans (va_up_ne _ _ (by decide))).trans h34_20
  have h52_21 : g_21 52 = .inl (cy 3, 8, .inr (.inr (.inr (.inr (fun _ => none))))) := by (rw [eg_21, va_up_self]) <;> exact rfl
  refine mpF S hnm hK hP bd_MD hS (by omega) h0_21 fd_X9_53 (fun r z => by cases z; rfl) rfl rfl (Nat.le_of_ble_eq_true rfl) dX9_init_85 (fun g_22 H locs eg_22 hP hS => ?_)
  have h34_22 : g_22 34 = .inl (cy 6, 6, .inr (.inr (.inr (.inr (fun _ => none))))) := ((congrFun eg_22 _).trans (va_up_ne _ _ (by decide))).trans h34_21
  have h52_22 : g_22 52 = .inl (cy 3, 8, .inr (.inr (.inr (.inr (fun _ => none))))) := ((congrFun eg_22 _).trans (va_up_ne _ _ (by decide))).trans h52_21
  have h0_22 : g_22 0 = .inr (9, [.ref (bd b0 1), .ref (bd b0 17), .ref (bd b0 33), .ref (bd b0 34), .int (nI 0), .ref (bd b0 35), .ref (bd b0 45), .ref (bd b0 47), .ref (bd b0 52), .int (nI 0), .int (nI 0), .int (nI 0), .null, .int (nI 0), .null, .null]) := by (rw [eg_22, va_up_self]) <;> exact rfl
  refine lv_aload_n hx hb dX9_init_88 rfl (lv_at hl 0 rfl) ?_
  refine lv_iconst (v := nI 4) hx hb dX9_init_89 (by decide) ?_
  refine W_hz (N0 := 1) hz0 hP (by omega) (by omega) (fun hz => ?_)
  refine gnewq (t := 5) (n0 := 4) (C := RX7) S hK hP bd_MD hS hA hz.symm m_X9_57 (hN.2 RX7 (by simp)) rfl (by decide) (by decide) (Nat.le_of_ble_eq_true rfl) (Nat.le_of_ble_eq_true rfl) (Nat.le_of_ble_eq_true rfl) dX9_init_90 (fun g_23 H eg_23 hP _ hS _ => ?_)
  have hP : MM D (bd b0) 54 g_23 H := hP
  have h0_23 : g_23 0 = .inr (9, [.ref (bd b0 1), .ref (bd b0 17), .ref (bd b0 33), .ref (bd b0 34), .int (nI 0), .ref (bd b0 35), .ref (bd b0 45), .ref (bd b0 47), .ref (bd b0 52), .int (nI 0), .int (nI 0), .int (nI 0), .null, .int (nI 0), .null, .null]) := ((congrFun eg_23 _).trans (va_up_ne _ _ (by decide))).trans h0_22
  have h34_23 : g_23 34 = .inl (cy 6, 6, .inr (.inr (.inr (.inr (fun _ => none))))) := ((congrFun eg_23 _).trans (va_up_ne _ _ (by decide))).trans h34_22
  have h52_23 : g_23 52 = .inl (cy 3, 8, .inr (.inr (.inr (.inr (fun _ => none))))) := ((congrFun eg_23 _).trans (va_up_ne _ _ (by decide))).trans h52_22
  have h53_23 : g_23 53 = .inl (cy 5, 4, .inr (.inr (.inr (.inr (fun _ => none))))) := by (rw [eg_23, va_up_self]) <;> exact rfl
  refine mpF S hnm hK hP bd_MD hS (by omega) h0_23 fd_X9_59 (fun r z => by cases z; rfl) rfl rfl (Nat.le_of_ble_eq_true rfl) dX9_init_93 (fun g_24 H locs eg_24 hP hS => ?_)
  have h34_24 : g_24 34 = .inl (cy 6, 6, .inr (.inr (.inr (.inr (fun _ => none))))) := ((congrFun eg_24 _).trans (va_up_ne _ _ (by decide))).trans h34_23
  have h52_24 : g_24 52 = .inl (cy 3, 8, .inr (.inr (.inr (.inr (fun _ => none))))) := ((congrFun eg_24 _).trans (va_up_ne _ _ (by decide))).trans h52_23
  have h53_24 : g_24 53 = .inl (cy 5, 4, .inr (.inr (.inr (.inr (fun _ => none))))) := ((congrFun eg_24 _).trans (va_up_ne _ _ (by decide))).trans h53_23
  have h0_24 : g_24 0 = .inr (9, [.ref (bd b0 1), .ref (bd b0 17), .ref (bd b0 33), .ref (bd b0 34), .int (nI 0), .ref (bd b0 35), .ref (bd b0 45), .ref (bd b0 47), .ref (bd b0 52), .int (nI 0), .int (nI 0), .int (nI 0), .ref (bd b0 53), .int (nI 0), .null, .null]) := by (rw [eg_24, va_up_self]) <;> exact rfl
  refine lv_aload_n hx hb dX9_init_96 rfl (lv_at hl 0 rfl) ?_
  refine W_hz (N0 := 1) hz0 hP (by omega) (by omega) (fun hz => ?_)
  refine gnew (ci := 3) (NF := 2) (C := RX3) (T := TX3) (ty := tyX3) (fs := [.null, .null]) S hK hP bd_MD hS hA hz.symm rfl inlX3 tyX3_ok m_X9_63 mj_RX3 mn_RX3 (fun j hj => by rcases (show j = 0 ∨ j = 1 by omega) with rfl | rfl <;> rfl) (Nat.le_of_ble_eq_true rfl) (Nat.le_of_ble_eq_true rfl) dX9_init_97 (fun g_25 H eg_25 hP _ hS _ => ?_)
  have hP : MM D (bd b0) 55 g_25 H := hP
  have hn_25 : g_25 54 = .inr (3, [.null, .null]) := by (rw [eg_25, va_up_self])
  refine lv_dup hx hb dX9_init_100 rfl ?_
  refine W_hz (N0 := 1) hz0 hP (by omega) (by omega) (fun hz => ?_)
  refine kGN (As := []) (rest := [.ref (bd b0 54), .ref (bd b0 0)]) S hK hN hz hP hS (c_X3_init l D cy b0 55 g_25 54 (by omega) hn_25) (by decide) mi_yX3_init mn_RX3 mc_yX3_init rfl (by decide +kernel) ⟨rfl, rfl⟩ rfl hl.1 rfl (Nat.le_of_ble_eq_true rfl) ⟨Nat.le_of_ble_eq_true rfl, Nat.le_of_ble_eq_true rfl⟩ dX9_init_101 (fun g_26 H locs q_26 _ hP hS => ?_)
  have hP : MM D (bd b0) 75 g_26 H := hP
  obtain ⟨x0_26, x1_26, x2_26, x3_26, y1_26, f_26⟩ := q_26
  have F_26 : ∀ j : Nat, j < 54 → g_26 j = g_24 j := fun j a => (f_26 j (Nat.lt_of_lt_of_le a (Nat.le_of_ble_eq_true rfl)) (Nat.ne_of_lt a)).trans ((congrFun eg_25 _).trans (va_up_ne _ _ (Nat.ne_of_lt a)))
  have h54_26 : g_26 54 = .inr (3, [.ref (bd b0 55), .ref (bd b0 73)]) := x0_26
  have h55_26 : g_26 55 = .inl (cy 7, 17, .inr (.inr (.inr (.inr (mrw (bd b0 55) 17))))) := x1_26
  have h73_26 : g_26 73 = .inr (7, [.ref (bd b0 74), .int (nI 0)]) := x2_26
  have h74_26 : g_26 74 = .inl (cy 1, 16, .inl (fun x9 => nI ((fun _ => 0) x9))) := x3_26
  have hF56_26 : ∀ j, j < 17 → g_26 (56 + j) = .inl (cy 1, 17, .inl (fun x9 => nI ((fun _ => 0) x9))) := y1_26
  have h0_26 : g_26 0 = .inr (9, [.ref (bd b0 1), .ref (bd b0 17), .ref (bd b0 33), .ref (bd b0 34), .int (nI 0), .ref (bd b0 35), .ref (bd b0 45), .ref (bd b0 47), .ref (bd b0 52), .int (nI 0), .int (nI 0), .int (nI 0), .ref (bd b0 53), .int (nI 0), .null, .null]) := (F_26 0 (by decide)).trans h0_24
  have h34_26 : g_26 34 = .inl (cy 6, 6, .inr (.inr (.inr (.inr (fun _ => none))))) := (F_26 34 (by decide)).trans h34_24
  have h52_26 : g_26 52 = .inl (cy 3, 8, .inr (.inr (.inr (.inr (fun _ => none))))) := (F_26 52 (by decide)).trans h52_24
  have h53_26 : g_26 53 = .inl (cy 5, 4, .inr (.inr (.inr (.inr (fun _ => none))))) := (F_26 53 (by decide)).trans h53_24
  refine mpF S hnm hK hP bd_MD hS (by omega) h0_26 fd_X9_66 (fun r z => by cases z; rfl) rfl rfl (Nat.le_of_ble_eq_true rfl) dX9_init_104 (fun g_27 H locs eg_27 hP hS => ?_)
  have h34_27 : g_27 34 = .inl (cy 6, 6, .inr (.inr (.inr (.inr (fun _ => none))))) := ((congrFun eg_27 _).trans (va_up_ne _ _ (by decide))).trans h34_26
  have h52_27 : g_27 52 = .inl (cy 3, 8, .inr (.inr (.inr (.inr (fun _ => none))))) := ((congrFun eg_27 _).trans (va_up_ne _ _ (by decide))).trans h52_26
  have h53_27 : g_27 53 = .inl (cy 5, 4, .inr (.inr (.inr (.inr (fun _ => none))))) := ((congrFun eg_27 _).trans (va_up_ne _ _ (by decide))).trans h53_26
  have h0_27 : g_27 0 = .inr (9, [.ref (bd b0 1), .ref (bd b0 17), .ref (bd b0 33), .ref (bd b0 34), .int (nI 0), .ref (bd b0 35), .ref (bd b0 45), .ref (bd b0 47), .ref (bd b0 52), .int (nI 0), .int (nI 0), .int (nI 0), .ref (bd b0 53), .int (nI 0), .ref (bd b0 54), .null]) := by (rw [eg_27, va_up_self]) <;> exact rfl
  refine lv_aload_n hx hb dX9_init_107 rfl (lv_at hl 0 rfl) ?_
  refine lv_iconst (v := nI 4) hx hb dX9_init_108 (by decide) ?_
  refine W_hz (N0 := 1) hz0 hP (by omega) (by omega) (fun hz => ?_)
  refine gnewq (t := 4) (n0 := 4) (C := RX4) S hK hP bd_MD hS hA hz.symm m_X9_70 (hN.2 RX4 (by simp)) rfl (by decide) (by decide) (Nat.le_of_ble_eq_true rfl) (Nat.le_of_ble_eq_true rfl) (Nat.le_of_ble_eq_true rfl) dX9_init_109 (fun g_28 H eg_28 hP _ hS _ => ?_)
  have hP : MM D (bd b0) 76 g_28 H := hP
  have h0_28 : g_28 0 = .inr (9, [.ref (bd b0 1), .ref (bd b0 17), .ref (bd b0 33), .ref (bd b0 34), .int (nI 0), .ref (bd b0 35), .ref (bd b0 45), .ref (bd b0 47), .ref (bd b0 52), .int (nI 0), .int (nI 0), .int (nI 0), .ref (bd b0 53), .int (nI 0), .ref (bd b0 54), .null]) := ((congrFun eg_28 _).trans (va_up_ne _ _ (by decide))).trans h0_27
  have h34_28 : g_28 34 = .inl (cy 6, 6, .inr (.inr (.inr (.inr (fun _ => none))))) := ((congrFun eg_28 _).trans (va_up_ne _ _ (by decide))).trans h34_27
  have h52_28 : g_28 52 = .inl (cy 3, 8, .inr (.inr (.inr (.inr (fun _ => none))))) := ((congrFun eg_28 _).trans (va_up_ne _ _ (by decide))).trans h52_27
  have h53_28 : g_28 53 = .inl (cy 5, 4, .inr (.inr (.inr (.inr (fun _ => none))))) := ((congrFun eg_28 _).trans (va_up_ne _ _ (by decide))).trans h53_27
  have h75_28 : g_28 75 = .inl (cy 4, 4, .inr (.inr (.inr (.inr (fun _ => none))))) := by (rw [eg_28, va_up_self]) <;> exact rfl
  refine mpF S hnm hK hP bd_MD hS (by omega) h0_28 fd_X9_72 (fun r z => by cases z; rfl) rfl rfl (Nat.le_of_ble_eq_true rfl) dX9_init_112 (fun g_29 H locs eg_29 hP hS => ?_)
  have h34_29 : g_29 34 = .inl (cy 6, 6, .inr (.inr (.inr (.inr (fun _ => none))))) := ((congrFun eg_29 _).trans (va_up_ne _ _ (by decide))).trans h34_28
  have h52_29 : g_29 52 = .inl (cy 3, 8, .inr (.inr (.inr (.inr (fun _ => none))))) := ((congrFun eg_29 _).trans (va_up_ne _ _ (by decide))).trans h52_28
  have h53_29 : g_29 53 = .inl (cy 5, 4, .inr (.inr (.inr (.inr (fun _ => none))))) := ((congrFun eg_29 _).trans (va_up_ne _ _ (by decide))).trans h53_28
  have h75_29 : g_29 75 = .inl (cy 4, 4, .inr (.inr (.inr (.inr (fun _ => none))))) := ((congrFun eg_29 _).trans (va_up_ne _ _ (by decide))).trans h75_28
  have h0_29 : g_29 0 = .inr (9, [.ref (bd b0 1), .ref (bd b0 17), .ref (bd b0 33), .ref (bd b0 34), .int (nI 0), .ref (bd b0 35), .ref (bd b0 45), .ref (bd b0 47), .ref (bd b0 52), .int (nI 0), .int (nI 0), .int (nI 0), .ref (bd b0 53), .int (nI 0), .ref (bd b0 54), .ref (bd b0 75)]) := by (rw [eg_29, va_up_self]) <;> exact rfl
  refine lv_iconst (v := nI 0) hx hb dX9_init_115 (by decide) ?_
  refine lv_istore_n (lv' := [(1, .int (nI 0)), (0, .ref (bd b0 0))]) hx hb dX9_init_116 rfl hl (by decide) rfl (fun ls hl => ?_)
  have L117 : ∀ (kk : ∀ (h : Nat → va_E) (H : Heap) (locs : List Loc), h 0 = .inr (9, [.ref (bd b0 1), .ref (bd b0 17), .ref (bd b0 33), .ref (bd b0 34), .int (nI 0), .ref (bd b0 35), .ref (bd b0 45), .ref (bd b0 47), .ref (bd b0 52), .int (nI 0), .int (nI 0), .int (nI 0), .ref (bd b0 53), .int (nI 0), .ref (bd b0 54), .ref (bd b0 75)]) → h 34 = .inl (cy 6, 6, .inr (.inr (.inr (.inr (afu b0 76 1 6))))) → (∀ j, j < 6 → h (76 + j) = .inr (8, [.int (nI 5), .long (lN (sea (fun p => p) 5)), .int (nI (2 ^ 5 - 1)), .int (nI (2 ^ 5 - 1)), .long (lN 0)])) → (∀ j, j < 76 → j ≠ 34 → h j = g_29 j) → MM D (bd b0) 82 h H → va_S (AB b0) s.heap H locs → ∀ (ls : Array Slot), lv_has ls 2 [(1, .int (nI 6)), (0, .ref (bd b0 0))] → W p l e (rmG 4 113 14511 82) s m [.ref (bd b0 0)].toArray below meth c H locs 81 12571 (MQ below (QG (IX9 b0 cy g) D b0 114) [.ref (bd b0 0)].toArray s 113 14511 (AB b0)) (F0 m 145 ls [])), ∀ (fu i : Nat), i ≤ 6 → 6 - i < fu → ∀ (h : Nat → va_E) (H : Heap) (locs : List Loc), h 0 = .inr (9, [.ref (bd b0 1), .ref (bd b0 17), .ref (bd b0 33), .ref (bd b0 34), .int (nI 0), .ref (bd b0 35), .ref (bd b0 45), .ref (bd b0 47), .ref (bd b0 52), .int (nI 0), .int (nI 0), .int (nI 0), .ref (bd b0 53), .int (nI 0), .ref (bd b0 54), .ref (bd b0 75)]) → h 34 = .inl (cy 6, 6, .inr (.inr (.inr (.inr (afu b0 76 1 i))))) → (∀ j, j < i → h (76 + j) = .inr (8, [.int (nI 5), .long (lN (sea (fun p => p) 5)), .int (nI (2 ^ 5 - 1)), .int (nI (2 ^ 5 - 1)), .long (lN 0)])) → (∀ j, j < 76 → j ≠ 34 → h j = g_29 j) → MM D (bd b0) (76 + i) h H → va_S (AB b0) s.heap H locs → ∀ (ls : Array Slot), lv_has ls 2 [(1, .int (nI i)), (0, .ref (bd b0 0))] → W p l e (rmG 4 113 14511 82) s m [.ref (bd b0 0)].toArray below meth c H locs (75 + i) (12541 + 5 * i) (MQ below (QG (IX9 b0 cy g) D b0 114) [.ref (bd b0 0)].toArray s 113 14511 (AB b0)) (F0 m 117 ls []) := by
    intro kk fu
    induction fu with
    | zero => intro i h1 h2; exact absurd h2 (Nat.not_lt_zero _)
    | succ fu ih =>
      intro i h1 h2 h H locs hk0 ha0 v0 hf0 hP hS ls hl
      refine lv_iload_n hx hb dX9_init_117 rfl (lv_at hl 0 rfl) ?_
      refine lv_aload_n hx hb dX9_init_118 rfl (lv_at hl 1 rfl) ?_
      refine mg S hK hP (k := 0) (by omega) hk0 fd_X9_26 rfl dX9_init_119 ?_
      refine malen S hK hP (k := 34) (t := 6) (by omega) ha0 rfl (v := nI 6) rfl dX9_init_122 ?_
      refine lv_icmp_ge (tgt := 145) hx hb dX9_init_123 (by decide) (fun c_9 => ?_) (fun c_9 => ?_)
      · have e : i = 6 := by have := (nI_leI (by omega) (by omega)).mp c_9; omega
        subst e
        exact kk h H locs hk0 ha0 v0 hf0 hP hS ls hl
      · have hi : i < 6 := by
          rcases Nat.lt_or_ge i 6 with z | z
          · exact z
          · exact absurd ((nI_leI (by omega) (by omega)).mpr z) c_9
        refine lv_aload_n hx hb dX9_init_126 rfl (lv_at hl 1 rfl) ?_
        refine mg S hK hP (k := 0) (by omega) hk0 fd_X9_26 rfl dX9_init_127 ?_
        refine lv_iload_n hx hb dX9_init_130 rfl (lv_at hl 0 rfl) ?_
        refine W_hz (N0 := 1) hz0 hP (by omega) (by omega) (fun hz => ?_)
        refine gnew (ci := 8) (NF := 5) (C := RX8) (T := TX8) (ty := tyX8) (fs := [.int (nI 0), .long (lN 0), .int (nI 0), .int (nI 0), .long (lN 0)]) S hK hP bd_MD hS hA hz.symm rfl inlX8 tyX8_ok m_X9_19 mj_RX8 mn_RX8 (fun j hj => by rcases (show j = 0 ∨ j = 1 ∨ j = 2 ∨ j = 3 ∨ j = 4 by omega) with rfl | rfl | rfl | rfl | rfl <;> rfl) (show 75 + i + 1 ≤ 113 by omega) (show 12541 + 5 * i + 5 ≤ 14511 by omega) dX9_init_131 (fun h1 H eg1 hP _ hS _ => ?_)
        refine lv_dup hx hb dX9_init_134 rfl ?_
        refine W_hz (N0 := 1) hz0 hP (by omega) (by omega) (fun hz => ?_)
        refine kGI (As := []) (rest := [.ref (bd b0 (76 + i)), .int (nI i), .ref (bd b0 34)]) S hK hN hz hP hS (c_X8_init l D cy b0 (76 + i + 1) h1 (76 + i) (by omega) (by rw [eg1, va_up_self])) ci_X9_21 ⟨rfl, rfl⟩ rfl hl.1 rfl (Nat.le_of_ble_eq_true rfl) ⟨show 75 + i + 1 + 0 ≤ 113 by omega, show 12541 + 5 * i + 5 + 0 ≤ 14511 by omega⟩ dX9_init_135 (fun h2 H locs q2 _ hP hS => ?_)
        obtain ⟨q2v0, q2f⟩ := q2
        have hb2 : ∀ j, j < 76 + i → h2 j = h j := fun j hj => (q2f j (by omega) (by omega)).trans ((congrFun eg1 _).trans (va_up_ne _ _ (by omega)))
        refine gast (t := 6) (C := RX8) (T := TX8) (NF := 5) S hK hP bd_MD hS (k := 34) (kv := 76 + i) (by omega) ((hb2 34 (by omega)).trans ha0) rfl (by omega) q2v0 rfl (vp_in_nI (by omega) (by omega)) dX9_init_138 (fun h3 H locs eg3 hP hS => ?_)
        refine lv_iinc (v := nI (i + 1)) (lv' := [(1, .int (nI (i + 1))), (0, .ref (bd b0 0))]) hx hb dX9_init_139 hl (k := 0) rfl (by exact nI_add i 1) (by decide) rfl (fun ls hl => ?_)
        refine lv_goto (tgt := 117) hx hb dX9_init_142 (by decide) ?_
        have hb3 : ∀ j, j < 76 + i → j ≠ 34 → h3 j = h j := fun j hj hn => (congrFun eg3 _).trans ((va_up_ne _ _ hn).trans (hb2 j hj))
        refine W.widen (k := 75 + (i + 1)) (n := 12541 + 5 * (i + 1)) (by omega) (by omega) ?_
        exact ih (i + 1) (by omega) (by omega) h3 H locs ((hb3 0 (by omega) (by omega)).trans hk0) (by rw [eg3, va_up_self, nI_clamp (by omega), afu_s1]) (fun j hj => by
          by_cases e : j = i
          · subst e; exact (congrFun eg3 _).trans ((va_up_ne _ _ (by omega)).trans q2v0)
          · exact (hb3 _ (by omega) (by omega)).trans (v0 j (by omega))) (fun j a b => (hb3 j (by omega) b).trans (hf0 j a b)) (MM_n (by omega) hP) hS ls hl
  refine W.widen (k := 75 + 0) (n := 12541 + 5 * 0) (by omega) (by omega) ?_
  refine L117 (fun g_30 H locs h0_30 h34_30 w0_30 f_30 hP hS ls hl => ?_) 7 0 (by omega) (by omega) g_29 H locs h0_29 (by rw [h34_29, afu_0 b0 76 1]) (fun j hj => absurd hj (Nat.not_lt_zero _)) (fun j _ _ => rfl) hP hS ls hl
  have h52_30 : g_30 52 = .inl (cy 3, 8, .inr (.inr (.inr (.inr (fun _ => none))))) := (f_30 52 (by decide) (by decide)).trans h52_29
  have h53_30 : g_30 53 = .inl (cy 5, 4, .inr (.inr (.inr (.inr (fun _ => none))))) := (f_30 53 (by decide) (by decide)).trans h53_29
  have h75_30 : g_30 75 = .inl (cy 4, 4, .inr (.inr (.inr (.inr (fun _ => none))))) := (f_30 75 (by decide) (by decide)).trans h75_29
  refine lv_iconst (v := nI 0) hx hb dX9_init_145 (by decide) ?_
  refine lv_istore_n (lv' := [(1, .int (nI 0)), (0, .ref (bd b0 0))]) hx hb dX9_init_146 rfl hl (by decide) rfl (fun ls hl => ?_)
  have L147 : ∀ (kk : ∀ (h : Nat → va_E) (H : Heap) (locs : List Loc), h 0 = .inr (9, [.ref (bd b0 1), .ref (bd b0 17), .ref (bd b0 33), .ref (bd b0 34), .int (nI 0), .ref (bd b0 35), .ref (bd b0 45), .ref (bd b0 47), .ref (bd b0 52), .int (nI 0), .int (nI 0), .int (nI 0), .ref (bd b0 53), .int (nI 0), .ref (bd b0 54), .ref (bd b0 75)]) → h 52 = .inl (cy 3, 8, .inr (.inr (.inr (.inr (afu b0 82 2 8))))) → (∀ j, j < 8 → h (82 + 2 * j) = .inr (0, [.ref (bd b0 (82 + 2 * j + 1)), .int (nI 0)])) → (∀ j, j < 8 → h (82 + 2 * j + 1) = .inl (cy 0, 200, .inl (fun x9 => nI ((fun _ => 0) x9)))) → (∀ j, j < 82 → j ≠ 52 → h j = g_30 j) → MM D (bd b0) 98 h H → va_S (AB b0) s.heap H locs → ∀ (ls : Array Slot), lv_has ls 2 [(1, .int (nI 8)), (0, .ref (bd b0 0))] → W p l e (rmG 4 113 14511 82) s m [.ref (bd b0 0)].toArray below meth c H locs 97 14187 (MQ below (QG (IX9 b0 cy g) D b0 114) [.ref (bd b0 0)].toArray s 113 14511 (AB b0)) (F0 m 175 ls [])), ∀ (fu i : Nat), i ≤ 8 → 8 - i < fu → ∀ (h : Nat → va_E) (H : Heap) (locs : List Loc), h 0 = .inr (9, [.ref (bd b0 1), .ref (bd b0 17), .ref (bd b0 33), .ref (bd b0 34), .int (nI 0), .ref (bd b0 35), .ref (bd b0 45), .ref (bd b0 47), .ref (bd b0 52), .int (nI 0), .int (nI 0), .int (nI 0), .ref (bd b0 53), .int (nI 0), .ref (bd b0 54), .ref (bd b0 75)]) → h 52 = .inl (cy 3, 8, .inr (.inr (.inr (.inr (afu b0 82 2 i))))) → (∀ j, j < i → h (82 + 2 * j) = .inr (0, [.ref (bd b0 (82 + 2 * j + 1)), .int (nI 0)])) → (∀ j, j < i → h (82 + 2 * j + 1) = .inl (cy 0, 200, .inl (fun x9 => nI ((fun _ => 0) x9)))) → (∀ j, j < 82 → j ≠ 52 → h j = g_30 j) → MM D (bd b0) (82 + 2 * i) h H → va_S (AB b0) s.heap H locs → ∀ (ls : Array Slot), lv_has ls 2 [(1, .int (nI i)), (0, .ref (bd b0 0))] → W p l e (rmG 4 113 14511 82) s m [.ref (bd b0 0)].toArray below meth c H locs (81 + 2 * i) (12571 + 202 * i) (MQ below (QG (IX9 b0 cy g) D b0 114) [.ref (bd b0 0)].toArray s 113 14511 (AB b0)) (F0 m 147 ls []) := by
    intro kk fu
    induction fu with
    | zero => intro i h1 h2; exact absurd h2 (Nat.not_lt_zero _)
    | succ fu ih =>
      intro i h1 h2 h H locs hk0 ha0 v0 v1 hf0 hP hS ls hl
      refine lv_iload_n hx hb dX9_init_147 rfl (lv_at hl 0 rfl) ?_
      refine lv_aload_n hx hb dX9_init_148 rfl (lv_at hl 1 rfl) ?_
      refine mg S hK hP (k := 0) (by omega) hk0 fd_X9_53 rfl dX9_init_149 ?_
      refine malen S hK hP (k := 52) (t := 3) (by omega) ha0 rfl (v := nI 8) rfl dX9_init_152 ?_
      refine lv_icmp_ge (tgt := 175) hx hb dX9_init_153 (by decide) (fun c_9 => ?_) (fun c_9 => ?_)
      · have e : i = 8 := by have := (nI_leI (by omega) (by omega)).mp c_9; omega
        subst e
        exact kk h H locs hk0 ha0 v0 v1 hf0 hP hS ls hl
      · have hi : i < 8 := by
          rcases Nat.lt_or_ge i 8 with z | z
          · exact z
          · exact absurd ((nI_leI (by omega) (by omega)).mpr z) c_9
        refine lv_aload_n hx hb dX9_init_156 rfl (lv_at hl 1 rfl) ?_
        refine mg S hK hP (k := 0) (by omega) hk0 fd_X9_53 rfl dX9_init_157 ?_
        refine lv_iload_n hx hb dX9_init_160 rfl (lv_at hl 0 rfl) ?_
        refine W_hz (N0 := 1) hz0 hP (by omega) (by omega) (fun hz => ?_)
        refine gnew (ci := 0) (NF := 2) (C := RX0) (T := TX0) (ty := tyX0) (fs := [.null, .int (nI 0)]) S hK hP bd_MD hS hA hz.symm rfl inlX0 tyX0_ok m_X9_51 mj_RX0 mn_RX0 (fun j hj => by rcases (show j = 0 ∨ j = 1 by omega) with rfl | rfl <;> rfl) (show 81 + 2 * i + 1 ≤ 113 by omega) (show 12571 + 202 * i + 2 ≤ 14511 by omega) dX9_init_161 (fun h1 H eg1 hP _ hS _ => ?_)
        refine lv_dup hx hb dX9_init_164 rfl ?_
        refine W_hz (N0 := 1) hz0 hP (by omega) (by omega) (fun hz => ?_)
        refine kGN (As := []) (rest := [.ref (bd b0 (82 + 2 * i)), .int (nI i), .ref (bd b0 52)]) S hK hN hz hP hS (c_X0_init l D cy b0 (82 + 2 * i + 1) h1 (82 + 2 * i) (by omega) (by rw [eg1, va_up_self])) (by decide) mi_yX0_init mn_RX0 mc_yX0_init rfl (by decide +kernel) ⟨rfl, rfl⟩ rfl hl.1 rfl (Nat.le_of_ble_eq_true rfl) ⟨show 81 + 2 * i + 1 + 1 ≤ 113 by omega, show 12571 + 202 * i + 2 + 200 ≤ 14511 by omega⟩ dX9_init_165 (fun h2 H locs q2 _ hP hS => ?_)
        obtain ⟨q2v0, q2v1, q2f⟩ := q2
        have hb2 : ∀ j, j < 82 + 2 * i → h2 j = h j := fun j hj => (q2f j (by omega) (by omega)).trans ((congrFun eg1 _).trans (va_up_ne _ _ (by omega)))
        refine gast (t := 3) (C := RX0) (T := TX0) (NF := 2) S hK hP bd_MD hS (k := 52) (kv := 82 + 2 * i) (by omega) ((hb2 52 (by omega)).trans ha0) rfl (by omega) q2v0 rfl (vp_in_nI (by omega) (by omega)) dX9_init_168 (fun h3 H locs eg3 hP hS => ?_)
        refine lv_iinc (v := nI (i + 1)) (lv' := [(1, .int (nI (i + 1))), (0, .ref (bd b0 0))]) hx hb dX9_init_169 hl (k := 0) rfl (by exact nI_add i 1) (by decide) rfl (fun ls hl => ?_)
        refine lv_goto (tgt := 147) hx hb dX9_init_172 (by decide) ?_
        have hb3 : ∀ j, j < 82 + 2 * i → j ≠ 52 → h3 j = h j := fun j hj hn => (congrFun eg3 _).trans ((va_up_ne _ _ hn).trans (hb2 j hj))
        refine W.widen (k := 81 + 2 * (i + 1)) (n := 12571 + 202 * (i + 1)) (by omega) (by omega) ?_
        exact ih (i + 1) (by omega) (by omega) h3 H locs ((hb3 0 (by omega) (by omega)).trans hk0) (by rw [eg3, va_up_self, nI_clamp (by omega), afu_s]) (fun j hj => by
          by_cases e : j = i
          · subst e; exact (congrFun eg3 _).trans ((va_up_ne _ _ (by omega)).trans q2v0)
          · exact (hb3 _ (by omega) (by omega)).trans (v0 j (by omega))) (fun j hj => by
          by_cases e : j = i
          · subst e; exact (congrFun eg3 _).trans ((va_up_ne _ _ (by omega)).trans q2v1)
          · exact (hb3 _ (by omega) (by omega)).trans (v1 j (by omega))) (fun j a b => (hb3 j (by omega) b).trans (hf0 j a b)) (MM_n (by omega) hP) hS ls hl
  refine W.widen (k := 81 + 2 * 0) (n := 12571 + 202 * 0) (by omega) (by omega) ?_
  refine L147 (fun g_31 H locs h0_31 h52_31 w0_31 w1_31 f_31 hP hS ls hl => ?_) 9 0 (by omega) (by omega) g_30 H locs h0_30 (by rw [h52_30, afu_0 b0 82 2]) (fun j hj => absurd hj (Nat.not_lt_zero _)) (fun j hj => absurd hj (Nat.not_lt_zero _)) (fun j _ _ => rfl) hP hS ls hl
  have h34_31 : g_31 34 = .inl (cy 6, 6, .inr (.inr (.inr (.inr (afu b0 76 1 6))))) := (f_31 34 (by decide) (by decide)).trans h34_30
  have h53_31 : g_31 53 = .inl (cy 5, 4, .inr (.inr (.inr (.inr (fun _ => none))))) := (f_31 53 (by decide) (by decide)).trans h53_30
  have h75_31 : g_31 75 = .inl (cy 4, 4, .inr (.inr (.inr (.inr (fun _ => none))))) := (f_31 75 (by decide) (by decide)).trans h75_30
  refine lv_iconst (v := nI 0) hx hb dX9_init_175 (by decide) ?_
  refine lv_istore_n (lv' := [(1, .int (nI 0)), (0, .ref (bd b0 0))]) hx hb dX9_init_176 rfl hl (by decide) rfl (fun ls hl => ?_)
  have L177 : ∀ (kk : ∀ (h : Nat → va_E) (H : Heap) (locs : List Loc), h 0 = .inr (9, [.ref (bd b0 1), .ref (bd b0 17), .ref (bd b0 33), .ref (bd b0 34), .int (nI 0), .ref (bd b0 35), .ref (bd b0 45), .ref (bd b0 47), .ref (bd b0 52), .int (nI 0), .int (nI 0), .int (nI 0), .ref (bd b0 53), .int (nI 0), .ref (bd b0 54), .ref (bd b0 75)]) → h 53 = .inl (cy 5, 4, .inr (.inr (.inr (.inr (afu b0 98 2 4))))) → (∀ j, j < 4 → h (98 + 2 * j) = .inr (7, [.ref (bd b0 (98 + 2 * j + 1)), .int (nI 0)])) → (∀ j, j < 4 → h (98 + 2 * j + 1) = .inl (cy 1, 16, .inl (fun x9 => nI ((fun _ => 0) x9)))) → (∀ j, j < 98 → j ≠ 53 → h j = g_31 j) → MM D (bd b0) 106 h H → va_S (AB b0) s.heap H locs → ∀ (ls : Array Slot), lv_has ls 2 [(1, .int (nI 4)), (0, .ref (bd b0 0))] → W p l e (rmG 4 113 14511 82) s m [.ref (bd b0 0)].toArray below meth c H locs 105 14259 (MQ below (QG (IX9 b0 cy g) D b0 114) [.ref (bd b0 0)].toArray s 113 14511 (AB b0)) (F0 m 205 ls [])), ∀ (fu i : Nat), i ≤ 4 → 4 - i < fu → ∀ (h : Nat → va_E) (H : Heap) (locs : List Loc), h 0 = .inr (9, [.ref (bd b0 1), .ref (bd b0 17), .ref (bd b0 33), .ref (bd b0 34), .int (nI 0), .ref (bd b0 35), .ref (bd b0 45), .ref (bd b0 47), .ref (bd b0 52), .int (nI 0), .int (nI 0), .int (nI 0), .ref (bd b0 53), .int (nI 0), .ref (bd b0 54), .ref (bd b0 75)]) → h 53 = .inl (cy 5, 4, .inr (.inr (.inr (.inr (afu b0 98 2 i))))) → (∀ j, j < i → h (98 + 2 * j) = .inr (7, [.ref (bd b0 (98 + 2 * j + 1)), .int (nI 0)])) → (∀ j, j < i → h (98 + 2 * j + 1) = .inl (cy 1, 16, .inl (fun x9 => nI ((fun _ => 0) x9)))) → (∀ j, j < 98 → j ≠ 53 → h j = g_31 j) → MM D (bd b0) (98 + 2 * i) h H → va_S (AB b0) s.heap H locs → ∀ (ls : Array Slot), lv_has ls 2 [(1, .int (nI i)), (0, .ref (bd b0 0))] → W p l e (rmG 4 113 14511 82) s m [.ref (bd b0 0)].toArray below meth c H locs (97 + 2 * i) (14187 + 18 * i) (MQ below (QG (IX9 b0 cy g) D b0 114) [.ref (bd b0 0)].toArray s 113 14511 (AB b0)) (F0 m 177 ls []) := by
    intro kk fu
    induction fu with
    | zero => intro i h1 h2; exact absurd h2 (Nat.not_lt_zero _)
    | succ fu ih =>
      intro i h1 h2 h H locs hk0 ha0 v0 v1 hf0 hP hS ls hl
      refine lv_iload_n hx hb dX9_init_177 rfl (lv_at hl 0 rfl) ?_
      refine lv_aload_n hx hb dX9_init_178 rfl (lv_at hl 1 rfl) ?_
      refine mg S hK hP (k := 0) (by omega) hk0 fd_X9_59 rfl dX9_init_179 ?_
      refine malen S hK hP (k := 53) (t := 5) (by omega) ha0 rfl (v := nI 4) rfl dX9_init_182 ?_
      refine lv_icmp_ge (tgt := 205) hx hb dX9_init_183 (by decide) (fun c_9 => ?_) (fun c_9 => ?_)
      · have e : i = 4 := by have := (nI_leI (by omega) (by omega)).mp c_9; omega
        subst e
        exact kk h H locs hk0 ha0 v0 v1 hf0 hP hS ls hl
      · have hi : i < 4 := by
          rcases Nat.lt_or_ge i 4 with z | z
          · exact z
          · exact absurd ((nI_leI (by omega) (by omega)).mpr z) c_9
        refine lv_aload_n hx hb dX9_init_186 rfl (lv_at hl 1 rfl) ?_
        refine mg S hK hP (k := 0) (by omega) hk0 fd_X9_59 rfl dX9_init_187 ?_
        refine lv_iload_n hx hb dX9_init_190 rfl (lv_at hl 0 rfl) ?_
        refine W_hz (N0 := 1) hz0 hP (by omega) (by omega) (fun hz => ?_)
        refine gnew (ci := 7) (NF := 2) (C := RX7) (T := TX7) (ty := tyX7) (fs := [.null, .int (nI 0)]) S hK hP bd_MD hS hA hz.symm rfl inlX7 tyX7_ok m_X9_57 mj_RX7 mn_RX7 (fun j hj => by rcases (show j = 0 ∨ j = 1 by omega) with rfl | rfl <;> rfl) (show 97 + 2 * i + 1 ≤ 113 by omega) (show 14187 + 18 * i + 2 ≤ 14511 by omega) dX9_init_191 (fun h1 H eg1 hP _ hS _ => ?_)
        refine lv_dup hx hb dX9_init_194 rfl ?_
        refine W_hz (N0 := 1) hz0 hP (by omega) (by omega) (fun hz => ?_)
        refine kGN (As := []) (rest := [.ref (bd b0 (98 + 2 * i)), .int (nI i), .ref (bd b0 53)]) S hK hN hz hP hS (c_X7_init l D cy b0 (98 + 2 * i + 1) h1 (98 + 2 * i) (by omega) (by rw [eg1, va_up_self])) (by decide) mi_yX7_init mn_RX7 mc_yX7_init rfl (by decide +kernel) ⟨rfl, rfl⟩ rfl hl.1 rfl (Nat.le_of_ble_eq_true rfl) ⟨show 97 + 2 * i + 1 + 1 ≤ 113 by omega, show 14187 + 18 * i + 2 + 16 ≤ 14511 by omega⟩ dX9_init_195 (fun h2 H locs q2 _ hP hS => ?_)
        obtain ⟨q2v0, q2v1, q2f⟩ := q2
        have hb2 : ∀ j, j < 98 + 2 * i → h2 j = h j := fun j hj => (q2f j (by omega) (by omega)).trans ((congrFun eg1 _).trans (va_up_ne _ _ (by omega)))
        refine gast (t := 5) (C := RX7) (T := TX7) (NF := 2) S hK hP bd_MD hS (k := 53) (kv := 98 + 2 * i) (by omega) ((hb2 53 (by omega)).trans ha0) rfl (by omega) q2v0 rfl (vp_in_nI (by omega) (by omega)) dX9_init_198 (fun h3 H locs eg3 hP hS => ?_)
        refine lv_iinc (v := nI (i + 1)) (lv' := [(1, .int (nI (i + 1))), (0, .ref (bd b0 0))]) hx hb dX9_init_199 hl (k := 0) rfl (by exact nI_add i 1) (by decide) rfl (fun ls hl => ?_)
        refine lv_goto (tgt := 177) hx hb dX9_init_202 (by decide) ?_
        have hb3 : ∀ j, j < 98 + 2 * i → j ≠ 53 → h3 j = h j := fun j hj hn => (congrFun eg3 _).trans ((va_up_ne _ _ hn).trans (hb2 j hj))
        refine W.widen (k := 97 + 2 * (i + 1)) (n := 14187 + 18 * (i + 1)) (by omega) (by omega) ?_
        exact ih (i + 1) (by omega) (by omega) h3 H locs ((hb3 0 (by omega) (by omega)).trans hk0) (by rw [eg3, va_up_self, nI_clamp (by omega), afu_s]) (fun j hj => by
          by_cases e : j = i
          · subst e; exact (congrFun eg3 _).trans ((va_up_ne _ _ (by omega)).trans q2v0)
          · exact (hb3 _ (by omega) (by omega)).trans (v0 j (by omega))) (fun j hj => by
          by_cases e : j = i
          · subst e; exact (congrFun eg3 _).trans ((va_up_ne _ _ (by omega)).trans q2v1)
          · exact (hb3 _ (by omega) (by omega)).trans (v1 j (by omega))) (fun j a b => (hb3 j (by omega) b).trans (hf0 j a b)) (MM_n (by omega) hP) hS ls hl
  refine W.widen (k := 97 + 2 * 0) (n := 14187 + 18 * 0) (by omega) (by omega) ?_
  refine L177 (fun g_32 H locs h0_32 h53_32 w0_32 w1_32 f_32 hP hS ls hl => ?_) 5 0 (by omega) (by omega) g_31 H locs h0_31 (by rw [h53_31, afu_0 b0 98 2]) (fun j hj => absurd hj (Nat.not_lt_zero _)) (fun j hj => absurd hj (Nat.not_lt_zero _)) (fun j _ _ => rfl) hP hS ls hl
  have h34_32 : g_32 34 = .inl (cy 6, 6, .inr (.inr (.inr (.inr (afu b0 76 1 6))))) := (f_32 34 (by decide) (by decide)).trans h34_31
  have h52_32 : g_32 52 = .inl (cy 3, 8, .inr (.inr (.inr (.inr (afu b0 82 2 8))))) := (f_32 52 (by decide) (by decide)).trans h52_31
  have h75_32 : g_32 75 = .inl (cy 4, 4, .inr (.inr (.inr (.inr (fun _ => none))))) := (f_32 75 (by decide) (by decide)).trans h75_31
  refine lv_iconst (v := nI 0) hx hb dX9_init_205 (by decide) ?_
  refine lv_istore_n (lv' := [(1, .int (nI 0)), (0, .ref (bd b0 0))]) hx hb dX9_init_206 rfl hl (by decide) rfl (fun ls hl => ?_)
  have L207 : ∀ (kk : ∀ (h : Nat → va_E) (H : Heap) (locs : List Loc), h 0 = .inr (9, [.ref (bd b0 1), .ref (bd b0 17), .ref (bd b0 33), .ref (bd b0 34), .int (nI 0), .ref (bd b0 35), .ref (bd b0 45), .ref (bd b0 47), .ref (bd b0 52), .int (nI 0), .int (nI 0), .int (nI 0), .ref (bd b0 53), .int (nI 0), .ref (bd b0 54), .ref (bd b0 75)]) → h 75 = .inl (cy 4, 4, .inr (.inr (.inr (.inr (afu b0 106 2 4))))) → (∀ j, j < 4 → h (106 + 2 * j) = .inr (4, [.ref (bd b0 (106 + 2 * j + 1)), .int (-1), .int (nI 0)])) → (∀ j, j < 4 → h (106 + 2 * j + 1) = .inl (cy 1, 60, .inl (fun x9 => nI ((fun _ => 0) x9)))) → (∀ j, j < 106 → j ≠ 75 → h j = g_32 j) → MM D (bd b0) 114 h H → va_S (AB b0) s.heap H locs → ∀ (ls : Array Slot), lv_has ls 2 [(1, .int (nI 4)), (0, .ref (bd b0 0))] → W p l e (rmG 4 113 14511 82) s m [.ref (bd b0 0)].toArray below meth c H locs 113 14511 (MQ below (QG (IX9 b0 cy g) D b0 114) [.ref (bd b0 0)].toArray s 113 14511 (AB b0)) (F0 m 235 ls [])), ∀ (fu i : Nat), i ≤ 4 → 4 - i < fu → ∀ (h : Nat → va_E) (H : Heap) (locs : List Loc), h 0 = .inr (9, [.ref (bd b0 1), .ref (bd b0 17), .ref (bd b0 33), .ref (bd b0 34), .int (nI 0), .ref (bd b0 35), .ref (bd b0 45), .ref (bd b0 47), .ref (bd b0 52), .int (nI 0), .int (nI 0), .int (nI 0), .ref (bd b0 53), .int (nI 0), .ref (bd b0 54), .ref (bd b0 75)]) → h 75 = .inl (cy 4, 4, .inr (.inr (.inr (.inr (afu b0 106 2 i))))) → (∀ j, j < i → h (106 + 2 * j) = .inr (4, [.ref (bd b0 (106 + 2 * j + 1)), .int (-1), .int (nI 0)])) → (∀ j, j < i → h (106 + 2 * j + 1) = .inl (cy 1, 60, .inl (fun x9 => nI ((fun _ => 0) x9)))) → (∀ j, j < 106 → j ≠ 75 → h j = g_32 j) → MM D (bd b0) (106 + 2 * i) h H → va_S (AB b0) s.heap H locs → ∀ (ls : Array Slot), lv_has ls 2 [(1, .int (nI i)), (0, .ref (bd b0 0))] → W p l e (rmG 4 113 14511 82) s m [.ref (bd b0 0)].toArray below meth c H locs (105 + 2 * i) (14259 + 63 * i) (MQ below (QG (IX9 b0 cy g) D b0 114) [.ref (bd b0 0)].toArray s 113 14511 (AB b0)) (F0 m 207 ls []) := by
    intro kk fu
    induction fu with
    | zero => intro i h1 h2; exact absurd h2 (Nat.not_lt_zero _)
    | succ fu ih =>
      intro i h1 h2 h H locs hk0 ha0 v0 v1 hf0 hP hS ls hl
      refine lv_iload_n hx hb dX9_init_207 rfl (lv_at hl 0 rfl) ?_
      refine lv_aload_n hx hb dX9_init_208 rfl (lv_at hl 1 rfl) ?_
      refine mg S hK hP (k := 0) (by omega) hk0 fd_X9_72 rfl dX9_init_209 ?_
      refine malen S hK hP (k := 75) (t := 4) (by omega) ha0 rfl (v := nI 4) rfl dX9_init_212 ?_
      refine lv_icmp_ge (tgt := 235) hx hb dX9_init_213 (by decide) (fun c_9 => ?_) (fun c_9 => ?_)
      · have e : i = 4 := by have := (nI_leI (by omega) (by omega)).mp c_9; omega
        subst e
        exact kk h H locs hk0 ha0 v0 v1 hf0 hP hS ls hl
      · have hi : i < 4 := by
          rcases Nat.lt_or_ge i 4 with z | z
          · exact z
          · exact absurd ((nI_leI (by omega) (by omega)).mpr z) c_9
        refine lv_aload_n hx hb dX9_init_216 rfl (lv_at hl 1 rfl) ?_
        refine mg S hK hP (k := 0) (by omega) hk0 fd_X9_72 rfl dX9_init_217 ?_
        refine lv_iload_n hx hb dX9_init_220 rfl (lv_at hl 0 rfl) ?_
        refine W_hz (N0 := 1) hz0 hP (by omega) (by omega) (fun hz => ?_)
        refine gnew (ci := 4) (NF := 3) (C := RX4) (T := TX4) (ty := tyX4) (fs := [.null, .int (nI 0), .int (nI 0)]) S hK hP bd_MD hS hA hz.symm rfl inlX4 tyX4_ok m_X9_70 mj_RX4 mn_RX4 (fun j hj => by rcases (show j = 0 ∨ j = 1 ∨ j = 2 by omega) with rfl | rfl | rfl <;> rfl) (show 105 + 2 * i + 1 ≤ 113 by omega) (show 14259 + 63 * i + 3 ≤ 14511 by omega) dX9_init_221 (fun h1 H eg1 hP _ hS _ => ?_)
        refine lv_dup hx hb dX9_init_224 rfl ?_
        refine W_hz (N0 := 1) hz0 hP (by omega) (by omega) (fun hz => ?_)
        refine kGN (As := []) (rest := [.ref (bd b0 (106 + 2 * i)), .int (nI i), .ref (bd b0 75)]) S hK hN hz hP hS (c_X4_init l D cy b0 (106 + 2 * i + 1) h1 (106 + 2 * i) (by omega) (by rw [eg1, va_up_self])) (by decide) mi_yX4_init mn_RX4 mc_yX4_init rfl (by decide +kernel) ⟨rfl, rfl⟩ rfl hl.1 rfl (Nat.le_of_ble_eq_true rfl) ⟨show 105 + 2 * i + 1 + 1 ≤ 113 by omega, show 14259 + 63 * i + 3 + 60 ≤ 14511 by omega⟩ dX9_init_225 (fun h2 H locs q2 _ hP hS => ?_)
        obtain ⟨q2v0, q2v1, q2f⟩ := q2
        have hb2 : ∀ j, j < 106 + 2 * i → h2 j = h j := fun j hj => (q2f j (by omega) (by omega)).trans ((congrFun eg1 _).trans (va_up_ne _ _ (by omega)))
        refine gast (t := 4) (C := RX4) (T := TX4) (NF := 3) S hK hP bd_MD hS (k := 75) (kv := 106 + 2 * i) (by omega) ((hb2 75 (by omega)).trans ha0) rfl (by omega) q2v0 rfl (vp_in_nI (by omega) (by omega)) dX9_init_228 (fun h3 H locs eg3 hP hS => ?_)
        refine lv_iinc (v := nI (i + 1)) (lv' := [(1, .int (nI (i + 1))), (0, .ref (bd b0 0))]) hx hb dX9_init_229 hl (k := 0) rfl (by exact nI_add i 1) (by decide) rfl (fun ls hl => ?_)
        refine lv_goto (tgt := 207) hx hb dX9_init_232 (by decide) ?_
        have hb3 : ∀ j, j < 106 + 2 * i → j ≠ 75 → h3 j = h j := fun j hj hn => (congrFun eg3 _).trans ((va_up_ne _ _ hn).trans (hb2 j hj))
        refine W.widen (k := 105 + 2 * (i + 1)) (n := 14259 + 63 * (i + 1)) (by omega) (by omega) ?_
        exact ih (i + 1) (by omega) (by omega) h3 H locs ((hb3 0 (by omega) (by omega)).trans hk0) (by rw [eg3, va_up_self, nI_clamp (by omega), afu_s]) (fun j hj => by
          by_cases e : j = i
          · subst e; exact (congrFun eg3 _).trans ((va_up_ne _ _ (by omega)).trans q2v0)
          · exact (hb3 _ (by omega) (by omega)).trans (v0 j (by omega))) (fun j hj => by
          by_cases e : j = i
          · subst e; exact (congrFun eg3 _).trans ((va_up_ne _ _ (by omega)).trans q2v1)
          · exact (hb3 _ (by omega) (by omega)).trans (v1 j (by omega))) (fun j a b => (hb3 j (by omega) b).trans (hf0 j a b)) (MM_n (by omega) hP) hS ls hl
  refine W.widen (k := 105 + 2 * 0) (n := 14259 + 63 * 0) (by omega) (by omega) ?_
  refine L207 (fun g_33 H locs h0_33 h75_33 w0_33 w1_33 f_33 hP hS ls hl => ?_) 5 0 (by omega) (by omega) g_32 H locs h0_32 (by rw [h75_32, afu_0 b0 106 2]) (fun j hj => absurd hj (Nat.not_lt_zero _)) (fun j hj => absurd hj (Nat.not_lt_zero _)) (fun j _ _ => rfl) hP hS ls hl
  have h34_33 : g_33 34 = .inl (cy 6, 6, .inr (.inr (.inr (.inr (afu b0 76 1 6))))) := (f_33 34 (by decide) (by decide)).trans h34_32
  have h52_33 : g_33 52 = .inl (cy 3, 8, .inr (.inr (.inr (.inr (afu b0 82 2 8))))) := (f_33 52 (by decide) (by decide)).trans h52_32
  have h53_33 : g_33 53 = .inl (cy 5, 4, .inr (.inr (.inr (.inr (afu b0 98 2 4))))) := (f_33 53 (by decide) (by decide)).trans h53_32
  have B_33 : ∀ j : Nat, spA j = false → g_33 j = g_33 j := fun _ _ => rfl
  have B_32 : ∀ j : Nat, j < 106 → spA j = false → g_33 j = g_32 j := fun j a b => (B_33 j b).trans ((fun j a b => f_33 j a (spA_ne b rfl) : ∀ j : Nat, j < 106 → spA j = false → g_33 j = g_32 j) j a b)
  have B_31 : ∀ j : Nat, j < 98 → spA j = false → g_33 j = g_31 j := fun j a b => (B_32 j (Nat.lt_of_lt_of_le a (Nat.le_of_ble_eq_true rfl)) b).trans ((fun j a b => f_32 j a (spA_ne b rfl) : ∀ j : Nat, j < 98 → spA j = false → g_32 j = g_31 j) j a b)
  have B_30 : ∀ j : Nat, j < 82 → spA j = false → g_33 j = g_30 j := fun j a b => (B_31 j (Nat.lt_of_lt_of_le a (Nat.le_of_ble_eq_true rfl)) b).trans ((fun j a b => f_31 j a (spA_ne b rfl) : ∀ j : Nat, j < 82 → spA j = false → g_31 j = g_30 j) j a b)
  have B_29 : ∀ j : Nat, j < 76 → spA j = false → g_33 j = g_29 j := fun j a b => (B_30 j (Nat.lt_of_lt_of_le a (Nat.le_of_ble_eq_true rfl)) b).trans ((fun j a b => f_30 j a (spA_ne b rfl) : ∀ j : Nat, j < 76 → spA j = false → g_30 j = g_29 j) j a b)
  have B_28 : ∀ j : Nat, j < 76 → spA j = false → g_33 j = g_28 j := fun j a b => (B_29 j a b).trans ((fun j a b => (congrFun eg_29 _).trans (va_up_ne _ _ (spA_ne b rfl)) : ∀ j : Nat, j < 76 → spA j = false → g_29 j = g_28 j) j a b)
  have B_27 : ∀ j : Nat, j < 75 → spA j = false → g_33 j = g_27 j := fun j a b => (B_28 j (Nat.lt_of_lt_of_le a (Nat.le_of_ble_eq_true rfl)) b).trans ((fun j a b => (congrFun eg_28 _).trans (va_up_ne _ _ (Nat.ne_of_lt a)) : ∀ j : Nat, j < 75 → spA j = false → g_28 j = g_27 j) j a b)
  have B_26 : ∀ j : Nat, j < 75 → spA j = false → g_33 j = g_26 j := fun j a b => (B_27 j a b).trans ((fun j a b => (congrFun eg_27 _).trans (va_up_ne _ _ (spA_ne b rfl)) : ∀ j : Nat, j < 75 → spA j = false → g_27 j = g_26 j) j a b)
  have B_24 : ∀ j : Nat, j < 54 → spA j = false → g_33 j = g_24 j := fun j a b => (B_26 j (Nat.lt_of_lt_of_le a (Nat.le_of_ble_eq_true rfl)) b).trans ((fun j a b => F_26 j a : ∀ j : Nat, j < 54 → spA j = false → g_26 j = g_24 j) j a b)
  have B_23 : ∀ j : Nat, j < 54 → spA j = false → g_33 j = g_23 j := fun j a b => (B_24 j a b).trans ((fun j a b => (congrFun eg_24 _).trans (va_up_ne _ _ (spA_ne b rfl)) : ∀ j : Nat, j < 54 → spA j = false → g_24 j = g_23 j) j a b)
  have B_22 : ∀ j : Nat, j < 53 → spA j = false → g_33 j = g_22 j := fun j a b => (B_23 j (Nat.lt_of_lt_of_le a (Nat.le_of_ble_eq_true rfl)) b).trans ((fun j a b => (congrFun eg_23 _).trans (va_up_ne _ _ (Nat.ne_of_lt a)) : ∀ j : Nat, j < 53 → spA j = false → g_23 j = g_22 j) j a b)
  have B_21 : ∀ j : Nat, j < 53 → spA j = false → g_33 j = g_21 j := fun j a b => (B_22 j a b).trans ((fun j a b => (congrFun eg_22 _).trans (va_up_ne _ _ (spA_ne b rfl)) : ∀ j : Nat, j < 53 → spA j = false → g_22 j = g_21 j) j a b)
  have B_20 : ∀ j : Nat, j < 52 → spA j = false → g_33 j = g_20 j := fun j a b => (B_21 j (Nat.lt_of_lt_of_le a (Nat.le_of_ble_eq_true rfl)) b).trans ((fun j a b => (congrFun eg_21 _).trans (va_up_ne _ _ (Nat.ne_of_lt a)) : ∀ j : Nat, j < 52 → spA j = false → g_21 j = g_20 j) j a b)
  have B_19 : ∀ j : Nat, j < 52 → spA j = false → g_33 j = g_19 j := fun j a b => (B_20 j a b).trans ((fun j a b => (congrFun eg_20 _).trans (va_up_ne _ _ (spA_ne b rfl)) : ∀ j : Nat, j < 52 → spA j = false → g_20 j = g_19 j) j a b)
  have B_17 : ∀ j : Nat, j < 47 → spA j = false → g_33 j = g_17 j := fun j a b => (B_19 j (Nat.lt_of_lt_of_le a (Nat.le_of_ble_eq_true rfl)) b).trans ((fun j a b => F_19 j a : ∀ j : Nat, j < 47 → spA j = false → g_19 j = g_17 j) j a b)
  have B_16 : ∀ j : Nat, j < 47 → spA j = false → g_33 j = g_16 j := fun j a b => (B_17 j a b).trans ((fun j a b => (congrFun eg_17 _).trans (va_up_ne _ _ (spA_ne b rfl)) : ∀ j : Nat, j < 47 → spA j = false → g_17 j = g_16 j) j a b)
  have B_14 : ∀ j : Nat, j < 45 → spA j = false → g_33 j = g_14 j := fun j a b => (B_16 j (Nat.lt_of_lt_of_le a (Nat.le_of_ble_eq_true rfl)) b).trans ((fun j a b => F_16 j a : ∀ j : Nat, j < 45 → spA j = false → g_16 j = g_14 j) j a b)
  have B_13 : ∀ j : Nat, j < 45 → spA j = false → g_33 j = g_13 j := fun j a b => (B_14 j a b).trans ((fun j a b => (congrFun eg_14 _).trans (va_up_ne _ _ (spA_ne b rfl)) : ∀ j : Nat, j < 45 → spA j = false → g_14 j = g_13 j) j a b)
  have B_11 : ∀ j : Nat, j < 35 → spA j = false → g_33 j = g_11 j := fun j a b => (B_13 j (Nat.lt_of_lt_of_le a (Nat.le_of_ble_eq_true rfl)) b).trans ((fun j a b => F_13 j a : ∀ j : Nat, j < 35 → spA j = false → g_13 j = g_11 j) j a b)
  have B_10 : ∀ j : Nat, j < 35 → spA j = false → g_33 j = g_10 j := fun j a b => (B_11 j a b).trans ((fun j a b => (congrFun eg_11 _).trans (va_up_ne _ _ (spA_ne b rfl)) : ∀ j : Nat, j < 35 → spA j = false → g_11 j = g_10 j) j a b)
  have B_9 : ∀ j : Nat, j < 34 → spA j = false → g_33 j = g_9 j := fun j a b => (B_10 j (Nat.lt_of_lt_of_le a (Nat.le_of_ble_eq_true rfl)) b).trans ((fun j a b => (congrFun eg_10 _).trans (va_up_ne _ _ (Nat.ne_of_lt a)) : ∀ j : Nat, j < 34 → spA j = false → g_10 j = g_9 j) j a b)
  have B_8 : ∀ j : Nat, j < 34 → spA j = false → g_33 j = g_8 j := fun j a b => (B_9 j a b).trans ((fun j a b => (congrFun eg_9 _).trans (va_up_ne _ _ (spA_ne b rfl)) : ∀ j : Nat, j < 34 → spA j = false → g_9 j = g_8 j) j a b)
  have B_6 : ∀ j : Nat, j < 33 → spA j = false → g_33 j = g_6 j := fun j a b => (B_8 j (Nat.lt_of_lt_of_le a (Nat.le_of_ble_eq_true rfl)) b).trans ((fun j a b => F_8 j a : ∀ j : Nat, j < 33 → spA j = false → g_8 j = g_6 j) j a b)
  have B_5 : ∀ j : Nat, j < 33 → spA j = false → g_33 j = g_5 j := fun j a b => (B_6 j a b).trans ((fun j a b => (congrFun eg_6 _).trans (va_up_ne _ _ (spA_ne b rfl)) : ∀ j : Nat, j < 33 → spA j = false → g_6 j = g_5 j) j a b)
  have B_3 : ∀ j : Nat, j < 17 → spA j = false → g_33 j = g_3 j := fun j a b => (B_5 j (Nat.lt_of_lt_of_le a (Nat.le_of_ble_eq_true rfl)) b).trans ((fun j a b => F_5 j a : ∀ j : Nat, j < 17 → spA j = false → g_5 j = g_3 j) j a b)
  have B_2 : ∀ j : Nat, j < 17 → spA j = false → g_33 j = g_2 j := fun j a b => (B_3 j a b).trans ((fun j a b => (congrFun eg_3 _).trans (va_up_ne _ _ (spA_ne b rfl)) : ∀ j : Nat, j < 17 → spA j = false → g_3 j = g_2 j) j a b)
  have B_0 : ∀ j : Nat, j < 1 → spA j = false → g_33 j = g j := fun j a b => (B_2 j (Nat.lt_of_lt_of_le a (Nat.le_of_ble_eq_true rfl)) b).trans ((fun j a b => F_2 j a : ∀ j : Nat, j < 1 → spA j = false → g_2 j = g j) j a b)
  refine W_hz (N0 := 1) hz0 hP (by omega) (by omega) (fun hz => ?_)
  exact rGv S hr hlk hz hP hS ⟨h0_33, h34_33, h52_33, h53_33, h75_33, ((B_2 1 (by decide) rfl).trans h1_2), ((B_2 2 (by decide) rfl).trans h2_2), ((B_2 3 (by decide) rfl).trans h3_2), (fun j hj => (B_2 _ (by omega) (spA_in (by omega))).trans (hF4_2 j hj)), ((B_5 17 (by decide) rfl).trans h17_5), ((B_5 18 (by decide) rfl).trans h18_5), ((B_5 19 (by decide) rfl).trans h19_5), (fun j hj => (B_5 _ (by omega) (spA_in (by omega))).trans (hF20_5 j hj)), ((B_8 33 (by decide) rfl).trans h33_8), ((B_13 35 (by decide) rfl).trans h35_13), ((B_13 36 (by decide) rfl).trans h36_13), ((B_13 37 (by decide) rfl).trans h37_13), ((B_13 38 (by decide) rfl).trans h38_13), ((B_13 39 (by decide) rfl).trans h39_13), ((B_13 40 (by decide) rfl).trans h40_13), ((B_13 41 (by decide) rfl).trans h41_13), ((B_13 42 (by decide) rfl).trans h42_13), ((B_13 43 (by decide) rfl).trans h43_13), ((B_13 44 (by decide) rfl).trans h44_13), ((B_16 45 (by decide) rfl).trans h45_16), ((B_16 46 (by decide) rfl).trans h46_16), ((B_19 47 (by decide) rfl).trans h47_19), ((B_19 48 (by decide) rfl).trans h48_19), ((B_19 49 (by decide) rfl).trans h49_19), ((B_19 50 (by decide) rfl).trans h50_19), ((B_19 51 (by decide) rfl).trans h51_19), ((B_26 54 (by decide) rfl).trans h54_26), ((B_26 55 (by decide) rfl).trans h55_26), ((B_26 73 (by decide) rfl).trans h73_26), ((B_26 74 (by decide) rfl).trans h74_26), (fun j hj => (B_26 _ (by omega) (spA_in (by omega))).trans (hF56_26 j hj)), (fun j hj => (B_30 _ (by omega) (spA_in (by omega))).trans (w0_30 j hj)), (fun j hj => (B_31 _ (by omega) (spA_in (by omega))).trans (w0_31 j hj)), (fun j hj => (B_31 _ (by omega) (spA_in (by omega))).trans (w1_31 j hj)), (fun j hj => (B_32 _ (by omega) (spA_in (by omega))).trans (w0_32 j hj)), (fun j hj => (B_32 _ (by omega) (spA_in (by omega))).trans (w1_32 j hj)), (fun j hj => (B_33 _ (spA_in (by omega))).trans (w0_33 j hj)), (fun j hj => (B_33 _ (spA_in (by omega))).trans (w1_33 j hj)), fun j a b => B_0 j a b⟩ (Nat.le_of_ble_eq_true rfl) (Nat.le_of_ble_eq_true rfl) dX9_init_235


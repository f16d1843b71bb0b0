set_option maxHeartbeats 4000000 in
set_option maxRecDepth 100000 in
theorem c_X1_run (l : Launch) (D : va_G) (cy : Nat → ClassId) (ad : Nat → Nat) (N : Nat) (g : Nat → va_E) (hinj : ∀ i j : Nat, i < N → j < N → ad i = ad j → i = j) (b : Nat) (hbN : b + 16 ≤ N) (nx0 : Nat) (un : Nat) (rf : Int32) (hg : g b = .inr (1, [.ref (ad (b + 1)), .ref (ad (b + 2)), .int (nI (nx0)), .int (nI (un)), .int rf])) (w : WT) (hgn : g (b + 1) = .inr (8, [.int (nI (wn w)), .long (lN (sea (wd w) (wn w))), .int (nI (wf w)), .int (nI (wh w)), .long (lN (wo w))])) (fa : Nat → Option Nat) (hga : g (b + 2) = .inl (cy 6, 13, .inr (.inr (.inr (.inr fa))))) (hfa : ∀ j, j < 13 → fa j = some (ad (b + 3 + j))) (Pw : Nat → WT) (hfam : (∀ j : Nat, j < 13 → g (b + 3 + j) = .inr (8, [.int (nI (wn (Pw j))), .long (lN (sea (wd (Pw j)) (wn (Pw j)))), .int (nI (wf (Pw j))), .int (nI (wh (Pw j))), .long (lN (wo (Pw j)))]))) (hnx : nx0 < 13) (hun : un ≤ 12) (hw : WOK w) (hPw : ∀ j, j < 13 → WOK (Pw j)) (kf : Nat) (hkf : kf < N) (kfb : Nat) (hkfb : kfb < N) (len : Nat) (B : Nat → Nat) (hgf : g kf = .inr (0, [.ref (ad kfb), .int (nI (len))])) (hgfb : g kfb = .inl (cy 0, 200, .inl (fun x9 => nI (B x9)))) (hkk : kf ≠ kfb) (hlen : len ≤ 200) (hB : ∀ i, B i < 64) (hko : (kf < b ∨ b + 16 ≤ kf) ∧ (kfb < b ∨ b + 16 ≤ kfb)) (b0 : Nat) (hb0 : b0 < 2) : Met l yX1_run (WS yX1_run cX1_run 8 (some .int)) (rmF 5 113) (PP [.ref (ad b), .ref (ad kf), .int (nI (b0))] D cy ad N g) (QI (fun r g1 => (r = nI ((rn B len b0 (w, Pw, nx0, un) len).1)) ∧ g1 b = .inr (1, [.ref (ad (b + 1)), .ref (ad (b + 2)), .int (nI ((rn B len b0 (w, Pw, nx0, un) len).2.2.2.2.1)), .int (nI ((rn B len b0 (w, Pw, nx0, un) len).2.2.2.2.2)), .int ((rn B len b0 (w, Pw, nx0, un) len).2.1)]) ∧ g1 (b + 1) = .inr (8, [.int (nI (wn ((rn B len b0 (w, Pw, nx0, un) len).2.2.1))), .long (lN (sea (wd ((rn B len b0 (w, Pw, nx0, un) len).2.2.1)) (wn ((rn B len b0 (w, Pw, nx0, un) len).2.2.1)))), .int (nI (wf ((rn B len b0 (w, Pw, nx0, un) len).2.2.1))), .int (nI (wh ((rn B len b0 (w, Pw, nx0, un) len).2.2.1))), .long (lN (wo ((rn B len b0 (w, Pw, nx0, un) len).2.2.1)))]) ∧ g1 (b + 2) = .inl (cy 6, 13, .inr (.inr (.inr (.inr fa)))) ∧ (∀ j : Nat, j < 13 → g1 (b + 3 + j) = .inr (8, [.int (nI (wn (((rn B len b0 (w, Pw, nx0, un) len).2.2.2.1) j))), .long (lN (sea (wd (((rn B len b0 (w, Pw, nx0, un) len).2.2.2.1) j)) (wn (((rn B len b0 (w, Pw, nx0, un) len).2.2.2.1) j)))), .int (nI (wf (((rn B len b0 (w, Pw, nx0, un) len).2.2.2.1) j))), .int (nI (wh (((rn B len b0 (w, Pw, nx0, un) len).2.2.2.1) j))), .long (lN (wo (((rn B len b0 (w, Pw, nx0, un) len).2.2.2.1) j)))])) ∧ (∀ j, (j < b ∨ b + 16 ≤ j) → g1 j = g j)) D ad N) 0 0 (AA ad N) := by
  refine mentry (by decide) (Nat.le_of_ble_eq_true rfl) (fun p e s m below meth c ls S hr hlk hnm hP hK hl => ?_)
  have S : CallFix p m c cX1_run 8 s _ wsL_law RX1 := S
  have hx := S.1
  have hb := S.2.1
  have hl : lv_has ls 8 [(0, .ref (ad b)), (1, .ref (ad kf)), (2, .int (nI (b0)))] := hl
  have hI : MD (AA ad N) ad N := MD.in hinj
  have hS : va_S (AA ad N) s.heap s.heap [] := va_S.rf
  have hfr : ∀ j : Nat, g j = g j := fun _ => rfl
  refine lv_aload_n hx hb dX1_run_0 rfl (lv_at hl 0 rfl) ?_
  refine lv_iconst (v := nI (0)) hx hb dX1_run_1 (by decide) ?_
  refine mp S hK hP hI hS (by omega) hg fd_X1_46 rfl rfl (Nat.le_of_ble_eq_true rfl) dX1_run_2 (fun g_1 H locs eg_1 hP hS => ?_)
  have hb_1 : g_1 b = .inr (1, [.ref (ad (b + 1)), .ref (ad (b + 2)), .int (nI (nx0)), .int (nI (un)), .int (nI (0))]) := by rw [eg_1, va_up_self]; exact rfl
  have hb___1_1 : g_1 (b + 1) = .inr (8, [.int (nI (wn w)), .long (lN (sea (wd w) (wn w))), .int (nI (wf w)), .int (nI (wh w)), .long (lN (wo w))]) := ((congrFun eg_1 _).trans (va_up_ne _ _ (by omega))).trans hgn
  have hb___2_1 : g_1 (b + 2) = .inl (cy 6, 13, .inr (.inr (.inr (.inr fa)))) := ((congrFun eg_1 _).trans (va_up_ne _ _ (by omega))).trans hga
  have hkf_1 : g_1 kf = .inr (0, [.ref (ad kfb), .int (nI (len))]) := ((congrFun eg_1 _).trans (va_up_ne _ _ (by omega))).trans hgf
  have hkfb_1 : g_1 kfb = .inl (cy 0, 200, .inl (fun x9 => nI (B x9))) := ((congrFun eg_1 _).trans (va_up_ne _ _ (by omega))).trans hgfb
  have hfam_P_1 : (∀ j : Nat, j < 13 → g_1 (b + 3 + j) = .inr (8, [.int (nI (wn (Pw j))), .long (lN (sea (wd (Pw j)) (wn (Pw j)))), .int (nI (wf (Pw j))), .int (nI (wh (Pw j))), .long (lN (wo (Pw j)))])) := fun j hj => ((congrFun eg_1 _).trans (va_up_ne _ _ (by omega))).trans (hfam j hj)
  have hfr_1 : ∀ j : Nat, j ≠ b → g_1 j = g j := fun j n0 => ((congrFun eg_1 _).trans (va_up_ne _ _ n0)).trans (hfr j )
  refine lv_iconst (v := nI (0)) hx hb dX1_run_5 (by decide) ?_
  refine lv_istore_n (lv' := [(3, .int (nI (0))), (0, .ref (ad b)), (1, .ref (ad kf)), (2, .int (nI (b0)))]) hx hb dX1_run_6 rfl hl (by decide) rfl (fun ls hl => ?_)
  have L7 : ∀ (fu : Nat) (i : Nat) (w1 : WT) (P1 : Nat → WT) (nx1 un1 : Nat), (i ≤ len) → (rn B len b0 (w, Pw, nx0, un) i = (i, 0, (w1, P1, nx1, un1))) → (nx1 < 13) → (un1 ≤ 12) → (WOK w1) → (wn w1 = wn w) → (∀ j, j < 13 → WOK (P1 j)) → (len - i) < fu → ∀ (g_2 : Nat → va_E) (H : Heap) (locs : List Loc), g_2 b = .inr (1, [.ref (ad (b + 1)), .ref (ad (b + 2)), .int (nI (nx1)), .int (nI (un1)), .int (nI 0)]) → g_2 (b + 1) = .inr (8, [.int (nI (wn w1)), .long (lN (sea (wd w1) (wn w1))), .int (nI (wf w1)), .int (nI (wh w1)), .long (lN (wo w1))]) → g_2 (b + 2) = .inl (cy 6, 13, .inr (.inr (.inr (.inr fa)))) → (∀ j : Nat, j < 13 → g_2 (b + 3 + j) = .inr (8, [.int (nI (wn (P1 j))), .long (lN (sea (wd (P1 j)) (wn (P1 j)))), .int (nI (wf (P1 j))), .int (nI (wh (P1 j))), .long (lN (wo (P1 j)))])) → (∀ j : Nat, (j < b ∨ b + 16 ≤ j) → g_2 j = g j) → MM D ad N g_2 H → va_S (AA ad N) s.heap H locs → ∀ (ls : Array Slot), lv_has ls 8 [(3, .int (nI (i))), (0, .ref (ad b)), (1, .ref (ad kf)), (2, .int (nI (b0)))] → W p l e (rmF 5 113) s m [.ref (ad b), .ref (ad kf), .int (nI (b0))].toArray below meth c H locs 0 0 (MQ below (QI (fun r g1 => (r = nI ((rn B len b0 (w, Pw, nx0, un) len).1)) ∧ g1 b = .inr (1, [.ref (ad (b + 1)), .ref (ad (b + 2)), .int (nI ((rn B len b0 (w, Pw, nx0, un) len).2.2.2.2.1)), .int (nI ((rn B len b0 (w, Pw, nx0, un) len).2.2.2.2.2)), .int ((rn B len b0 (w, Pw, nx0, un) len).2.1)]) ∧ g1 (b + 1) = .inr (8, [.int (nI (wn ((rn B len b0 (w, Pw, nx0, un) len).2.2.1))), .long (lN (sea (wd ((rn B len b0 (w, Pw, nx0, un) len).2.2.1)) (wn ((rn B len b0 (w, Pw, nx0, un) len).2.2.1)))), .int (nI (wf ((rn B len b0 (w, Pw, nx0, un) len).2.2.1))), .int (nI (wh ((rn B len b0 (w, Pw, nx0, un) len).2.2.1))), .long (lN (wo ((rn B len b0 (w, Pw, nx0, un) len).2.2.1)))]) ∧ g1 (b + 2) = .inl (cy 6, 13, .inr (.inr (.inr (.inr fa)))) ∧ (∀ j : Nat, j < 13 → g1 (b + 3 + j) = .inr (8, [.int (nI (wn (((rn B len b0 (w, Pw, nx0, un) len).2.2.2.1) j))), .long (lN (sea (wd (((rn B len b0 (w, Pw, nx0, un) len).2.2.2.1) j)) (wn (((rn B len b0 (w, Pw, nx0, un) len).2.2.2.1) j)))), .int (nI (wf (((rn B len b0 (w, Pw, nx0, un) len).2.2.2.1) j))), .int (nI (wh (((rn B len b0 (w, Pw, nx0, un) len).2.2.2.1) j))), .long (lN (wo (((rn B len b0 (w, Pw, nx0, un) len).2.2.2.1) j)))])) ∧ (∀ j, (j < b ∨ b + 16 ≤ j) → g1 j = g j)) D ad N) [.ref (ad b), .ref (ad kf), .int (nI (b0))].toArray s 0 0 (AA ad N)) (F0 m 7 ls []) := by
    intro fu
    induction fu with
    | zero => intro i w1 P1 nx1 un1 hi hrn hnx1 hun1 hw1 hwn hP1 hms g_2 H locs hb_2 hb___1_2 hb___2_2 hfam_P_2 hfr_2 hP hS ls hl; exact absurd hms (Nat.not_lt_zero _)
    | succ fu ih7 =>
      intro i w1 P1 nx1 un1 hi hrn hnx1 hun1 hw1 hwn hP1 hms g_2 H locs hb_2 hb___1_2 hb___2_2 hfam_P_2 hfr_2 hP hS ls hl
      have hkf_2 : g_2 kf = .inr (0, [.ref (ad kfb), .int (nI (len))]) := (hfr_2 kf (by omega)).trans hgf
      have hkfb_2 : g_2 kfb = .inl (cy 0, 200, .inl (fun x9 => nI (B x9))) := (hfr_2 kfb (by omega)).trans hgfb
      refine lv_iload_n hx hb dX1_run_7 rfl (lv_at hl 0 rfl) ?_
      refine lv_aload_n hx hb dX1_run_8 rfl (lv_at hl 2 rfl) ?_
      refine mg S hK hP hkf hkf_2 fd_X1_49 rfl dX1_run_9 ?_
      refine lv_icmp_ge (tgt := 146) hx hb dX1_run_12 (by decide) (fun c_12 => ?_) (fun c_12 => ?_)
      · skip
        have c_12 := (nI_leI (by omega) (by omega)).mp c_12
        refine lv_aload_n hx hb dX1_run_146 rfl (lv_at hl 2 rfl) ?_
        refine mg S hK hP hkf hkf_2 fd_X1_49 rfl dX1_run_147 ?_
        have hR : (rn B len b0 (w, Pw, nx0, un) len) = (len, 0, (w1, P1, nx1, un1)) := by have e : i = len := (by omega); rw [e] at hrn; exact hrn
        exact rMi S hr hlk hP hS ⟨(by rw [hR]), (by rw [hR]; exact hb_2), (by rw [hR]; exact hb___1_2), hb___2_2, (by rw [hR]; exact hfam_P_2), hfr_2⟩ dX1_run_150
      · skip
        have c_12 := (not_congr (nI_leI (by omega) (by omega))).mp c_12
        refine lv_iload_n hx hb dX1_run_15 rfl (lv_at hl 3 rfl) ?_
        have J31 : ∀ (q : Nat), (q = bix len b0 i) → (q < len) → ∀ (ls : Array Slot), lv_has ls 8 [(3, .int (nI (i))), (0, .ref (ad b)), (1, .ref (ad kf)), (2, .int (nI (b0)))] → W p l e (rmF 5 113) s m [.ref (ad b), .ref (ad kf), .int (nI (b0))].toArray below meth c H locs 0 0 (MQ below (QI (fun r g1 => (r = nI ((rn B len b0 (w, Pw, nx0, un) len).1)) ∧ g1 b = .inr (1, [.ref (ad (b + 1)), .ref (ad (b + 2)), .int (nI ((rn B len b0 (w, Pw, nx0, un) len).2.2.2.2.1)), .int (nI ((rn B len b0 (w, Pw, nx0, un) len).2.2.2.2.2)), .int ((rn B len b0 (w, Pw, nx0, un) len).2.1)]) ∧ g1 (b + 1) = .inr (8, [.int (nI (wn ((rn B len b0 (w, Pw, nx0, un) len).2.2.1))), .long (lN (sea (wd ((rn B len b0 (w, Pw, nx0, un) len).2.2.1)) (wn ((rn B len b0 (w, Pw, nx0, un) len).2.2.1)))), .int (nI (wf ((rn B len b0 (w, Pw, nx0, un) len).2.2.1))), .int (nI (wh ((rn B len b0 (w, Pw, nx0, un) len).2.2.1))), .long (lN (wo ((rn B len b0 (w, Pw, nx0, un) len).2.2.1)))]) ∧ g1 (b + 2) = .inl (cy 6, 13, .inr (.inr (.inr (.inr fa)))) ∧ (∀ j : Nat, j < 13 → g1 (b + 3 + j) = .inr (8, [.int (nI (wn (((rn B len b0 (w, Pw, nx0, un) len).2.2.2.1) j))), .long (lN (sea (wd (((rn B len b0 (w, Pw, nx0, un) len).2.2.2.1) j)) (wn (((rn B len b0 (w, Pw, nx0, un) len).2.2.2.1) j)))), .int (nI (wf (((rn B len b0 (w, Pw, nx0, un) len).2.2.2.1) j))), .int (nI (wh (((rn B len b0 (w, Pw, nx0, un) len).2.2.2.1) j))), .long (lN (wo (((rn B len b0 (w, Pw, nx0, un) len).2.2.2.1) j)))])) ∧ (∀ j, (j < b ∨ b + 16 ≤ j) → g1 j = g j)) D ad N) [.ref (ad b), .ref (ad kf), .int (nI (b0))].toArray s 0 0 (AA ad N)) (F0 m 31 ls [.int (nI (q))]) := by
          intro q hq hql ls hl
          have hb8 := bt8_lt (len := len) (i := q) hB
          have hBq : bt8 B len q = B (bix len b0 i) := by rw [bt8_in hql, hq]
          refine lv_istore (lv' := [(4, .int (nI (q))), (3, .int (nI (i))), (0, .ref (ad b)), (1, .ref (ad kf)), (2, .int (nI (b0)))]) hx hb dX1_run_31 hl (by decide) rfl (fun ls hl => ?_)
          refine lv_aload_n hx hb dX1_run_33 rfl (lv_at hl 3 rfl) ?_
          refine lv_iload hx hb dX1_run_34 (lv_at hl 0 rfl) ?_
          refine kVi (As := [.int (nI (q))]) (rest := []) S hK hP (c_X0_sortOf l D cy ad N g_2 kf hkf kfb hkfb len B hkf_2 hkfb_2 (by omega) hlen hB q (by omega)) cv_X1_54 hkf hkf_2 ⟨_, _, rfl⟩ ⟨rfl, rfl⟩ rfl hl.1 rfl (Nat.le_of_ble_eq_true rfl) ⟨Nat.zero_le _, Nat.zero_le _⟩ dX1_run_36 (fun r_36 q_36 => ?_)
          subst q_36
          refine lv_istore (lv' := [(5, .int (nI (bt8 B len q / 8))), (4, .int (nI (q))), (3, .int (nI (i))), (0, .ref (ad b)), (1, .ref (ad kf)), (2, .int (nI (b0)))]) hx hb dX1_run_39 hl (by decide) rfl (fun ls hl => ?_)
          refine lv_aload_n hx hb dX1_run_41 rfl (lv_at hl 4 rfl) ?_
          refine lv_iload hx hb dX1_run_42 (lv_at hl 1 rfl) ?_
          refine kVi (As := [.int (nI (q))]) (rest := []) S hK hP (c_X0_numberOf l D cy ad N g_2 kf hkf kfb hkfb len B hkf_2 hkfb_2 (by omega) hlen hB q (by omega)) cv_X1_58 hkf hkf_2 ⟨_, _, rfl⟩ ⟨rfl, rfl⟩ rfl hl.1 rfl (Nat.le_of_ble_eq_true rfl) ⟨Nat.zero_le _, Nat.zero_le _⟩ dX1_run_44 (fun r_44 q_44 => ?_)
          subst q_44
          refine lv_istore (lv' := [(6, .int (nI (bt8 B len q % 8))), (5, .int (nI (bt8 B len q / 8))), (4, .int (nI (q))), (3, .int (nI (i))), (0, .ref (ad b)), (1, .ref (ad kf)), (2, .int (nI (b0)))]) hx hb dX1_run_47 hl (by decide) rfl (fun ls hl => ?_)
          refine lv_iconst (v := nI (1)) hx hb dX1_run_49 (by decide) ?_
          refine lv_istore (lv' := [(7, .int (nI (1))), (6, .int (nI (bt8 B len q % 8))), (5, .int (nI (bt8 B len q / 8))), (4, .int (nI (q))), (3, .int (nI (i))), (0, .ref (ad b)), (1, .ref (ad kf)), (2, .int (nI (b0)))]) hx hb dX1_run_50 hl (by decide) rfl (fun ls hl => ?_)
          refine lv_iload_n hx hb dX1_run_52 rfl (lv_at hl 7 rfl) ?_
          refine lv_if_eq (tgt := 75) hx hb dX1_run_53 (by decide) (fun c_53 => ?_) (fun c_53 => ?_)
          · skip
            have c_53 := (z_eq (by omega)).mp c_53
            refine lv_iload_n hx hb dX1_run_75 rfl (lv_at hl 7 rfl) ?_
            refine lv_if_eq (tgt := 109) hx hb dX1_run_76 (by decide) (fun c_76 => ?_) (fun c_76 => ?_)
            · skip
              have c_76 := (z_eq (by omega)).mp c_76
              refine lv_iload hx hb dX1_run_109 (lv_at hl 2 rfl) ?_
              refine lv_bipush (v := nI (6)) hx hb dX1_run_111 (by decide) ?_
              refine lv_icmp_eq (tgt := 126) hx hb dX1_run_113 (by decide) (fun c_113 => ?_) (fun c_113 => ?_)
              · skip
                have c_113 := (nI_eq (by omega) (by omega)).mp c_113
                have hbt : beatF b0 (B (bix len b0 i)) (w1, P1, nx1, un1) = (nI 1, (w1, P1, nx1, un1)) := by rw [← hBq]; first | exact bt_b6 c_53 (by first | exact c_83) | (rw [show b0 = 0 by omega]; exact bt_f6 c_113)
                have hok1 : FOK (w1, P1, nx1, un1) ∧ wn w1 = wn w1 := ⟨⟨hw1, hP1, hnx1, hun1⟩, rfl⟩
                refine lv_iload hx hb dX1_run_126 (lv_at hl 0 rfl) ?_
                refine lv_iconst (v := nI (1)) hx hb dX1_run_128 (by decide) ?_
                refine lv_icmp_eq (tgt := 140) hx hb dX1_run_129 (by decide) (fun c_129 => ?_) (fun c_129 => ?_)
                · skip
                  have c_129 := (nI_eq (by omega) (by omega)).mp c_129
                  refine lv_iinc (v := nI (i + 1)) (lv' := [(3, .int (nI (i + 1))), (7, .int (nI (1))), (6, .int (nI (bt8 B len q % 8))), (5, .int (nI (bt8 B len q / 8))), (4, .int (nI (q))), (0, .ref (ad b)), (1, .ref (ad kf)), (2, .int (nI (b0)))]) hx hb dX1_run_140 hl (k := 4) rfl (by exact nI_add i 1) (by decide) rfl (fun ls hl => ?_)
                  refine lv_goto (tgt := 7) hx hb dX1_run_143 (by decide) ?_
                  exact ih7 (i + 1) w1 P1 nx1 un1 (by omega) (rn_go hrn hbt (by first | exact c_129 | rfl)) hok1.1.2.2.1 hok1.1.2.2.2 hok1.1.1 (hok1.2.trans hwn) hok1.1.2.1 (by omega) g_2 _ _ hb_2 hb___1_2 hb___2_2 hfam_P_2 hfr_2 hP hS _ (lv_sub hl [0, 5, 6, 7] rfl)
                · skip
                  have c_129 := (not_congr (nI_eq (by omega) (by omega))).mp c_129
                  exact absurd rfl c_129
              · skip
                have c_113 := (not_congr (nI_eq (by omega) (by omega))).mp c_113
                refine lv_aload_n hx hb dX1_run_116 rfl (lv_at hl 5 rfl) ?_
                refine lv_iload hx hb dX1_run_117 (lv_at hl 2 rfl) ?_
                refine lv_iload hx hb dX1_run_119 (lv_at hl 1 rfl) ?_
                refine kMi (As := [.int (nI (bt8 B len q / 8)), .int (nI (bt8 B len q % 8))]) (rest := []) S hK hP hS (fun _ h => h) (c_X1_attempt l D cy ad N g_2 hinj b (by omega) nx1 un1 (nI 0) hb_2 w1 hb___1_2 fa hb___2_2 hfa P1 hfam_P_2 hnx1 hun1 hw1 hP1 (nI (bt8 B len q / 8)) (nI (bt8 B len q % 8))) cv_X1_67 (by omega) hb_2 ⟨_, _, rfl⟩ ⟨rfl, rfl⟩ rfl hl.1 rfl (Nat.le_of_ble_eq_true rfl) ⟨Nat.zero_le _, Nat.zero_le _⟩ dX1_run_121 (fun r_121 g_3 H locs q_3 hP hS => ?_)
                obtain ⟨q_121, hb_3, hb___1_3, hb___2_3, hfam_P_3, f_3⟩ := q_3
                subst q_121
                have hkf_3 : g_3 kf = .inr (0, [.ref (ad kfb), .int (nI (len))]) := (f_3 kf (by omega)).trans hkf_2
                have hkfb_3 : g_3 kfb = .inl (cy 0, 200, .inl (fun x9 => nI (B x9))) := (f_3 kfb (by omega)).trans hkfb_2
                have hfr_3 : ∀ j : Nat, (j < b ∨ b + 16 ≤ j) → g_3 j = g j := fun j n0 => (f_3 j n0).trans (hfr_2 j n0)
                refine lv_istore (lv' := [(7, .int ((chg w1 (nI (bt8 B len q / 8)) (nI (bt8 B len q % 8))).1)), (6, .int (nI (bt8 B len q % 8))), (5, .int (nI (bt8 B len q / 8))), (4, .int (nI (q))), (3, .int (nI (i))), (0, .ref (ad b)), (1, .ref (ad kf)), (2, .int (nI (b0)))]) hx hb dX1_run_124 hl (by decide) rfl (fun ls hl => ?_)
                have hbt : beatF b0 (B (bix len b0 i)) (w1, P1, nx1, un1) = attF (nI (bt8 B len q / 8)) (nI (bt8 B len q % 8)) (w1, P1, nx1, un1) := by rw [← hBq]; first | exact bt_ba c_53 c_59 c_65 c_83 | (rw [show b0 = 0 by omega]; exact bt_fa c_113)
                have hok1 := attF_ok (F := (w1, P1, nx1, un1)) (s := (nI (bt8 B len q / 8))) (k := (nI (bt8 B len q % 8))) ⟨hw1, hP1, hnx1, hun1⟩
                refine lv_iload hx hb dX1_run_126 (lv_at hl 0 rfl) ?_
                refine lv_iconst (v := nI (1)) hx hb dX1_run_128 (by decide) ?_
                refine lv_icmp_eq (tgt := 140) hx hb dX1_run_129 (by decide) (fun c_129 => ?_) (fun c_129 => ?_)
                · skip
                  refine lv_iinc (v := nI (i + 1)) (lv' := [(3, .int (nI (i + 1))), (7, .int ((chg w1 (nI (bt8 B len q / 8)) (nI (bt8 B len q % 8))).1)), (6, .int (nI (bt8 B len q % 8))), (5, .int (nI (bt8 B len q / 8))), (4, .int (nI (q))), (0, .ref (ad b)), (1, .ref (ad kf)), (2, .int (nI (b0)))]) hx hb dX1_run_140 hl (k := 4) rfl (by exact nI_add i 1) (by decide) rfl (fun ls hl => ?_)
                  refine lv_goto (tgt := 7) hx hb dX1_run_143 (by decide) ?_
                  exact ih7 (i + 1) ((chg w1 (nI (bt8 B len q / 8)) (nI (bt8 B len q % 8))).2) (va_up P1 nx1 w1) ((if (chg w1 (nI (bt8 B len q / 8)) (nI (bt8 B len q % 8))).1 = 1 then (if nx1 + 1 < 13 then nx1 + 1 else 0) else nx1)) ((if (chg w1 (nI (bt8 B len q / 8)) (nI (bt8 B len q % 8))).1 = 1 then (if un1 + 1 < 12 then un1 + 1 else 12) else un1)) (by omega) (rn_go hrn hbt (by first | exact c_129 | rfl)) hok1.1.2.2.1 hok1.1.2.2.2 hok1.1.1 (hok1.2.trans hwn) hok1.1.2.1 (by omega) g_3 _ _ hb_3 hb___1_3 hb___2_3 hfam_P_3 hfr_3 hP hS _ (lv_sub hl [0, 5, 6, 7] rfl)
                · skip
                  refine lv_aload_n hx hb dX1_run_132 rfl (lv_at hl 5 rfl) ?_
                  refine lv_iload hx hb dX1_run_133 (lv_at hl 0 rfl) ?_
                  refine mp S hK hP hI hS (by omega) hb_3 fd_X1_46 rfl rfl (Nat.le_of_ble_eq_true rfl) dX1_run_135 (fun g_4 H locs eg_4 hP hS => ?_)
                  have hb_4 : g_4 b = .inr (1, [.ref (ad (b + 1)), .ref (ad (b + 2)), .int (nI ((if (chg w1 (nI (bt8 B len q / 8)) (nI (bt8 B len q % 8))).1 = 1 then (if nx1 + 1 < 13 then nx1 + 1 else 0) else nx1))), .int (nI ((if (chg w1 (nI (bt8 B len q / 8)) (nI (bt8 B len q % 8))).1 = 1 then (if un1 + 1 < 12 then un1 + 1 else 12) else un1))), .int ((chg w1 (nI (bt8 B len q / 8)) (nI (bt8 B len q % 8))).1)]) := by rw [eg_4, va_up_self]; exact rfl
                  have hb___1_4 : g_4 (b + 1) = .inr (8, [.int (nI (wn ((chg w1 (nI (bt8 B len q / 8)) (nI (bt8 B len q % 8))).2))), .long (lN (sea (wd ((chg w1 (nI (bt8 B len q / 8)) (nI (bt8 B len q % 8))).2)) (wn ((chg w1 (nI (bt8 B len q / 8)) (nI (bt8 B len q % 8))).2)))), .int (nI (wf ((chg w1 (nI (bt8 B len q / 8)) (nI (bt8 B len q % 8))).2))), .int (nI (wh ((chg w1 (nI (bt8 B len q / 8)) (nI (bt8 B len q % 8))).2))), .long (lN (wo ((chg w1 (nI (bt8 B len q / 8)) (nI (bt8 B len q % 8))).2)))]) := ((congrFun eg_4 _).trans (va_up_ne _ _ (by omega))).trans hb___1_3
                  have hb___2_4 : g_4 (b + 2) = .inl (cy 6, 13, .inr (.inr (.inr (.inr fa)))) := ((congrFun eg_4 _).trans (va_up_ne _ _ (by omega))).trans hb___2_3
                  have hkf_4 : g_4 kf = .inr (0, [.ref (ad kfb), .int (nI (len))]) := ((congrFun eg_4 _).trans (va_up_ne _ _ (by omega))).trans hkf_3
                  have hkfb_4 : g_4 kfb = .inl (cy 0, 200, .inl (fun x9 => nI (B x9))) := ((congrFun eg_4 _).trans (va_up_ne _ _ (by omega))).trans hkfb_3
                  have hfam_P_4 : (∀ j : Nat, j < 13 → g_4 (b + 3 + j) = .inr (8, [.int (nI (wn ((va_up P1 nx1 w1) j))), .long (lN (sea (wd ((va_up P1 nx1 w1) j)) (wn ((va_up P1 nx1 w1) j)))), .int (nI (wf ((va_up P1 nx1 w1) j))), .int (nI (wh ((va_up P1 nx1 w1) j))), .long (lN (wo ((va_up P1 nx1 w1) j)))])) := fun j hj => ((congrFun eg_4 _).trans (va_up_ne _ _ (by omega))).trans (hfam_P_3 j hj)
                  have hfr_4 : ∀ j : Nat, (j < b ∨ b + 16 ≤ j) → j ≠ b → g_4 j = g j := fun j n0 n1 => ((congrFun eg_4 _).trans (va_up_ne _ _ n1)).trans (hfr_3 j n0)
                  refine lv_iload_n hx hb dX1_run_138 rfl (lv_at hl 4 rfl) ?_
                  have hR := rn_stop hrn hbt c_129 (by first | exact chg_ne | decide) (len - (i + 1))
                  rw [show i + 1 + (len - (i + 1)) = len by omega] at hR
                  exact rMi S hr hlk hP hS ⟨(by rw [hR]), (by rw [hR]; exact hb_4), (by rw [hR]; exact hb___1_4), hb___2_4, (by rw [hR]; exact hfam_P_4), (fun j n0 => hfr_4 j (by omega) (by omega))⟩ dX1_run_139
            · skip
              have c_76 := (not_congr (z_eq (by omega))).mp c_76
              exact absurd c_53 c_76
          · skip
            have c_53 := (not_congr (z_eq (by omega))).mp c_53
            refine lv_iload hx hb dX1_run_56 (lv_at hl 2 rfl) ?_
            refine lv_iconst (v := nI (4)) hx hb dX1_run_58 (by decide) ?_
            refine lv_icmp_eq (tgt := 68) hx hb dX1_run_59 (by decide) (fun c_59 => ?_) (fun c_59 => ?_)
            · skip
              have c_59 := (nI_eq (by omega) (by omega)).mp c_59
              refine lv_bipush (v := (-2)) hx hb dX1_run_68 (by decide) ?_
              refine lv_istore (lv' := [(7, .int (-2)), (6, .int (nI (bt8 B len q % 8))), (5, .int (nI (bt8 B len q / 8))), (4, .int (nI (q))), (3, .int (nI (i))), (0, .ref (ad b)), (1, .ref (ad kf)), (2, .int (nI (b0)))]) hx hb dX1_run_70 hl (by decide) rfl (fun ls hl => ?_)
              refine lv_goto (tgt := 126) hx hb dX1_run_72 (by decide) ?_
              have hbt : beatF b0 (B (bix len b0 i)) (w1, P1, nx1, un1) = (-2, (w1, P1, nx1, un1)) := by rw [← hBq]; exact bt_b4 c_53 (by first | exact Or.inl c_59 | exact Or.inr c_65)
              have hok1 : FOK (w1, P1, nx1, un1) ∧ wn w1 = wn w1 := ⟨⟨hw1, hP1, hnx1, hun1⟩, rfl⟩
              refine lv_iload hx hb dX1_run_126 (lv_at hl 0 rfl) ?_
              refine lv_iconst (v := nI (1)) hx hb dX1_run_128 (by decide) ?_
              refine lv_icmp_eq (tgt := 140) hx hb dX1_run_129 (by decide) (fun c_129 => ?_) (fun c_129 => ?_)
              · skip
                exact absurd c_129 (by decide)
              · skip
                refine lv_aload_n hx hb dX1_run_132 rfl (lv_at hl 5 rfl) ?_
                refine lv_iload hx hb dX1_run_133 (lv_at hl 0 rfl) ?_
                refine mp S hK hP hI hS (by omega) hb_2 fd_X1_46 rfl rfl (Nat.le_of_ble_eq_true rfl) dX1_run_135 (fun g_5 H locs eg_5 hP hS => ?_)
                have hb_5 : g_5 b = .inr (1, [.ref (ad (b + 1)), .ref (ad (b + 2)), .int (nI (nx1)), .int (nI (un1)), .int (-2)]) := by rw [eg_5, va_up_self]; exact rfl
                have hb___1_5 : g_5 (b + 1) = .inr (8, [.int (nI (wn w1)), .long (lN (sea (wd w1) (wn w1))), .int (nI (wf w1)), .int (nI (wh w1)), .long (lN (wo w1))]) := ((congrFun eg_5 _).trans (va_up_ne _ _ (by omega))).trans hb___1_2
                have hb___2_5 : g_5 (b + 2) = .inl (cy 6, 13, .inr (.inr (.inr (.inr fa)))) := ((congrFun eg_5 _).trans (va_up_ne _ _ (by omega))).trans hb___2_2
                have hkf_5 : g_5 kf = .inr (0, [.ref (ad kfb), .int (nI (len))]) := ((congrFun eg_5 _).trans (va_up_ne _ _ (by omega))).trans hkf_2
                have hkfb_5 : g_5 kfb = .inl (cy 0, 200, .inl (fun x9 => nI (B x9))) := ((congrFun eg_5 _).trans (va_up_ne _ _ (by omega))).trans hkfb_2
                have hfam_P_5 : (∀ j : Nat, j < 13 → g_5 (b + 3 + j) = .inr (8, [.int (nI (wn (P1 j))), .long (lN (sea (wd (P1 j)) (wn (P1 j)))), .int (nI (wf (P1 j))), .int (nI (wh (P1 j))), .long (lN (wo (P1 j)))])) := fun j hj => ((congrFun eg_5 _).trans (va_up_ne _ _ (by omega))).trans (hfam_P_2 j hj)
                have hfr_5 : ∀ j : Nat, (j < b ∨ b + 16 ≤ j) → j ≠ b → g_5 j = g j := fun j n0 n1 => ((congrFun eg_5 _).trans (va_up_ne _ _ n1)).trans (hfr_2 j n0)
                refine lv_iload_n hx hb dX1_run_138 rfl (lv_at hl 4 rfl) ?_
                have hR := rn_stop hrn hbt c_129 (by first | exact chg_ne | decide) (len - (i + 1))
                rw [show i + 1 + (len - (i + 1)) = len by omega] at hR
                exact rMi S hr hlk hP hS ⟨(by rw [hR]), (by rw [hR]; exact hb_5), (by rw [hR]; exact hb___1_5), hb___2_5, (by rw [hR]; exact hfam_P_5), (fun j n0 => hfr_5 j (by omega) (by omega))⟩ dX1_run_139
            · skip
              have c_59 := (not_congr (nI_eq (by omega) (by omega))).mp c_59
              refine lv_iload hx hb dX1_run_62 (lv_at hl 2 rfl) ?_
              refine lv_iconst (v := nI (5)) hx hb dX1_run_64 (by decide) ?_
              refine lv_icmp_ne (tgt := 75) hx hb dX1_run_65 (by decide) (fun c_65 => ?_) (fun c_65 => ?_)
              · skip
                have c_65 := (not_congr (nI_eq (by omega) (by omega))).mp c_65
                refine lv_iload_n hx hb dX1_run_75 rfl (lv_at hl 7 rfl) ?_
                refine lv_if_eq (tgt := 109) hx hb dX1_run_76 (by decide) (fun c_76 => ?_) (fun c_76 => ?_)
                · skip
                  have c_76 := (z_eq (by omega)).mp c_76
                  exact absurd c_76 c_53
                · skip
                  have c_76 := (not_congr (z_eq (by omega))).mp c_76
                  refine lv_iload hx hb dX1_run_79 (lv_at hl 2 rfl) ?_
                  refine lv_bipush (v := nI (6)) hx hb dX1_run_81 (by decide) ?_
                  refine lv_icmp_eq (tgt := 109) hx hb dX1_run_83 (by decide) (fun c_83 => ?_) (fun c_83 => ?_)
                  · skip
                    have c_83 := (nI_eq (by omega) (by omega)).mp c_83
                    refine lv_iload hx hb dX1_run_109 (lv_at hl 2 rfl) ?_
                    refine lv_bipush (v := nI (6)) hx hb dX1_run_111 (by decide) ?_
                    refine lv_icmp_eq (tgt := 126) hx hb dX1_run_113 (by decide) (fun c_113 => ?_) (fun c_113 => ?_)
                    · skip
                      have c_113 := (nI_eq (by omega) (by omega)).mp c_113
                      have hbt : beatF b0 (B (bix len b0 i)) (w1, P1, nx1, un1) = (nI 1, (w1, P1, nx1, un1)) := by rw [← hBq]; first | exact bt_b6 c_53 (by first | exact c_83) | (rw [show b0 = 0 by omega]; exact bt_f6 c_113)
                      have hok1 : FOK (w1, P1, nx1, un1) ∧ wn w1 = wn w1 := ⟨⟨hw1, hP1, hnx1, hun1⟩, rfl⟩
                      refine lv_iload hx hb dX1_run_126 (lv_at hl 0 rfl) ?_
                      refine lv_iconst (v := nI (1)) hx hb dX1_run_128 (by decide) ?_
                      refine lv_icmp_eq (tgt := 140) hx hb dX1_run_129 (by decide) (fun c_129 => ?_) (fun c_129 => ?_)
                      · skip
                        have c_129 := (nI_eq (by omega) (by omega)).mp c_129
                        refine lv_iinc (v := nI (i + 1)) (lv' := [(3, .int (nI (i + 1))), (7, .int (nI (1))), (6, .int (nI (bt8 B len q % 8))), (5, .int (nI (bt8 B len q / 8))), (4, .int (nI (q))), (0, .ref (ad b)), (1, .ref (ad kf)), (2, .int (nI (b0)))]) hx hb dX1_run_140 hl (k := 4) rfl (by exact nI_add i 1) (by decide) rfl (fun ls hl => ?_)
                        refine lv_goto (tgt := 7) hx hb dX1_run_143 (by decide) ?_
                        exact ih7 (i + 1) w1 P1 nx1 un1 (by omega) (rn_go hrn hbt (by first | exact c_129 | rfl)) hok1.1.2.2.1 hok1.1.2.2.2 hok1.1.1 (hok1.2.trans hwn) hok1.1.2.1 (by omega) g_2 _ _ hb_2 hb___1_2 hb___2_2 hfam_P_2 hfr_2 hP hS _ (lv_sub hl [0, 5, 6, 7] rfl)
                      · skip
                        have c_129 := (not_congr (nI_eq (by omega) (by omega))).mp c_129
                        exact absurd rfl c_129
                    · skip
                      have c_113 := (not_congr (nI_eq (by omega) (by omega))).mp c_113
                      refine lv_aload_n hx hb dX1_run_116 rfl (lv_at hl 5 rfl) ?_
                      refine lv_iload hx hb dX1_run_117 (lv_at hl 2 rfl) ?_
                      refine lv_iload hx hb dX1_run_119 (lv_at hl 1 rfl) ?_
                      refine kMi (As := [.int (nI (bt8 B len q / 8)), .int (nI (bt8 B len q % 8))]) (rest := []) S hK hP hS (fun _ h => h) (c_X1_attempt l D cy ad N g_2 hinj b (by omega) nx1 un1 (nI 0) hb_2 w1 hb___1_2 fa hb___2_2 hfa P1 hfam_P_2 hnx1 hun1 hw1 hP1 (nI (bt8 B len q / 8)) (nI (bt8 B len q % 8))) cv_X1_67 (by omega) hb_2 ⟨_, _, rfl⟩ ⟨rfl, rfl⟩ rfl hl.1 rfl (Nat.le_of_ble_eq_true rfl) ⟨Nat.zero_le _, Nat.zero_le _⟩ dX1_run_121 (fun r_121 g_6 H locs q_6 hP hS => ?_)
                      obtain ⟨q_121, hb_6, hb___1_6, hb___2_6, hfam_P_6, f_6⟩ := q_6
                      subst q_121
                      have hkf_6 : g_6 kf = .inr (0, [.ref (ad kfb), .int (nI (len))]) := (f_6 kf (by omega)).trans hkf_2
                      have hkfb_6 : g_6 kfb = .inl (cy 0, 200, .inl (fun x9 => nI (B x9))) := (f_6 kfb (by omega)).trans hkfb_2
                      have hfr_6 : ∀ j : Nat, (j < b ∨ b + 16 ≤ j) → g_6 j = g j := fun j n0 => (f_6 j n0).trans (hfr_2 j n0)
                      refine lv_istore (lv' := [(7, .int ((chg w1 (nI (bt8 B len q / 8)) (nI (bt8 B len q % 8))).1)), (6, .int (nI (bt8 B len q % 8))), (5, .int (nI (bt8 B len q / 8))), (4, .int (nI (q))), (3, .int (nI (i))), (0, .ref (ad b)), (1, .ref (ad kf)), (2, .int (nI (b0)))]) hx hb dX1_run_124 hl (by decide) rfl (fun ls hl => ?_)
                      have hbt : beatF b0 (B (bix len b0 i)) (w1, P1, nx1, un1) = attF (nI (bt8 B len q / 8)) (nI (bt8 B len q % 8)) (w1, P1, nx1, un1) := by rw [← hBq]; first | exact bt_ba c_53 c_59 c_65 c_83 | (rw [show b0 = 0 by omega]; exact bt_fa c_113)
                      have hok1 := attF_ok (F := (w1, P1, nx1, un1)) (s := (nI (bt8 B len q / 8))) (k := (nI (bt8 B len q % 8))) ⟨hw1, hP1, hnx1, hun1⟩
                      refine lv_iload hx hb dX1_run_126 (lv_at hl 0 rfl) ?_
                      refine lv_iconst (v := nI (1)) hx hb dX1_run_128 (by decide) ?_
                      refine lv_icmp_eq (tgt := 140) hx hb dX1_run_129 (by decide) (fun c_129 => ?_) (fun c_129 => ?_)
                      · skip
                        refine lv_iinc (v := nI (i + 1)) (lv' := [(3, .int (nI (i + 1))), (7, .int ((chg w1 (nI (bt8 B len q / 8)) (nI (bt8 B len q % 8))).1)), (6, .int (nI (bt8 B len q % 8))), (5, .int (nI (bt8 B len q / 8))), (4, .int (nI (q))), (0, .ref (ad b)), (1, .ref (ad kf)), (2, .int (nI (b0)))]) hx hb dX1_run_140 hl (k := 4) rfl (by exact nI_add i 1) (by decide) rfl (fun ls hl => ?_)
                        refine lv_goto (tgt := 7) hx hb dX1_run_143 (by decide) ?_
                        exact ih7 (i + 1) ((chg w1 (nI (bt8 B len q / 8)) (nI (bt8 B len q % 8))).2) (va_up P1 nx1 w1) ((if (chg w1 (nI (bt8 B len q / 8)) (nI (bt8 B len q % 8))).1 = 1 then (if nx1 + 1 < 13 then nx1 + 1 else 0) else nx1)) ((if (chg w1 (nI (bt8 B len q / 8)) (nI (bt8 B len q % 8))).1 = 1 then (if un1 + 1 < 12 then un1 + 1 else 12) else un1)) (by omega) (rn_go hrn hbt (by first | exact c_129 | rfl)) hok1.1.2.2.1 hok1.1.2.2.2 hok1.1.1 (hok1.2.trans hwn) hok1.1.2.1 (by omega) g_6 _ _ hb_6 hb___1_6 hb___2_6 hfam_P_6 hfr_6 hP hS _ (lv_sub hl [0, 5, 6, 7] rfl)
                      · skip
                        refine lv_aload_n hx hb dX1_run_132 rfl (lv_at hl 5 rfl) ?_
                        refine lv_iload hx hb dX1_run_133 (lv_at hl 0 rfl) ?_
                        refine mp S hK hP hI hS (by omega) hb_6 fd_X1_46 rfl rfl (Nat.le_of_ble_eq_true rfl) dX1_run_135 (fun g_7 H locs eg_7 hP hS => ?_)
                        have hb_7 : g_7 b = .inr (1, [.ref (ad (b + 1)), .ref (ad (b + 2)), .int (nI ((if (chg w1 (nI (bt8 B len q / 8)) (nI (bt8 B len q % 8))).1 = 1 then (if nx1 + 1 < 13 then nx1 + 1 else 0) else nx1))), .int (nI ((if (chg w1 (nI (bt8 B len q / 8)) (nI (bt8 B len q % 8))).1 = 1 then (if un1 + 1 < 12 then un1 + 1 else 12) else un1))), .int ((chg w1 (nI (bt8 B len q / 8)) (nI (bt8 B len q % 8))).1)]) := by rw [eg_7, va_up_self]; exact rfl
                        have hb___1_7 : g_7 (b + 1) = .inr (8, [.int (nI (wn ((chg w1 (nI (bt8 B len q / 8)) (nI (bt8 B len q % 8))).2))), .long (lN (sea (wd ((chg w1 (nI (bt8 B len q / 8)) (nI (bt8 B len q % 8))).2)) (wn ((chg w1 (nI (bt8 B len q / 8)) (nI (bt8 B len q % 8))).2)))), .int (nI (wf ((chg w1 (nI (bt8 B len q / 8)) (nI (bt8 B len q % 8))).2))), .int (nI (wh ((chg w1 (nI (bt8 B len q / 8)) (nI (bt8 B len q % 8))).2))), .long (lN (wo ((chg w1 (nI (bt8 B len q / 8)) (nI (bt8 B len q % 8))).2)))]) := ((congrFun eg_7 _).trans (va_up_ne _ _ (by omega))).trans hb___1_6
                        have hb___2_7 : g_7 (b + 2) = .inl (cy 6, 13, .inr (.inr (.inr (.inr fa)))) := ((congrFun eg_7 _).trans (va_up_ne _ _ (by omega))).trans hb___2_6
                        have hkf_7 : g_7 kf = .inr (0, [.ref (ad kfb), .int (nI (len))]) := ((congrFun eg_7 _).trans (va_up_ne _ _ (by omega))).trans hkf_6
                        have hkfb_7 : g_7 kfb = .inl (cy 0, 200, .inl (fun x9 => nI (B x9))) := ((congrFun eg_7 _).trans (va_up_ne _ _ (by omega))).trans hkfb_6
                        have hfam_P_7 : (∀ j : Nat, j < 13 → g_7 (b + 3 + j) = .inr (8, [.int (nI (wn ((va_up P1 nx1 w1) j))), .long (lN (sea (wd ((va_up P1 nx1 w1) j)) (wn ((va_up P1 nx1 w1) j)))), .int (nI (wf ((va_up P1 nx1 w1) j))), .int (nI (wh ((va_up P1 nx1 w1) j))), .long (lN (wo ((va_up P1 nx1 w1) j)))])) := fun j hj => ((congrFun eg_7 _).trans (va_up_ne _ _ (by omega))).trans (hfam_P_6 j hj)
                        have hfr_7 : ∀ j : Nat, (j < b ∨ b + 16 ≤ j) → j ≠ b → g_7 j = g j := fun j n0 n1 => ((congrFun eg_7 _).trans (va_up_ne _ _ n1)).trans (hfr_6 j n0)
                        refine lv_iload_n hx hb dX1_run_138 rfl (lv_at hl 4 rfl) ?_
                        have hR := rn_stop hrn hbt c_129 (by first | exact chg_ne | decide) (len - (i + 1))
                        rw [show i + 1 + (len - (i + 1)) = len by omega] at hR
                        exact rMi S hr hlk hP hS ⟨(by rw [hR]), (by rw [hR]; exact hb_7), (by rw [hR]; exact hb___1_7), hb___2_7, (by rw [hR]; exact hfam_P_7), (fun j n0 => hfr_7 j (by omega) (by omega))⟩ dX1_run_139
                  · skip
                    have c_83 := (not_congr (nI_eq (by omega) (by omega))).mp c_83
                    refine lv_aload_n hx hb dX1_run_86 rfl (lv_at hl 5 rfl) ?_
                    refine lv_aload_n hx hb dX1_run_87 rfl (lv_at hl 5 rfl) ?_
                    refine lv_iload hx hb dX1_run_88 (lv_at hl 2 rfl) ?_
                    refine kVi (As := [.int (nI (bt8 B len q / 8))]) (rest := [.ref (ad b)]) S hK hP (c_X1_sortBack l D cy ad N g_2 b (bt8 B len q / 8) (by omega)) cv_X1_61 (by omega) hb_2 ⟨_, _, rfl⟩ ⟨rfl, rfl⟩ rfl hl.1 rfl (Nat.le_of_ble_eq_true rfl) ⟨Nat.zero_le _, Nat.zero_le _⟩ dX1_run_90 (fun r_90 q_90 => ?_)
                    subst q_90
                    refine lv_aload_n hx hb dX1_run_93 rfl (lv_at hl 5 rfl) ?_
                    refine lv_iload hx hb dX1_run_94 (lv_at hl 2 rfl) ?_
                    refine lv_iload hx hb dX1_run_96 (lv_at hl 1 rfl) ?_
                    refine kVi (As := [.int (nI (bt8 B len q / 8)), .int (nI (bt8 B len q % 8))]) (rest := [.int (nI (sbk (bt8 B len q / 8))), .ref (ad b)]) S hK hP (c_X1_numberBack l D cy ad N g_2 b (by omega) nx1 un1 (nI 0) hb_2 w1 hb___1_2 fa hb___2_2 hfa P1 hfam_P_2 hnx1 hun1 hw1 hP1 (bt8 B len q / 8) (by omega) (bt8 B len q % 8) (by omega)) cv_X1_64 (by omega) hb_2 ⟨_, _, rfl⟩ ⟨rfl, rfl⟩ rfl hl.1 rfl (Nat.le_of_ble_eq_true rfl) ⟨Nat.zero_le _, Nat.zero_le _⟩ dX1_run_98 (fun r_98 q_98 => ?_)
                    subst q_98
                    refine kMi (As := [.int (nI (sbk (bt8 B len q / 8))), .int (nI (nbk (wn w1) (bt8 B len q / 8) (bt8 B len q % 8)))]) (rest := []) S hK hP hS (fun _ h => h) (c_X1_attempt l D cy ad N g_2 hinj b (by omega) nx1 un1 (nI 0) hb_2 w1 hb___1_2 fa hb___2_2 hfa P1 hfam_P_2 hnx1 hun1 hw1 hP1 (nI (sbk (bt8 B len q / 8))) (nI (nbk (wn w1) (bt8 B len q / 8) (bt8 B len q % 8)))) cv_X1_67 (by omega) hb_2 ⟨_, _, rfl⟩ ⟨rfl, rfl⟩ rfl hl.1 rfl (Nat.le_of_ble_eq_true rfl) ⟨Nat.zero_le _, Nat.zero_le _⟩ dX1_run_101 (fun r_101 g_8 H locs q_8 hP hS => ?_)
                    obtain ⟨q_101, hb_8, hb___1_8, hb___2_8, hfam_P_8, f_8⟩ := q_8
                    subst q_101
                    have hkf_8 : g_8 kf = .inr (0, [.ref (ad kfb), .int (nI (len))]) := (f_8 kf (by omega)).trans hkf_2
                    have hkfb_8 : g_8 kfb = .inl (cy 0, 200, .inl (fun x9 => nI (B x9))) := (f_8 kfb (by omega)).trans hkfb_2
                    have hfr_8 : ∀ j : Nat, (j < b ∨ b + 16 ≤ j) → g_8 j = g j := fun j n0 => (f_8 j n0).trans (hfr_2 j n0)
                    refine lv_istore (lv' := [(7, .int ((chg w1 (nI (sbk (bt8 B len q / 8))) (nI (nbk (wn w1) (bt8 B len q / 8) (bt8 B len q % 8)))).1)), (6, .int (nI (bt8 B len q % 8))), (5, .int (nI (bt8 B len q / 8))), (4, .int (nI (q))), (3, .int (nI (i))), (0, .ref (ad b)), (1, .ref (ad kf)), (2, .int (nI (b0)))]) hx hb dX1_run_104 hl (by decide) rfl (fun ls hl => ?_)
                    refine lv_goto (tgt := 126) hx hb dX1_run_106 (by decide) ?_
                    have hbt : beatF b0 (B (bix len b0 i)) (w1, P1, nx1, un1) = attF (nI (sbk (bt8 B len q / 8))) (nI (nbk (wn w1) (bt8 B len q / 8) (bt8 B len q % 8))) (w1, P1, nx1, un1) := by rw [← hBq]; first | exact bt_ba c_53 c_59 c_65 c_83 | (rw [show b0 = 0 by omega]; exact bt_fa c_113)
                    have hok1 := attF_ok (F := (w1, P1, nx1, un1)) (s := (nI (sbk (bt8 B len q / 8)))) (k := (nI (nbk (wn w1) (bt8 B len q / 8) (bt8 B len q % 8)))) ⟨hw1, hP1, hnx1, hun1⟩
                    refine lv_iload hx hb dX1_run_126 (lv_at hl 0 rfl) ?_
                    refine lv_iconst (v := nI (1)) hx hb dX1_run_128 (by decide) ?_
                    refine lv_icmp_eq (tgt := 140) hx hb dX1_run_129 (by decide) (fun c_129 => ?_) (fun c_129 => ?_)
                    · skip
                      refine lv_iinc (v := nI (i + 1)) (lv' := [(3, .int (nI (i + 1))), (7, .int ((chg w1 (nI (sbk (bt8 B len q / 8))) (nI (nbk (wn w1) (bt8 B len q / 8) (bt8 B len q % 8)))).1)), (6, .int (nI (bt8 B len q % 8))), (5, .int (nI (bt8 B len q / 8))), (4, .int (nI (q))), (0, .ref (ad b)), (1, .ref (ad kf)), (2, .int (nI (b0)))]) hx hb dX1_run_140 hl (k := 4) rfl (by exact nI_add i 1) (by decide) rfl (fun ls hl => ?_)
                      refine lv_goto (tgt := 7) hx hb dX1_run_143 (by decide) ?_
                      exact ih7 (i + 1) ((chg w1 (nI (sbk (bt8 B len q / 8))) (nI (nbk (wn w1) (bt8 B len q / 8) (bt8 B len q % 8)))).2) (va_up P1 nx1 w1) ((if (chg w1 (nI (sbk (bt8 B len q / 8))) (nI (nbk (wn w1) (bt8 B len q / 8) (bt8 B len q % 8)))).1 = 1 then (if nx1 + 1 < 13 then nx1 + 1 else 0) else nx1)) ((if (chg w1 (nI (sbk (bt8 B len q / 8))) (nI (nbk (wn w1) (bt8 B len q / 8) (bt8 B len q % 8)))).1 = 1 then (if un1 + 1 < 12 then un1 + 1 else 12) else un1)) (by omega) (rn_go hrn hbt (by first | exact c_129 | rfl)) hok1.1.2.2.1 hok1.1.2.2.2 hok1.1.1 (hok1.2.trans hwn) hok1.1.2.1 (by omega) g_8 _ _ hb_8 hb___1_8 hb___2_8 hfam_P_8 hfr_8 hP hS _ (lv_sub hl [0, 5, 6, 7] rfl)
                    · skip
                      refine lv_aload_n hx hb dX1_run_132 rfl (lv_at hl 5 rfl) ?_
                      refine lv_iload hx hb dX1_run_133 (lv_at hl 0 rfl) ?_
                      refine mp S hK hP hI hS (by omega) hb_8 fd_X1_46 rfl rfl (Nat.le_of_ble_eq_true rfl) dX1_run_135 (fun g_9 H locs eg_9 hP hS => ?_)
                      have hb_9 : g_9 b = .inr (1, [.ref (ad (b + 1)), .ref (ad (b + 2)), .int (nI ((if (chg w1 (nI (sbk (bt8 B len q / 8))) (nI (nbk (wn w1) (bt8 B len q / 8) (bt8 B len q % 8)))).1 = 1 then (if nx1 + 1 < 13 then nx1 + 1 else 0) else nx1))), .int (nI ((if (chg w1 (nI (sbk (bt8 B len q / 8))) (nI (nbk (wn w1) (bt8 B len q / 8) (bt8 B len q % 8)))).1 = 1 then (if un1 + 1 < 12 then un1 + 1 else 12) else un1))), .int ((chg w1 (nI (sbk (bt8 B len q / 8))) (nI (nbk (wn w1) (bt8 B len q / 8) (bt8 B len q % 8)))).1)]) := by rw [eg_9, va_up_self]; exact rfl
                      have hb___1_9 : g_9 (b + 1) = .inr (8, [.int (nI (wn ((chg w1 (nI (sbk (bt8 B len q / 8))) (nI (nbk (wn w1) (bt8 B len q / 8) (bt8 B len q % 8)))).2))), .long (lN (sea (wd ((chg w1 (nI (sbk (bt8 B len q / 8))) (nI (nbk (wn w1) (bt8 B len q / 8) (bt8 B len q % 8)))).2)) (wn ((chg w1 (nI (sbk (bt8 B len q / 8))) (nI (nbk (wn w1) (bt8 B len q / 8) (bt8 B len q % 8)))).2)))), .int (nI (wf ((chg w1 (nI (sbk (bt8 B len q / 8))) (nI (nbk (wn w1) (bt8 B len q / 8) (bt8 B len q % 8)))).2))), .int (nI (wh ((chg w1 (nI (sbk (bt8 B len q / 8))) (nI (nbk (wn w1) (bt8 B len q / 8) (bt8 B len q % 8)))).2))), .long (lN (wo ((chg w1 (nI (sbk (bt8 B len q / 8))) (nI (nbk (wn w1) (bt8 B len q / 8) (bt8 B len q % 8)))).2)))]) := ((congrFun eg_9 _).trans (va_up_ne _ _ (by omega))).trans hb___1_8
                      have hb___2_9 : g_9 (b + 2) = .inl (cy 6, 13, .inr (.inr (.inr (.inr fa)))) := ((congrFun eg_9 _).trans (va_up_ne _ _ (by omega))).trans hb___2_8
                      have hkf_9 : g_9 kf = .inr (0, [.ref (ad kfb), .int (nI (len))]) := ((congrFun eg_9 _).trans (va_up_ne _ _ (by omega))).trans hkf_8
                      have hkfb_9 : g_9 kfb = .inl (cy 0, 200, .inl (fun x9 => nI (B x9))) := ((congrFun eg_9 _).trans (va_up_ne _ _ (by omega))).trans hkfb_8
                      have hfam_P_9 : (∀ j : Nat, j < 13 → g_9 (b + 3 + j) = .inr (8, [.int (nI (wn ((va_up P1 nx1 w1) j))), .long (lN (sea (wd ((va_up P1 nx1 w1) j)) (wn ((va_up P1 nx1 w1) j)))), .int (nI (wf ((va_up P1 nx1 w1) j))), .int (nI (wh ((va_up P1 nx1 w1) j))), .long (lN (wo ((va_up P1 nx1 w1) j)))])) := fun j hj => ((congrFun eg_9 _).trans (va_up_ne _ _ (by omega))).trans (hfam_P_8 j hj)
                      have hfr_9 : ∀ j : Nat, (j < b ∨ b + 16 ≤ j) → j ≠ b → g_9 j = g j := fun j n0 n1 => ((congrFun eg_9 _).trans (va_up_ne _ _ n1)).trans (hfr_8 j n0)
                      refine lv_iload_n hx hb dX1_run_138 rfl (lv_at hl 4 rfl) ?_
                      have hR := rn_stop hrn hbt c_129 (by first | exact chg_ne | decide) (len - (i + 1))
                      rw [show i + 1 + (len - (i + 1)) = len by omega] at hR
                      exact rMi S hr hlk hP hS ⟨(by rw [hR]), (by rw [hR]; exact hb_9), (by rw [hR]; exact hb___1_9), hb___2_9, (by rw [hR]; exact hfam_P_9), (fun j n0 => hfr_9 j (by omega) (by omega))⟩ dX1_run_139
              · skip
                have c_65 := (nI_eq (by omega) (by omega)).mp c_65
                refine lv_bipush (v := (-2)) hx hb dX1_run_68 (by decide) ?_
                refine lv_istore (lv' := [(7, .int (-2)), (6, .int (nI (bt8 B len q % 8))), (5, .int (nI (bt8 B len q / 8))), (4, .int (nI (q))), (3, .int (nI (i))), (0, .ref (ad b)), (1, .ref (ad kf)), (2, .int (nI (b0)))]) hx hb dX1_run_70 hl (by decide) rfl (fun ls hl => ?_)
                refine lv_goto (tgt := 126) hx hb dX1_run_72 (by decide) ?_
                have hbt : beatF b0 (B (bix len b0 i)) (w1, P1, nx1, un1) = (-2, (w1, P1, nx1, un1)) := by rw [← hBq]; exact bt_b4 c_53 (by first | exact Or.inl c_59 | exact Or.inr c_65)
                have hok1 : FOK (w1, P1, nx1, un1) ∧ wn w1 = wn w1 := ⟨⟨hw1, hP1, hnx1, hun1⟩, rfl⟩
                refine lv_iload hx hb dX1_run_126 (lv_at hl 0 rfl) ?_
                refine lv_iconst (v := nI (1)) hx hb dX1_run_128 (by decide) ?_
                refine lv_icmp_eq (tgt := 140) hx hb dX1_run_129 (by decide) (fun c_129 => ?_) (fun c_129 => ?_)
                · skip
                  exact absurd c_129 (by decide)
                · skip
                  refine lv_aload_n hx hb dX1_run_132 rfl (lv_at hl 5 rfl) ?_
                  refine lv_iload hx hb dX1_run_133 (lv_at hl 0 rfl) ?_
                  refine mp S hK hP hI hS (by omega) hb_2 fd_X1_46 rfl rfl (Nat.le_of_ble_eq_true rfl) dX1_run_135 (fun g_10 H locs eg_10 hP hS => ?_)
                  have hb_10 : g_10 b = .inr (1, [.ref (ad (b + 1)), .ref (ad (b + 2)), .int (nI (nx1)), .int (nI (un1)), .int (-2)]) := by rw [eg_10, va_up_self]; exact rfl
                  have hb___1_10 : g_10 (b + 1) = .inr (8, [.int (nI (wn w1)), .long (lN (sea (wd w1) (wn w1))), .int (nI (wf w1)), .int (nI (wh w1)), .long (lN (wo w1))]) := ((congrFun eg_10 _).trans (va_up_ne _ _ (by omega))).trans hb___1_2
                  have hb___2_10 : g_10 (b + 2) = .inl (cy 6, 13, .inr (.inr (.inr (.inr fa)))) := ((congrFun eg_10 _).trans (va_up_ne _ _ (by omega))).trans hb___2_2
                  have hkf_10 : g_10 kf = .inr (0, [.ref (ad kfb), .int (nI (len))]) := ((congrFun eg_10 _).trans (va_up_ne _ _ (by omega))).trans hkf_2
                  have hkfb_10 : g_10 kfb = .inl (cy 0, 200, .inl (fun x9 => nI (B x9))) := ((congrFun eg_10 _).trans (va_up_ne _ _ (by omega))).trans hkfb_2
                  have hfam_P_10 : (∀ j : Nat, j < 13 → g_10 (b + 3 + j) = .inr (8, [.int (nI (wn (P1 j))), .long (lN (sea (wd (P1 j)) (wn (P1 j)))), .int (nI (wf (P1 j))), .int (nI (wh (P1 j))), .long (lN (wo (P1 j)))])) := fun j hj => ((congrFun eg_10 _).trans (va_up_ne _ _ (by omega))).trans (hfam_P_2 j hj)
                  have hfr_10 : ∀ j : Nat, (j < b ∨ b + 16 ≤ j) → j ≠ b → g_10 j = g j := fun j n0 n1 => ((congrFun eg_10 _).trans (va_up_ne _ _ n1)).trans (hfr_2 j n0)
                  refine lv_iload_n hx hb dX1_run_138 rfl (lv_at hl 4 rfl) ?_
                  have hR := rn_stop hrn hbt c_129 (by first | exact chg_ne | decide) (len - (i + 1))
                  rw [show i + 1 + (len - (i + 1)) = len by omega] at hR
                  exact rMi S hr hlk hP hS ⟨(by rw [hR]), (by rw [hR]; exact hb_10), (by rw [hR]; exact hb___1_10), hb___2_10, (by rw [hR]; exact hfam_P_10), (fun j n0 => hfr_10 j (by omega) (by omega))⟩ dX1_run_139
        refine lv_if_eq (tgt := 30) hx hb dX1_run_16 (by decide) (fun c_16 => ?_) (fun c_16 => ?_)
        · skip
          have c_16 := (z_eq (by omega)).mp c_16
          refine lv_iload_n hx hb dX1_run_30 rfl (lv_at hl 0 rfl) ?_
          exact J31 i (by rw [bix, if_pos c_16]) (by omega) _ (lv_sub hl [0, 1, 2, 3] rfl)
        · skip
          have c_16 := (not_congr (z_eq (by omega))).mp c_16
          refine lv_aload_n hx hb dX1_run_19 rfl (lv_at hl 2 rfl) ?_
          refine mg S hK hP hkf hkf_2 fd_X1_49 rfl dX1_run_20 ?_
          refine lv_iconst (v := nI (1)) hx hb dX1_run_23 (by decide) ?_
          refine lv_isub hx hb dX1_run_24 ?_
          refine tpi (pk_sub (a := len) (b := 1) (by omega)) ?_
          refine lv_iload_n hx hb dX1_run_25 rfl (lv_at hl 0 rfl) ?_
          refine lv_isub hx hb dX1_run_26 ?_
          refine tpi (pk_sub (a := len - 1) (b := i) (by omega)) ?_
          refine lv_goto (tgt := 31) hx hb dX1_run_27 (by decide) ?_
          exact J31 ((len - 1) - i) (by rw [bix, if_neg c_16]) (by omega) _ (lv_sub hl [0, 1, 2, 3] rfl)
  exact L7 ((len - 0) + 1) 0 w Pw nx0 un (by omega) rfl hnx hun hw rfl hPw (Nat.lt_succ_self _) g_1 _ _ hb_1 hb___1_1 hb___2_1 hfam_P_1 (fun j n0 => hfr_1 j (by omega)) hP hS _ (lv_sub hl [0, 1, 2, 3] rfl)


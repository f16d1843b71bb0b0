-- the start of the invariant
theorem bg5 : WOK (bgW 5) := bgW_ok (by decide)
theorem upd_nI {P : Nat → Nat} {k v : Nat} : upd (fun x => nI (P x)) k (nI v) = fun x => nI (va_up P k v x) := by
  funext x
  unfold upd va_up
  split <;> rfl
def P115 : Nat → Nat := va_up (va_up (va_up (va_up (va_up (va_up (va_up (va_up (fun _ => 0) (nI 0).toNatClampNeg 0) (nI 1).toNatClampNeg 1) (nI 2).toNatClampNeg 2) (nI 3).toNatClampNeg 3) (nI 4).toNatClampNeg 4) (nI 5).toNatClampNeg 5) (nI 6).toNatClampNeg 6) (nI 7).toNatClampNeg 7
theorem init_g : GP (bgW 5) (fun _ => bgW 5) (0) (0) (nI 0) (0) (0) (nI 0) (nI 0) (0) (0) (fun _ => 0) (fun _ => 0) (fun _ _ => 0) (fun _ => bgW 5) (fun _ => 0) (fun _ _ => 0) (fun _ => (-1, 0)) (fun _ _ => nI 0) ((0, fun _ => 0, fun _ => 0, fun _ => 0, 0, 0, 0, 0, 0, 0)) := ⟨⟨bg5, fun _ _ => bg5, by decide, by decide⟩, by decide, by decide, by decide, by decide, fun _ => Nat.le_of_ble_eq_true rfl, fun _ => Nat.le_of_ble_eq_true rfl, fun _ _ => Nat.le_of_ble_eq_true rfl, fun _ _ => bg5, fun _ h => absurd h (Nat.not_lt_zero _), fun _ => Nat.le_of_ble_eq_true rfl, fun _ _ => Nat.le_of_ble_eq_true rfl, fun _ => Nat.le_of_ble_eq_true rfl, ⟨⟨by decide, fun _ => Nat.le_of_ble_eq_true rfl⟩, by decide, fun _ => Nat.le_of_ble_eq_true rfl, fun _ => Nat.le_of_ble_eq_true rfl, fun _ h => absurd h (Nat.not_lt_zero _)⟩⟩
theorem init_c {b0 : Nat} {cy : Nat → ClassId} {g g1 : Nat → va_E} (h : IX9 b0 cy g g1) : CIv (bd b0) cy g1 (bgW 5) (fun _ => bgW 5) (0) (0) (nI 0) (0) (0) (nI 0) (nI 0) (0) (0) (fun _ => 0) (fun _ => 0) (fun _ _ => 0) (fun _ => bgW 5) (fun _ => 0) (fun _ _ => 0) (fun _ => (-1, 0)) (fun _ _ => nI 0) ((0, fun _ => 0, fun _ => 0, fun _ => 0, 0, 0, 0, 0, 0, 0)) := by
  obtain ⟨h0, h34, h52, h53, h75, h1, h2, h3, hF4, h17, h18, h19, hF20, h33, h35, h36, h37, h38, h39, h40, h41, h42, h43, h44, h45, h46, h47, h48, h49, h50, h51, h54, h55, h73, h74, hF56, hE76, hE82_2, hE82_2_1, hE98_2, hE98_2_1, hE106_2, hE106_2_1, hfr⟩ := h
  refine ⟨h0, ⟨pfu b0 2 13, h1, h2, h3, (fun j hj => if_pos hj), hF4⟩, ⟨0, 0, nI 0, bgW 5, pfu b0 18 13, fun _ => bgW 5, h17, h18, h19, (fun j hj => if_pos hj), hF20, by decide, by decide, bg5, fun _ _ => bg5⟩, ⟨bgW 5, h33, bg5⟩, ⟨afu b0 76 1 6, h34, fun j hj => ?_, hE76⟩, ⟨lN 0, nI 0, 0, nI 0, nI 0, fun _ => lN 0, fun _ => lN 0, fun _ => lN 0, fun _ => nI 0, fun _ => nI 0, fun _ => 0, bgW 5, bgW 5, bgW 5, h35, h36, h37, h38, h39, h40, h41, h42, bg5, h43, bg5, h44, bg5, ⟨by decide, Or.inl rfl⟩⟩, ⟨0, 0, 0, nI 0, h45, h46⟩, ⟨0, 0, h47, h48, h49, h50, h51⟩, ⟨afu b0 82 2 8, h52, (fun j hj => if_pos hj), hE82_2, hE82_2_1⟩, ⟨afu b0 98 2 4, h53, (fun j hj => if_pos hj), hE98_2, hE98_2_1⟩, ⟨mrw (bd b0 55) 17, fun _ _ => 0, 0, fun _ => 0, h54, h55, fun j hj => ?_, hF56, fun _ _ => Nat.le_of_ble_eq_true rfl, h73, h74, fun _ => Nat.le_of_ble_eq_true rfl, by decide⟩, ⟨afu b0 106 2 4, h75, (fun j hj => if_pos hj), hE106_2, hE106_2_1⟩⟩
  · unfold afu
    rw [if_pos hj, Nat.one_mul]
  · unfold mrw
    rw [if_pos hj]
    unfold bd
    exact congrArg some (by omega)
theorem init_m {b0 : Nat} {cy : Nat → ClassId} {g g1 : Nat → va_E} (h : IX10 b0 cy g g1) : MIv (bd b0) cy g1 (bgW 5) (fun _ => bgW 5) (0) (0) (nI 0) (0) (0) (nI 0) (nI 0) (0) (0) (fun _ => 0) (fun _ => 0) (fun _ _ => 0) (fun _ => bgW 5) (fun _ => 0) (fun _ _ => 0) (fun _ => (-1, 0)) (fun _ _ => nI 0) ((0, fun _ => 0, fun _ => 0, fun _ => 0, 0, 0, 0, 0, 0, 0)) := by
  obtain ⟨h114, h115, h116, h117, h118, h119, h120, h121, h122, h123, h124, h125, h126, h127, h128, h129, h130, h131, h132, h133, h134, h135, h136, h137, h138, h139, h140, h141, h142, h143, h144, hfr⟩ := h
  have e115 : g1 115 = .inl (cy 1, 8, .inl (fun x9 => nI (P115 x9))) := by
    rw [h115, upd_nI, upd_nI, upd_nI, upd_nI, upd_nI, upd_nI, upd_nI, upd_nI]
    rfl
  refine ⟨⟨P115, nI 0, nI 0, 0, 0, 0, 0, 0, nI 0, 0, 0, nI 0, 0, 0, 0, 0, 0, nI 0, h114, e115, fun i hi => ?_⟩, ⟨fun _ => 0, fun _ => 0, fun _ => 0, fun _ => lN 0, h116, h117, h118, h119, fun j hj => absurd hj (Nat.not_lt_zero _)⟩, ⟨_, h120⟩, ⟨fun _ => 0, h121, fun j hj => absurd hj (Nat.not_lt_zero _)⟩, ⟨fun _ => 0, fun _ => 0, fun _ => 0, h122, h123, h124, fun j hj => absurd hj (Nat.not_lt_zero _)⟩, ⟨fun _ => 0, fun _ => 0, fun _ => 0, fun _ => 0, fun _ => 0, h125, h126, h127, h128, h129⟩, ⟨fun _ => 0, fun _ => 0, fun _ => 0, fun _ => lN 0, h130, h131, h132, h133, fun j hj => absurd hj (Nat.not_lt_zero _)⟩, ⟨fun _ => 0, fun _ => lN 0, fun _ => nI 0, fun _ => nI 0, fun _ => 0, h134, h135, h136, h137, h138⟩, ⟨fun _ => 0, fun _ => 0, h139, h140, ⟨fun j hj => absurd hj (Nat.not_lt_zero _), fun _ _ _ => rfl⟩⟩, ⟨fun _ => 0, h141⟩, ⟨_, fun _ => 0, fun _ => nI 0, h142, h143, h144, fun k hk => ⟨?_, rfl, Or.inl rfl, Nat.le_of_ble_eq_true rfl, fun i _ => rfl⟩⟩⟩
  · have hi : i < 5 := hi
    rcases (show i = 0 ∨ i = 1 ∨ i = 2 ∨ i = 3 ∨ i = 4 by omega) with rfl | rfl | rfl | rfl | rfl <;> decide
  · rcases (show k = 0 ∨ k = 1 ∨ k = 2 ∨ k = 3 by omega) with rfl | rfl | rfl | rfl <;> decide

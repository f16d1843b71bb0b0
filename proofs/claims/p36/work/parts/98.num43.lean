-- villages, sheets, the tape: as the reference keeps them
def VR (vi fi : Nat) (DM DA : Nat → Nat) (Vl : Nat → Nat) (VV : Nat → Nat → Nat) : Prop := (∀ v, v < vi → DM v = Vl v ∧ Vl v ≤ 16 ∧ ∀ i, i < Vl v → DA (16 * v + i) = VV v i ∧ VV v i < fi) ∧ ∀ v, vi ≤ v → v < 4 → Vl v = 0
theorem VR_new {vi fi : Nat} {DM DA : Nat → Nat} {Vl : Nat → Nat} {VV : Nat → Nat → Nat} (h : VR vi fi DM DA Vl VV) (hv : vi < 4) : VR (vi + 1) fi (va_up DM vi 0) DA Vl VV := by
  refine ⟨fun v hv2 => ?_, fun v h1 h2 => h.2 v (by omega) h2⟩
  by_cases e : v = vi
  · subst e
    have h0 := h.2 v (Nat.le_refl _) hv
    rw [va_up_self, h0]
    exact ⟨rfl, by omega, fun i hi => absurd hi (Nat.not_lt_zero _)⟩
  · rw [va_up_ne _ _ e]
    exact h.1 v (by omega)
theorem VR_add {vi fi : Nat} {DM DA : Nat → Nat} {Vl : Nat → Nat} {VV : Nat → Nat → Nat} {k f : Nat} (h : VR vi fi DM DA Vl VV) (hk : k < vi) (hvi : vi ≤ 4) (hf : f < fi) (hl : Vl k < 16) : VR vi fi (va_up DM k (Vl k + 1)) (va_up DA (16 * k + Vl k) f) (va_up Vl k (apVL (Vl k))) (va_up VV k (apV (VV k) (Vl k) f)) := by
  refine ⟨fun v hv2 => ?_, fun v h1 h2 => ?_⟩
  · by_cases e : v = k
    · subst e
      rw [va_up_self, va_up_self, va_up_self]
      have q := h.1 v hv2
      refine ⟨by unfold apVL; rw [if_pos hl], by unfold apVL; rw [if_pos hl]; omega, fun i hi => ?_⟩
      unfold apVL at hi
      rw [if_pos hl] at hi
      unfold apV
      rw [if_pos hl]
      by_cases ei : i = Vl v
      · subst ei
        rw [va_up_self, va_up_self]
        exact ⟨rfl, hf⟩
      · rw [va_up_ne _ _ ei, va_up_ne _ _ (by omega)]
        exact q.2.2 i (by omega)
    · rw [va_up_ne _ _ e, va_up_ne _ _ e, va_up_ne _ _ e]
      have q := h.1 v hv2
      refine ⟨q.1, q.2.1, fun i hi => ?_⟩
      rw [va_up_ne _ _ (by omega)]
      exact q.2.2 i hi
  · rw [va_up_ne _ _ (by omega)]
    exact h.2 v h1 h2
theorem VR_full {vi fi : Nat} {DM DA : Nat → Nat} {Vl : Nat → Nat} {VV : Nat → Nat → Nat} {k f : Nat} (h : VR vi fi DM DA Vl VV) (hl : ¬ Vl k < 16) : VR vi fi DM DA (va_up Vl k (apVL (Vl k))) (va_up VV k (apV (VV k) (Vl k) f)) := by
  have e1 : va_up Vl k (apVL (Vl k)) = Vl := by
    unfold apVL; rw [if_neg hl]; exact va_up_id Vl k rfl
  have e2 : va_up VV k (apV (VV k) (Vl k) f) = VV := by
    unfold apV; rw [if_neg hl]; exact va_up_id VV k rfl
  rw [e1, e2]; exact h
theorem VR_fi {vi fi : Nat} {DM DA : Nat → Nat} {Vl : Nat → Nat} {VV : Nat → Nat → Nat} (h : VR vi fi DM DA Vl VV) : VR vi (fi + 1) DM DA Vl VV :=
  ⟨fun v hv => ⟨(h.1 v hv).1, (h.1 v hv).2.1, fun i hi => ⟨((h.1 v hv).2.2 i hi).1, by have := ((h.1 v hv).2.2 i hi).2; omega⟩⟩, h.2⟩
theorem apVL_lt {n : Nat} (h : n < 16) : apVL n = n + 1 := if_pos h
theorem tol_out {B : Nat → Nat} {len : Nat} {what : Int32} (hl : len ≤ 200) (e0 : ¬ what = 0) (e1 : ¬ what = 1) (e2 : ¬ what = 2) (h1 : ¬ (¬ what < nI 10 ∧ ¬ nI (9 + len) < what)) (h2 : ¬ (¬ what < nI 300 ∧ ¬ nI (299 + len) < what)) : tolA B len what = -1 := by
  by_cases h : what < nI 10
  · exact tol_lo e0 e1 e2 h
  · obtain ⟨k, hk, rfl⟩ := nI_of (x := what) (fun q => h (Int32.lt_trans q (by decide)))
    have h10 : 10 ≤ k := Nat.not_lt.mp (fun q => h ((nI_ltI hk (by decide)).mpr q))
    have ha : 9 + len < k := Decidable.byContradiction (fun q => h1 ⟨h, fun z => q ((nI_ltI (by omega) hk).mp z)⟩)
    have hb : k < 300 ∨ 299 + len < k := by
      by_cases q : k < 300
      · exact Or.inl q
      · exact Or.inr (Decidable.byContradiction (fun z => h2 ⟨fun y => q ((nI_ltI hk (by decide)).mp y), fun y => z ((nI_ltI (by omega) hk).mp y)⟩))
    exact tol_m hl hk h10 (by omega) (by omega)
theorem rg_n {what : Int32} {a len : Nat} (ha : a + len < 2 ^ 30) (h : ¬ what < nI (a + 1) ∧ ¬ nI (a + len) < what) : ∃ j, j < len ∧ what = nI (j + (a + 1)) := by
  obtain ⟨k, hk, rfl⟩ := nI_of (x := what) (fun q => h.1 (Int32.lt_of_lt_of_le q (nI_pos' (by omega))))
  have h1 : a + 1 ≤ k := Nat.not_lt.mp (fun q => h.1 ((nI_ltI hk (by omega)).mpr q))
  have h2 : k ≤ a + len := Nat.not_lt.mp (fun q => h.2 ((nI_ltI (by omega) hk).mpr q))
  exact ⟨k - (a + 1), by omega, by rw [Nat.sub_add_cancel h1]⟩
theorem dn_out {Vl : Nat → Nat} {VV : Nat → Nat → Nat} {Fl : Nat → Nat} {fc vc i : Nat} {what : Int32} (hv : vc ≤ 4) (h : i < vc) (h0 : ¬ what = 0) (h1 : ¬ what = 1) (h2 : ¬ (¬ what < nI 10 ∧ ¬ nI (9 + Vl i) < what)) (hl : Vl i ≤ 16) : dnA Vl VV Fl fc vc (nI i) what = -1 := by
  refine dnA_n hv h h0 h1 ?_ hl
  by_cases q : what < nI 10
  · exact Or.inl q
  · obtain ⟨k, hk, rfl⟩ := nI_of (x := what) (fun z => q (Int32.lt_trans z (by decide)))
    have h10 : 10 ≤ k := Nat.not_lt.mp (fun z => q ((nI_ltI hk (by decide)).mpr z))
    have ha : 9 + Vl i < k := Decidable.byContradiction (fun z => h2 ⟨q, fun y => z ((nI_ltI (by omega) hk).mp y)⟩)
    exact Or.inr ⟨k, hk, rfl, h10, by omega⟩
theorem grB_a {B : Nat → Nat} {j : Nat} {m0 : Int32} (hm : m0 = grB B j) (h : B j / 8 = 6 ∨ B j / 8 = 3) : m0 = grB B (j + 1) := by rw [grB, if_pos h]; exact hm
theorem grB_b {B : Nat → Nat} {j : Nat} {m0 : Int32} (hm : m0 = grB B j) (h : nI (B j % 8) ≤ m0) : m0 = grB B (j + 1) := by
  rw [grB]
  split
  · exact hm
  · rw [← hm, if_neg (Int32.not_lt.mpr h)]
theorem grB_c {B : Nat → Nat} {j : Nat} {m0 : Int32} (hm : m0 = grB B j) (h1 : ¬ B j / 8 = 6) (h2 : ¬ B j / 8 = 3) (h : ¬ nI (B j % 8) ≤ m0) : nI (B j % 8) = grB B (j + 1) := by
  rw [grB, if_neg (fun q => q.elim h1 h2), ← hm, if_pos (Int32.not_le.mp h)]
/-- sheets -/
def SHR (LN : Nat → Int32) (LE : Nat → Nat) (CE : Nat → Int32) (Sh : Nat → Int32 × Nat) (SK : Nat → Nat → Int32) : Prop := ∀ k, k < 4 → LN k = (if (Sh k).1 = -1 then -4 else (Sh k).1) ∧ LE k = (Sh k).2 ∧ ((Sh k).1 = -1 ∨ isI (Sh k).1 3) ∧ (Sh k).2 ≤ 60 ∧ ∀ i, i < 60 → CE (60 * k + i) = SK k i
def clC (k m : Nat) (CE : Nat → Int32) : Nat → Int32 := fun j => if 60 * k ≤ j ∧ j < 60 * k + m then 0 else CE j
theorem clC_0 (k : Nat) (CE : Nat → Int32) : clC k 0 CE = CE := funext fun j => if_neg (by omega)
theorem clC_s (k m : Nat) (CE : Nat → Int32) : upd (clC k m CE) (60 * k + m) (nI 0) = clC k (m + 1) CE := by
  funext j
  unfold upd clC
  by_cases e : j = 60 * k + m
  · rw [if_pos e, if_pos (by omega)]; rfl
  · rw [if_neg e]
    by_cases h : 60 * k ≤ j ∧ j < 60 * k + m
    · rw [if_pos h, if_pos (by omega)]
    · rw [if_neg h, if_neg (by omega)]
theorem SHR_new {LN : Nat → Int32} {LE : Nat → Nat} {CE : Nat → Int32} {Sh : Nat → Int32 × Nat} {SK : Nat → Nat → Int32} {k z : Nat} {y : Int32} (h : SHR LN LE CE Sh SK) (hk : k < 4) (hy : isI y 3) (hz : z ≤ 60) : SHR (upd LN k y) (va_up LE k z) (clC k 60 CE) (va_up Sh k (y, z)) (va_up SK k (flC 60 0 (SK k))) := fun v hv => by
  obtain ⟨q1, q2, q3, q4, q5⟩ := h v hv
  have hy1 : ¬ y = -1 := fun e => by rw [e] at hy; exact hy.1 (by decide)
  by_cases e : v = k
  · subst e
    rw [va_up_self, va_up_self, va_up_self]
    refine ⟨?_, rfl, Or.inr hy, hz, fun i hi => ?_⟩
    · unfold upd; rw [if_pos rfl]; dsimp only; rw [if_neg hy1]
    · unfold clC flC
      rw [if_pos (by omega), if_pos hi]
  · rw [va_up_ne _ _ e, va_up_ne _ _ e, va_up_ne _ _ e]
    refine ⟨?_, q2, q3, q4, fun i hi => ?_⟩
    · unfold upd; rw [if_neg e]; exact q1
    · unfold clC
      rw [if_neg (by omega)]
      exact q5 i hi
theorem SHR_put {LN : Nat → Int32} {LE : Nat → Nat} {CE : Nat → Int32} {Sh : Nat → Int32 × Nat} {SK : Nat → Nat → Int32} {k j : Nat} {z : Int32} (h : SHR LN LE CE Sh SK) (hk : k < 4) (hj : j < (Sh k).2) : SHR LN LE (upd CE (60 * k + j) (narL (Sh k).1 z)) Sh (va_up SK k (ptC (Sh k).1 (Sh k).2 (SK k) (nI j) z)) := fun v hv => by
  obtain ⟨q1, q2, q3, q4, q5⟩ := h v hv
  refine ⟨q1, q2, q3, q4, fun i hi => ?_⟩
  have hin : inC (Sh k).2 (nI j) := (inC_isI (by have := (h k hk).2.2.2.1; omega)).mpr ((isI_nI (by have := (h k hk).2.2.2.1; omega) (by have := (h k hk).2.2.2.1; omega)).mpr hj)
  have hj60 := (h k hk).2.2.2.1
  by_cases e : v = k
  · subst e
    rw [va_up_self, ptC_yes hin, nI_clamp (by omega)]
    unfold upd
    by_cases ei : i = j
    · subst ei; rw [if_pos rfl, if_pos rfl]
    · rw [if_neg ei, if_neg (by omega)]; exact q5 i hi
  · rw [va_up_ne _ _ e]
    unfold upd
    rw [if_neg (by omega)]
    exact q5 i hi
theorem SHR_no {LN : Nat → Int32} {LE : Nat → Nat} {CE : Nat → Int32} {Sh : Nat → Int32 × Nat} {SK : Nat → Nat → Int32} {k : Nat} {i z : Int32} (h : SHR LN LE CE Sh SK) (hk : k < 4) (hj : ¬ isI i (Sh k).2) : SHR LN LE CE Sh (va_up SK k (ptC (Sh k).1 (Sh k).2 (SK k) i z)) := by
  have e : va_up SK k (ptC (Sh k).1 (Sh k).2 (SK k) i z) = SK := va_up_id SK k (ptC_no (fun q => hj ((inC_isI (by have := (h k hk).2.2.2.1; omega)).mp q)))
  rw [e]; exact h
theorem shlr (v : Int32) {d : Nat} (hd : d < 32) (hd0 : 0 < d) : ∀ i, i < 32 → ((v <<< (nI d &&& 31)) >>> (nI d &&& 31)).toBitVec.getLsbD i = v.toBitVec.getLsbD (if i + d < 32 then i else 31 - d) := fun i hi => by
  have e : ((nI d &&& 31).toBitVec.smod 32) = BitVec.ofNat 32 d := by
    revert d; decide +kernel
  rw [Int32.toBitVec_shiftRight, Int32.toBitVec_shiftLeft, e, BitVec.sshiftRight_eq', BitVec.getLsbD_sshiftRight]
  have e2 : (BitVec.ofNat 32 d).toNat = d := by rw [BitVec.toNat_ofNat]; exact Nat.mod_eq_of_lt (by omega)
  rw [e2, BitVec.shiftLeft_eq', e2]
  have h32 : ¬ 32 ≤ i := by omega
  by_cases h : d + i < 32
  · rw [if_pos h, if_pos (by omega), BitVec.getLsbD_shiftLeft]
    have h2 : ¬ d + i < d := by omega
    simp [h32, h, h2]
  · rw [if_neg h, if_neg (by omega), BitVec.msb_eq_getLsbD_last, BitVec.getLsbD_shiftLeft]
    have h2 : ¬ 31 < d := by omega
    simp [h32, h2]
theorem nar8 (v : Int32) : ((v <<< (nI 24 &&& 31)) >>> (nI 24 &&& 31)) = v.toInt8.toInt32 := by
  apply Int32.toBitVec_inj.mp
  apply BitVec.eq_of_getLsbD_eq
  intro i hi
  rw [shlr v (by omega) (by omega) i hi]
  show _ = (BitVec.signExtend 32 (BitVec.signExtend 8 v.toBitVec)).getLsbD i
  rw [BitVec.getLsbD_signExtend]
  by_cases h : i < 8
  · rw [if_pos (by omega), if_pos h, BitVec.getLsbD_signExtend]
    have : i < 32 := hi
    simp [h, this]
  · rw [if_neg (by omega), if_neg h, BitVec.msb_eq_getLsbD_last, BitVec.getLsbD_signExtend]
    simp [hi]
theorem nar16 (v : Int32) : ((v <<< (nI 16 &&& 31)) >>> (nI 16 &&& 31)) = v.toInt16.toInt32 := by
  apply Int32.toBitVec_inj.mp
  apply BitVec.eq_of_getLsbD_eq
  intro i hi
  rw [shlr v (by omega) (by omega) i hi]
  show _ = (BitVec.signExtend 32 (BitVec.signExtend 16 v.toBitVec)).getLsbD i
  rw [BitVec.getLsbD_signExtend]
  by_cases h : i < 16
  · rw [if_pos (by omega), if_pos h, BitVec.getLsbD_signExtend]
    have : i < 32 := hi
    simp [h, this]
  · rw [if_neg (by omega), if_neg h, BitVec.msb_eq_getLsbD_last, BitVec.getLsbD_signExtend]
    simp [hi]
theorem lo_1 {x : Int32} (h : x = -1 ∨ isI x 3) : (if x = -1 then (-4 : Int32) else x) = -4 ↔ x = -1 := by
  rcases h with rfl | h
  · decide
  · obtain ⟨k, hk, rfl⟩ := isI_nat (by omega) h
    have : ∀ k, k < 3 → ((if nI k = -1 then (-4 : Int32) else nI k) = -4 ↔ nI k = -1) := by decide
    exact this k hk
theorem lo_e {x y : Int32} (h : x = -1 ∨ isI x 3) (hy : isI y 3) : (if x = -1 then (-4 : Int32) else x) = y ↔ x = y := by
  obtain ⟨j, hj, rfl⟩ := isI_nat (by omega) hy
  rcases h with rfl | h
  · have : ∀ j, j < 3 → ((if (-1 : Int32) = -1 then (-4 : Int32) else -1) = nI j ↔ (-1 : Int32) = nI j) := by decide
    exact this j hj
  · obtain ⟨k, hk, rfl⟩ := isI_nat (by omega) h
    have : ∀ k, k < 3 → ∀ j, j < 3 → ((if nI k = -1 then (-4 : Int32) else nI k) = nI j ↔ nI k = nI j) := by decide
    exact this k hk j hj
/-- a scanned cell's place, over longs -/
theorem add64 (x : Int32) {c : Nat} (hc : c < 100) : (x.toInt64 + lN c).toInt = x.toInt + c := by
  have h1 := x.toInt_lt
  have h2 := x.le_toInt
  rw [Int64.toInt_add, Int32.toInt_toInt64, lN_toInt (by omega)]
  apply Int.bmod_eq_of_le <;> omega
theorem sc_in {x : Int32} {c sz : Nat} (hc : c < 60) (hs : sz ≤ 60) : (lN 0 ≤ x.toInt64 + lN c ∧ x.toInt64 + lN c ≤ (nI sz - nI 2).toInt64) ↔ (isI (x + nI c) sz ∧ isI (x + nI c + nI 1) sz) := by
  have h1 := x.toInt_lt
  have h2 := x.le_toInt
  have e2 : (nI sz - nI 2).toInt = (sz : Int) - 2 := by
    have : ∀ s, s < 61 → (nI s - nI 2).toInt = (s : Int) - 2 := by decide +kernel
    exact this sz (by omega)
  have e3 : (lN 0).toInt = 0 := by decide
  rw [Int64.le_iff_toInt_le, Int64.le_iff_toInt_le, add64 x (by omega), Int32.toInt_toInt64, e2, e3]
  constructor
  · rintro ⟨a, b⟩
    obtain ⟨j, hj⟩ : ∃ j : Nat, x.toInt + c = j := ⟨(x.toInt + c).toNat, by omega⟩
    have ex : x + nI c = nI j := by
      apply Int32.toInt_inj.mp
      rw [Int32.toInt_add, nI_toInt (show c < 2 ^ 31 by omega), nI_toInt (show j < 2 ^ 31 by omega), hj]
      apply Int.bmod_eq_of_le <;> omega
    rw [ex, nI_add]
    exact ⟨(isI_nI (by omega) (by omega)).mpr (by omega), (isI_nI (by omega) (by omega)).mpr (by omega)⟩
  · rintro ⟨a, b⟩
    obtain ⟨j, hj, ej⟩ := isI_nat (by omega) a
    rw [ej, nI_add] at b
    have hj2 := (isI_nI (by omega) (by omega)).mp b
    have e := congrArg Int32.toInt ej
    rw [Int32.toInt_add, nI_toInt (show c < 2 ^ 31 by omega), nI_toInt (show j < 2 ^ 31 by omega)] at e
    have e4 : x.toInt + c = j := by
      by_cases q : x.toInt + c < 2 ^ 31
      · have : (x.toInt + (c : Int)).bmod (2 ^ 32) = x.toInt + c := by apply Int.bmod_eq_of_le <;> omega
        rw [← this]; exact e
      · have e0 : x.toInt + (c : Int) = (x.toInt + c - 2 ^ 32) + ((2 ^ 32 : Nat) : Int) := by omega
        have this : (x.toInt + (c : Int)).bmod (2 ^ 32) = x.toInt + c - 2 ^ 32 := (congrArg (fun z => Int.bmod z (2 ^ 32)) e0).trans (by rw [Int.add_bmod_right]; apply Int.bmod_eq_of_le <;> omega)
        rw [this] at e; omega
    omega
theorem sc_lo {x : Int32} {c : Nat} : (x.toInt64 + lN c).toInt32 = x + nI c := by
  rw [Int64.toInt32_add, Int32.toInt32_toInt64, lN_i]


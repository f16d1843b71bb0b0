-- what a token does
def MXR (R : Nat × PS) (T : Nat → Nat) (tp q : Nat) (j nm dp : Nat) (NS NN BG RD IT : Nat → Nat) (at2 sp2 tk2 : Nat) (vl2 : Int32) (wr2 wa2 : Nat) : Prop := (¬ R.1 = 0 ∧ wr2 = R.1 ∧ wa2 = lxP T tp q) ∨ (R.1 = 0 ∧ MPR R.2 j nm dp NS NN BG RD IT ∧ LXR T tp (lxN T tp q) at2 sp2 tk2 vl2 wr2 wa2)
def ltP (tv : Nat) (p : PS) : PS := (pLen p, pB p, pSt p, pTm p, pOp p, 1, tv, pRd p, pEm p, pOv p)
theorem ltP_e (tv : Nat) (p : PS) : tkItem 0 tv p = (0, ltP tv p) := by unfold tkItem; rw [if_pos rfl]; rfl
theorem LXR_k2 {T : Nat → Nat} {len q at2 sp tk : Nat} {vl : Int32} {wr2 wa : Nat} (h : LXR T len q at2 sp tk vl wr2 wa) (h6 : ¬ lxK T len q = 6) : tk = 2 ↔ lxK T len q = 1 := by
  obtain ⟨_, _, h5, h0, h1, h2, h3, h4, _⟩ := h
  have hk := lxK_lt T len q
  rcases (show lxK T len q = 0 ∨ lxK T len q = 1 ∨ lxK T len q = 2 ∨ lxK T len q = 3 ∨ lxK T len q = 4 ∨ lxK T len q = 5 by omega) with e | e | e | e | e | e
  · have := (h0 e).1; omega
  · have := (h1 e).1; omega
  · have := h2 e; omega
  · have := h3 e; omega
  · have := h4 e; omega
  · have := h5 e; omega
theorem LXR_k3 {T : Nat → Nat} {len q at2 sp tk : Nat} {vl : Int32} {wr2 wa : Nat} (h : LXR T len q at2 sp tk vl wr2 wa) (h6 : ¬ lxK T len q = 6) : tk = 3 ↔ lxK T len q = 2 := by
  obtain ⟨_, _, h5, h0, h1, h2, h3, h4, _⟩ := h
  have hk := lxK_lt T len q
  rcases (show lxK T len q = 0 ∨ lxK T len q = 1 ∨ lxK T len q = 2 ∨ lxK T len q = 3 ∨ lxK T len q = 4 ∨ lxK T len q = 5 by omega) with e | e | e | e | e | e
  · have := (h0 e).1; omega
  · have := (h1 e).1; omega
  · have := h2 e; omega
  · have := h3 e; omega
  · have := h4 e; omega
  · have := h5 e; omega
theorem LXR_w {T : Nat → Nat} {len q at2 sp tk : Nat} {vl : Int32} {wr2 wa : Nat} (h : LXR T len q at2 sp tk vl wr2 wa) : wr2 ≤ 1 ∧ tk ≤ 5 ∧ (wr2 = 0 ↔ ¬ lxK T len q = 6) ∧ sp = lxP T len q ∧ (¬ wr2 = 0 → wr2 = 1 ∧ wa = lxP T len q) ∧ at2 = lxN T len q := by
  obtain ⟨h9, hs, h5, h0, h1, h2, h3, h4, hw, ha, ht⟩ := h
  refine ⟨by split at hw <;> omega, ht, ?_, hs, fun q => ?_, h9⟩
  · split at hw <;> rename_i z
    · exact ⟨fun q => by omega, fun q => absurd z q⟩
    · exact ⟨fun _ => z, fun _ => hw⟩
  · split at hw <;> rename_i z
    · exact ⟨hw, ha z⟩
    · exact absurd hw q
/-- the number behind a letter -/
theorem num_6 {Fl : Nat → Nat} {FB : Nat → Nat → Nat} {kn v : Nat} {p : PS} : (tkAny Fl FB kn 6 v p).1 = 1 := by unfold tkAny; rw [if_pos rfl]
theorem num_n {Fl : Nat → Nat} {FB : Nat → Nat → Nat} {kn k v tv : Nat} {p : PS} (h6 : ¬ k = 6) (h1 : ¬ k = 1) : (tkAny Fl FB kn k v (ltP tv p)).1 = 2 := by
  unfold tkAny tkNum; rw [if_neg h6, if_pos (show pWt (ltP tv p) = 1 from rfl), if_neg h1]
theorem num_o {Fl : Nat → Nat} {FB : Nat → Nat → Nat} {kn v tv : Nat} {p : PS} (h : ¬ v < (if tv = 6 then kn else 8)) : (tkAny Fl FB kn 1 v (ltP tv p)).1 = 3 := by
  unfold tkAny tkNum; rw [if_neg (by decide), if_pos (show pWt (ltP tv p) = 1 from rfl), if_pos (show (1 : Nat) = 1 from rfl)]
  show (if v < (if tv = 6 then kn else 8) then _ else _ : Nat × PS).1 = 3
  rw [if_neg h]
theorem num_y {Fl : Nat → Nat} {FB : Nat → Nat → Nat} {kn v tv : Nat} {p : PS} (h : v < (if tv = 6 then kn else 8)) : tkAny Fl FB kn 1 v (ltP tv p) = (0, if tv = 6 then woP (bt8 (FB v) (Fl v)) 0 (Fl v) (wt0 (ltP tv p)) else wrP (8 * tv + v) (wt0 (ltP tv p))) := by
  unfold tkAny tkNum; rw [if_neg (by decide), if_pos (show pWt (ltP tv p) = 1 from rfl), if_pos (show (1 : Nat) = 1 from rfl)]
  show (if v < (if tv = 6 then kn else 8) then _ else _ : Nat × PS) = _
  rw [if_pos h]; rfl
theorem z_num {v fi : Nat} (hv : v < 3000) (hfi : fi < 2 ^ 31) : (lN 0 ≤ lN v ∧ lN v ≤ (nI fi - nI 1).toInt64) ↔ v < fi := by
  rw [← nI_l (show v < 2 ^ 31 by omega), in_00 hfi, isI_nI (by omega) hfi]
theorem z_8 {v : Nat} (hv : v < 3000) : (lN 0 ≤ lN v ∧ lN v ≤ lN 7) ↔ v < 8 := by
  rw [in_nn (by omega) (by omega) (by omega)]; omega


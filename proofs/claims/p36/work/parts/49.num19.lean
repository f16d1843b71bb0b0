-- the class's own calls: villages and sheets
def dnA (Vl : Nat → Nat) (VV : Nat → Nat → Nat) (Fl : Nat → Nat) (fc vc : Nat) (x what : Int32) : Int32 :=
  if isI x vc then (if what = nI 0 then nI (Vl x.toNatClampNeg) else if what = nI 1 then nI (bts Fl fc (VV x.toNatClampNeg) (Vl x.toNatClampNeg)) else if isI (what - 10) (Vl x.toNatClampNeg) ∧ ¬ what < 10 then nI (VV x.toNatClampNeg (what - 10).toNatClampNeg) else -1) else -1
theorem dnA_b {Vl : Nat → Nat} {VV : Nat → Nat → Nat} {Fl : Nat → Nat} {fc vc : Nat} {x what : Int32} (h : ¬ isI x vc) : dnA Vl VV Fl fc vc x what = -1 := if_neg h
theorem dnA_0 {Vl : Nat → Nat} {VV : Nat → Nat → Nat} {Fl : Nat → Nat} {fc vc i : Nat} (hv : vc ≤ 4) (h : i < vc) : dnA Vl VV Fl fc vc (nI i) (nI 0) = nI (Vl i) := by
  unfold dnA; rw [if_pos ((isI_nI (by omega) (by omega)).mpr h), if_pos rfl, nI_clamp (by omega)]
theorem dnA_1 {Vl : Nat → Nat} {VV : Nat → Nat → Nat} {Fl : Nat → Nat} {fc vc i : Nat} (hv : vc ≤ 4) (h : i < vc) : dnA Vl VV Fl fc vc (nI i) (nI 1) = nI (bts Fl fc (VV i) (Vl i)) := by
  unfold dnA; rw [if_pos ((isI_nI (by omega) (by omega)).mpr h), if_neg (by decide), if_pos rfl, nI_clamp (by omega)]
theorem dnA_y {Vl : Nat → Nat} {VV : Nat → Nat → Nat} {Fl : Nat → Nat} {fc vc i j : Nat} (hv : vc ≤ 4) (h : i < vc) (hl : Vl i ≤ 16) (hj : j < Vl i) : dnA Vl VV Fl fc vc (nI i) (nI (j + 10)) = nI (VV i j) := by
  unfold dnA
  have e : nI (j + 10) - 10 = nI j := by
    rw [show (10 : Int32) = nI 10 from rfl, pk_sub (by omega), show j + 10 - 10 = j by omega]
  rw [if_pos ((isI_nI (by omega) (by omega)).mpr h), if_neg (fun q => by have := (nI_eq (by omega) (by omega)).mp q; omega), if_neg (fun q => by have := (nI_eq (by omega) (by omega)).mp q; omega), e, nI_clamp (by omega), nI_clamp (by omega), if_pos ⟨(isI_nI (by omega) (by omega)).mpr hj, fun q => by have := (nI_ltI (a := j + 10) (b := 10) (by omega) (by omega)).mp q; omega⟩]
theorem dnA_n {Vl : Nat → Nat} {VV : Nat → Nat → Nat} {Fl : Nat → Nat} {fc vc i : Nat} {what : Int32} (hv : vc ≤ 4) (h : i < vc) (h0 : ¬ what = nI 0) (h1 : ¬ what = nI 1) (h2 : what < nI 10 ∨ ∃ k, k < 2 ^ 31 ∧ what = nI k ∧ 10 ≤ k ∧ 10 + Vl i ≤ k) (hl : Vl i ≤ 16) : dnA Vl VV Fl fc vc (nI i) what = -1 := by
  unfold dnA
  rw [if_pos ((isI_nI (by omega) (by omega)).mpr h), if_neg h0, if_neg h1, nI_clamp (by omega)]
  refine if_neg (fun q => ?_)
  rcases h2 with h2 | ⟨k, hk, rfl, h3, h4⟩
  · exact q.2 h2
  · obtain ⟨z, hz, ez⟩ := isI_nat (by omega) q.1
    rw [show (10 : Int32) = nI 10 from rfl, pk_sub (by omega)] at ez
    have := (nI_eq (by omega) (by omega)).mp ez
    omega


-- the class's own calls: what a figure holds
def tolA (B : Nat → Nat) (len : Nat) (what : Int32) : Int32 := if what = nI 0 then nI len else if what = nI 1 then nI (acB B len) else if what = nI 2 then grB B len else if ¬ what < nI 10 ∧ isI (what - nI 10) len then nI (bt8 B len (what - nI 10).toNatClampNeg / 8) else if ¬ what < nI 300 ∧ isI (what - nI 300) len then nI (bt8 B len (what - nI 300).toNatClampNeg % 8) else -1
theorem tol_lo {B : Nat → Nat} {len : Nat} {what : Int32} (e0 : ¬ what = nI 0) (e1 : ¬ what = nI 1) (e2 : ¬ what = nI 2) (h : what < nI 10) : tolA B len what = -1 := by
  unfold tolA
  rw [if_neg e0, if_neg e1, if_neg e2, if_neg (fun q => q.1 h), if_neg (fun q => q.1 (Int32.lt_trans h (by decide)))]
theorem tol_s {B : Nat → Nat} {len j : Nat} (hl : len ≤ 200) (hj : j < len) : tolA B len (nI (j + 10)) = nI (bt8 B len j / 8) := by
  unfold tolA
  have e : nI (j + 10) - nI 10 = nI j := by rw [pk_sub (by omega), Nat.add_sub_cancel]
  rw [if_neg (fun q => by have := (nI_eq (by omega) (by omega)).mp q; omega), if_neg (fun q => by have := (nI_eq (by omega) (by omega)).mp q; omega), if_neg (fun q => by have := (nI_eq (by omega) (by omega)).mp q; omega), e, if_pos ⟨fun q => by have := (nI_ltI (a := j + 10) (b := 10) (by omega) (by omega)).mp q; omega, (isI_nI (by omega) (by omega)).mpr hj⟩, nI_clamp (by omega)]
theorem tol_g {B : Nat → Nat} {len k : Nat} (hl : len ≤ 200) (hk : k < 2 ^ 31) (h10 : 10 ≤ k) (hn : 10 + len ≤ k) : tolA B len (nI k) = if ¬ nI k < nI 300 ∧ isI (nI k - nI 300) len then nI (bt8 B len (nI k - nI 300).toNatClampNeg % 8) else -1 := by
  unfold tolA
  rw [if_neg (fun q => by have := (nI_eq (by omega) (by omega)).mp q; omega), if_neg (fun q => by have := (nI_eq (by omega) (by omega)).mp q; omega), if_neg (fun q => by have := (nI_eq (by omega) (by omega)).mp q; omega), if_neg (fun q => by
    have q := q.2
    rw [pk_sub h10] at q
    have := (isI_nI (by omega) (by omega)).mp q
    omega)]
theorem tol_m {B : Nat → Nat} {len k : Nat} (hl : len ≤ 200) (hk : k < 2 ^ 31) (h10 : 10 ≤ k) (hn : 10 + len ≤ k) (h3 : k < 300 ∨ 300 + len ≤ k) : tolA B len (nI k) = -1 := by
  rw [tol_g hl hk h10 hn]
  refine if_neg (fun q => ?_)
  rcases h3 with h3 | h3
  · exact q.1 ((nI_ltI hk (by omega)).mpr h3)
  · have q := q.2
    rw [pk_sub (by omega)] at q
    have := (isI_nI (by omega) (by omega)).mp q
    omega
theorem tol_n {B : Nat → Nat} {len j : Nat} (hl : len ≤ 200) (hj : j < len) : tolA B len (nI (j + 300)) = nI (bt8 B len j % 8) := by
  have e : nI (j + 300) - nI 300 = nI j := by rw [pk_sub (by omega), Nat.add_sub_cancel]
  rw [tol_g hl (by omega) (by omega) (by omega), e, if_pos ⟨fun q => by have := (nI_ltI (a := j + 300) (b := 300) (by omega) (by omega)).mp q; omega, (isI_nI (by omega) (by omega)).mpr hj⟩, nI_clamp (by omega)]


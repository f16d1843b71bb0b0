/-- the class's teller at the beginning -/
def beP (p : PS) : PS := (0, pB p, pSt p, pTm p, 0, 0, pLt p, pRd p, 1, 0)
theorem beP_ok {p : PS} (h : POK p) : POK (beP p) :=
  ⟨⟨Nat.zero_le _, h.1.2⟩, ⟨Nat.zero_le _, show 0 < 3 by decide, h.2.1.2.2.1, h.2.1.2.2.2.1, show 1 < 2 by decide, show 0 < 2 by decide⟩, h.2.2.1, h.2.2.2.1, fun i hi => absurd hi (Nat.not_lt_zero _)⟩
theorem beP_0 {p : PS} (h : POK p) : (POK (beP p) ∧ pLen (beP p) = 0) ∧ (pOp (beP p) = 0 ∧ pEm (beP p) = 1) ∧ (pOv (beP p) = 0 ∧ pWt (beP p) = 0) := ⟨⟨beP_ok h, rfl⟩, ⟨rfl, rfl⟩, ⟨rfl, rfl⟩⟩
theorem tkF_n {R : TS} (h : ¬ (R.2.2.1 = 0 ∧ ¬ pOv R.2.1 = 0)) : tkF R = R.2.2.1 ∧ tkP R = R.2.2.2.1 := ⟨if_neg h, if_neg h⟩
theorem tkF_y {R : TS} (h : R.2.2.1 = 0 ∧ ¬ pOv R.2.1 = 0) : tkF R = 5 ∧ tkP R = 0 := ⟨if_pos h, if_pos h⟩
theorem tkR_e {Fl : Nat → Nat} {FB : Nat → Nat → Nat} {kn len i q pl : Nat} {T : Nat → Nat} {p0 p : PS} {R : TS} (h : tkR Fl FB kn T len p0 i = (q, p, 0, pl, 0)) (hi : i = 161) (hR : tkR Fl FB kn T len p0 161 = R) : R = (q, p, 0, pl, 0) := by subst hi; exact hR.symm.trans h
theorem tkR_g {Fl : Nat → Nat} {FB : Nat → Nat → Nat} {kn len i q pl : Nat} {T : Nat → Nat} {p0 p : PS} {R : TS} {X : Nat × PS} (h : tkR Fl FB kn T len p0 i = (q, p, 0, pl, 0)) (hi : i ≤ 160) (hR : tkR Fl FB kn T len p0 161 = R) (hX : tkAny Fl FB kn (lxK T len q) (lxV T len q) p = X) (hf : ¬ X.1 = 0 ∨ lxK T len q = 5) : R = (lxN T len q, X.2, X.1, lxP T len q, 1) := by
  have q2 := tkR_f (tkR_d h hX hf) (160 - i)
  rw [show i + 1 + (160 - i) = 161 by omega, hR] at q2
  exact q2
theorem tkR_n {Fl : Nat → Nat} {FB : Nat → Nat → Nat} {kn len i q pl : Nat} {T : Nat → Nat} {p0 p : PS} {X : Nat × PS} (h : tkR Fl FB kn T len p0 i = (q, p, 0, pl, 0)) (hX : tkAny Fl FB kn (lxK T len q) (lxV T len q) p = X) (hf : X.1 = 0) (hk : ¬ lxK T len q = 5) : tkR Fl FB kn T len p0 (i + 1) = (lxN T len q, X.2, 0, lxP T len q, 0) :=
  tkR_l h hk (by rw [hX]; exact Prod.ext hf rfl)


-- rounds, as the reference tells them
def nuP (tv : Nat) (p : PS) : PS := (pLen p, pB p, pSt p, pTm p, pOp p, 2, pLt p, tv, pEm p, pOv p)
theorem nuP_e (tv : Nat) (p : PS) : tkItem 1 tv p = (if tv < 1 ∨ 20 < tv then 3 else 0, nuP tv p) := by
  unfold tkItem; rw [if_neg (by decide), if_pos rfl]; rfl
theorem MPR_c {p p2 : PS} {i nm dp : Nat} {NS NN BG RD IT : Nat → Nat} (h : MPR p i nm dp NS NN BG RD IT) (hk : POK p2) (e1 : pLen p2 = pLen p) (e2 : pB p2 = pB p) (e3 : pOv p2 = pOv p) (e4 : pOp p2 = pOp p) (e5 : pSt p2 = pSt p) (e6 : pTm p2 = pTm p) (e7 : pEm p2 = pEm p) : MPR p2 i nm dp NS NN BG RD IT := by
  obtain ⟨⟨a1, a2⟩, b, c, d, e, f⟩ := h
  unfold MPR
  rw [e1, e2, e3, e4, e5, e6, e7]
  exact ⟨⟨a1, hk⟩, b, c, d, e, f⟩
theorem opn_n {Fl : Nat → Nat} {FB : Nat → Nat → Nat} {kn k v tv : Nat} {p : PS} (h6 : ¬ k = 6) (h1 : ¬ k = 2) : (tkAny Fl FB kn k v (nuP tv p)).1 = 2 := by
  unfold tkAny tkOpen
  rw [if_neg h6, if_neg (show ¬ pWt (nuP tv p) = 1 from (by decide : ¬ 2 = 1)), if_pos (show pWt (nuP tv p) = 2 from rfl), if_neg h1]
theorem opn_o {Fl : Nat → Nat} {FB : Nat → Nat → Nat} {kn v tv : Nat} {p : PS} (h : ¬ pOp p < 4) : (tkAny Fl FB kn 2 v (nuP tv p)).1 = 4 := by
  unfold tkAny tkOpen
  rw [if_neg (by decide), if_neg (show ¬ pWt (nuP tv p) = 1 from (by decide : ¬ 2 = 1)), if_pos (show pWt (nuP tv p) = 2 from rfl), if_pos rfl, if_neg (show ¬ pOp (nuP tv p) < 4 from h)]
theorem opn_y {Fl : Nat → Nat} {FB : Nat → Nat → Nat} {kn v tv : Nat} {p : PS} (h : pOp p < 4) : tkAny Fl FB kn 2 v (nuP tv p) = (0, opP (nuP tv p)) := by
  unfold tkAny tkOpen
  rw [if_neg (by decide), if_neg (show ¬ pWt (nuP tv p) = 1 from (by decide : ¬ 2 = 1)), if_pos (show pWt (nuP tv p) = 2 from rfl), if_pos rfl, if_pos (show pOp (nuP tv p) < 4 from h)]
/-- what is copied so far of a round's time c -/
def cpW (fr to : Nat) (p : PS) (c j : Nat) : PS := if pOv (clI fr to p c) = 0 then wrL (pB (clI fr to p c)) fr (clI fr to p c) j else clI fr to p c
theorem cpW_0 {fr to c : Nat} {p : PS} : cpW fr to p c 0 = clI fr to p c := by unfold cpW; split <;> rfl
theorem cpW_ov {fr to c j : Nat} {p : PS} (h : pOv (cpW fr to p c j) = 0) : pOv (clI fr to p c) = 0 := by
  unfold cpW at h
  by_cases q : pOv (clI fr to p c) = 0
  · exact q
  · rw [if_neg q] at h; exact absurd h q
theorem clI_ov {fr to : Nat} {p : PS} {c : Nat} (h : pOv (clI fr to p c) = 0) : pOv p = 0 := Decidable.byContradiction (fun z => by
  have := clI_end (fr := fr) (to := to) (p := p) (c := 0) z c
  rw [Nat.zero_add] at this
  rw [this] at h; exact z h)
theorem cpW_s {fr to c j nm v : Nat} {p : PS} {NS NN : Nat → Nat} (hv : pOv (cpW fr to p c j) = 0 → v = pB (clI fr to p c) (fr + j)) (h2 : NRt (btL (pOv (cpW fr to p c j)) (pLen (cpW fr to p c j))) (btB (pOv (cpW fr to p c j)) (pLen (cpW fr to p c j)) (pB (cpW fr to p c j)) v) (btO (pOv (cpW fr to p c j)) (pLen (cpW fr to p c j))) nm NS NN) : NRt (pLen (cpW fr to p c (j + 1))) (pB (cpW fr to p c (j + 1))) (pOv (cpW fr to p c (j + 1))) nm NS NN := by
  by_cases q : pOv (clI fr to p c) = 0
  · have e : ∀ j, cpW fr to p c j = wrL (pB (clI fr to p c)) fr (clI fr to p c) j := fun j => if_pos q
    rw [e] at hv h2 ⊢
    refine NR_L ?_
    by_cases z : pOv (wrL (pB (clI fr to p c)) fr (clI fr to p c) j) = 0
    · rw [← hv z]; exact h2
    · unfold btB at h2 ⊢
      rw [if_neg z] at h2 ⊢
      exact h2
  · have e : ∀ j, cpW fr to p c j = clI fr to p c := fun j => if_neg q
    rw [e] at h2 ⊢
    unfold btL btB btO at h2
    rw [if_neg q, if_neg q, if_neg q] at h2
    exact h2
theorem cpW_e {fr to c j nm : Nat} {p : PS} {NS NN : Nat → Nat} (hj : pOv p = 0 → j = to - fr) (h : NRt (pLen (cpW fr to p c j)) (pB (cpW fr to p c j)) (pOv (cpW fr to p c j)) nm NS NN) : NRt (pLen (clI fr to p (c + 1))) (pB (clI fr to p (c + 1))) (pOv (clI fr to p (c + 1))) nm NS NN := by
  unfold cpW at h
  rw [clI]
  by_cases q : pOv (clI fr to p c) = 0
  · rw [if_pos q] at h ⊢
    have := hj (clI_ov q)
    subst this
    exact h
  · rw [if_neg q] at h ⊢
    exact h
theorem cpW_B {fr to c j i : Nat} {p : PS} (h0 : pOv (cpW fr to p c j) = 0) (hp : POK p) (hi : i < pLen p) : pB (cpW fr to p c j) i = pB (clI fr to p c) i ∧ i < pLen (cpW fr to p c j) := by
  have q := cpW_ov h0
  have e : cpW fr to p c j = wrL (pB (clI fr to p c)) fr (clI fr to p c) j := if_pos q
  have hk := clI_ok (fr := fr) (to := to) hp c
  rw [e]
  have := wrL_B (f := pB (clI fr to p c)) (fr := fr) hk.1.1.1 j i (by omega)
  exact ⟨this.1, by omega⟩
theorem clI_em {fr to : Nat} {p : PS} (h : pEm p = 0) : ∀ c, pEm (clI fr to p c) = 0
  | 0 => h
  | c + 1 => by
    rw [clI]
    split
    · rfl
    · exact clI_em h c
theorem shu_y {p : PS} (h1 : pEm p = 0) (h2 : ¬ pOp p = 0) : tkItem 3 0 p = (0, clP p) := by
  unfold tkItem
  rw [if_neg (by decide), if_neg (by decide), if_neg (by decide), if_pos rfl, if_neg (fun q => q.elim (fun z => z h1) h2)]
theorem shu_n {p : PS} (h : ¬ pEm p = 0 ∨ pOp p = 0) : tkItem 3 0 p = (2, p) := by
  unfold tkItem
  rw [if_neg (by decide), if_neg (by decide), if_neg (by decide), if_pos rfl, if_pos h]


-- a village performed: the answer, the floor, its refusal and the latest stop
noncomputable def pfA (FB : Nat → Nat → Nat) (Fl : Nat → Nat) (fc : Nat) (V : Nat → Nat) (len : Nat) : Nat → FS × Int32 × Int32 → Nat → Int32 × FS × Int32 × Int32
  | 0, S, _ => (nI len, S)
  | f + 1, S, c => if V c < fc then (if dnF (rn (FB (V c)) (Fl (V c)) 0 S.1 (Fl (V c))) < 0 then (-100 - nI c, (rn (FB (V c)) (Fl (V c)) 0 S.1 (Fl (V c))).2.2, (rn (FB (V c)) (Fl (V c)) 0 S.1 (Fl (V c))).2.1, (rn (FB (V c)) (Fl (V c)) 0 S.1 (Fl (V c))).2.1) else pfA FB Fl fc V len f ((rn (FB (V c)) (Fl (V c)) 0 S.1 (Fl (V c))).2.2, (rn (FB (V c)) (Fl (V c)) 0 S.1 (Fl (V c))).2.1, (rn (FB (V c)) (Fl (V c)) 0 S.1 (Fl (V c))).2.1) (c + 1)) else pfA FB Fl fc V len f S (c + 1)
theorem pfA_s {FB : Nat → Nat → Nat} {Fl : Nat → Nat} {fc : Nat} {V : Nat → Nat} {len : Nat} {S : FS × Int32 × Int32} {c : Nat} (hc : c < len) (h : V c < fc) (h2 : dnF (rn (FB (V c)) (Fl (V c)) 0 S.1 (Fl (V c))) < 0) : pfA FB Fl fc V len (len - c) S c = (-100 - nI c, (rn (FB (V c)) (Fl (V c)) 0 S.1 (Fl (V c))).2.2, (rn (FB (V c)) (Fl (V c)) 0 S.1 (Fl (V c))).2.1, (rn (FB (V c)) (Fl (V c)) 0 S.1 (Fl (V c))).2.1) := by
  rw [show len - c = (len - (c + 1)) + 1 by omega, pfA, if_pos h, if_pos h2]
theorem pfA_g {FB : Nat → Nat → Nat} {Fl : Nat → Nat} {fc : Nat} {V : Nat → Nat} {len : Nat} {S : FS × Int32 × Int32} {c : Nat} (hc : c < len) (h : V c < fc) (h2 : ¬ dnF (rn (FB (V c)) (Fl (V c)) 0 S.1 (Fl (V c))) < 0) : pfA FB Fl fc V len (len - c) S c = pfA FB Fl fc V len (len - (c + 1)) ((rn (FB (V c)) (Fl (V c)) 0 S.1 (Fl (V c))).2.2, (rn (FB (V c)) (Fl (V c)) 0 S.1 (Fl (V c))).2.1, (rn (FB (V c)) (Fl (V c)) 0 S.1 (Fl (V c))).2.1) (c + 1) := by
  rw [show len - c = (len - (c + 1)) + 1 by omega, pfA, if_pos h, if_neg h2]
theorem pfA_n {FB : Nat → Nat → Nat} {Fl : Nat → Nat} {fc : Nat} {V : Nat → Nat} {len : Nat} {S : FS × Int32 × Int32} {c : Nat} (hc : c < len) (h : ¬ V c < fc) : pfA FB Fl fc V len (len - c) S c = pfA FB Fl fc V len (len - (c + 1)) S (c + 1) := by
  rw [show len - c = (len - (c + 1)) + 1 by omega, pfA, if_neg h]
theorem pfA_0 {FB : Nat → Nat → Nat} {Fl : Nat → Nat} {fc : Nat} {V : Nat → Nat} {len : Nat} {S : FS × Int32 × Int32} {c : Nat} (hc : c = len) : pfA FB Fl fc V len (len - c) S c = (nI len, S) := by subst hc; rw [Nat.sub_self]; rfl


/-- a method's end that answers a reference and changes nothing -/
def sr_S (post : Nat → Prop) : Array Value → State → Outcome → State → Prop := fun _ st o t => ∃ r : Nat, o = .returned (some (.ref r)) ∧ post r ∧ t.heap = st.heap
section SREF
variable {p : Program} {l : Launch} {e : Env} {R : Room} {s : State} {m : MethodId} {args : Array Value} {below : List Frame} {meth : Method} {c : Code} {H : Heap} {locs : List Loc} {cells slots : Nat} {Q : State → Prop}
variable {cc : ByteArray} {pc nL : Nat} {ls : Array Slot} {rest st0 : List Value} {D : va_G} {cy : Nat → ClassId} {ad : Nat → Nat} {N : Nat} {g : Nat → va_E} {own : String}
theorem sr_call {post : Nat → Prop} {a : Array Value} (hr : CallRun p l e R s m args below meth c H locs cells slots 0 0 (F0 m pc ls st0) rest (sr_S post a) (fun _ => False))
    (kk : ∀ r : Nat, post r → W p l e R s m args below meth c H locs cells slots Q (F0 m (pc + 3) ls (.ref r :: rest))) : W p l e R s m args below meth c H locs cells slots Q (F0 m pc ls st0) := by
  intro T hT X
  obtain ⟨v, st₀, t, T', L, h0, X', hL, e1, ⟨r, hv, hp, hh⟩, st⟩ := hr T hT X
  cases hv
  obtain ⟨t2, a1, b1⟩ := kk r hp T' (by rw [e1, hh, h0]) (Stand.forget X' (fun q h => (hL q h).elim))
  exact ⟨t2, st t2 a1, b1⟩
/-- a call that changes nothing, reference -/
theorem kVr {y : MethodName} {b : ByteArray} {maxL f lo n ci k idx : Nat} {ret : Option FieldType} {C : String} {As : List Value} {fs : List Value} {post : Nat → Prop} (S : CallFix p m c cc nL s args wsL_law own) (hK : va_K D vwCl (tyv cy) s) (hP : MM D ad N g H) (hM : Met l y (WS y b maxL ret) (rmF f lo) (PP (.ref (ad k) :: As) D cy ad N g) (sr_S post) 0 0 (fun _ => False)) (hl : CV own idx C y b maxL ret n) (hk : k < N) (hg : g k = .inr (ci, fs)) (hc : ∃ T NF, vwCl[ci]? = some (C, T, NF)) (hR : CR R f lo maxL) (hn : As.length = n) (hsz : ls.size = nL) (hst : st0 = As.reverse ++ .ref (ad k) :: rest) (hW : (rest.map fun v => v.category).sum ≤ 8) (hf : cells ≤ R.cells ∧ slots ≤ R.slots) (hdg : decode cc pc = .ok (.invokevirtual idx, 3))
    (kk : ∀ r : Nat, post r → W p l e R s m args below meth c H locs cells slots Q (F0 m (pc + 3) ls (.ref r :: rest))) : W p l e R s m args below meth c H locs cells slots Q (F0 m pc ls st0) :=
  sr_call (va_runV S hM (cvW S hl hR) (mprev hK hP hk hg hc) rfl hn hsz hst (lv_room hW) hdg hf).run kk
theorem rSr {post : Nat → Prop} {v : Nat} {C : String} (S : CallFix p m c cc nL s args wsL_law own) (hr : meth.sig.returnType = some (.object C)) (hlk : meth.locks = false) (hp : post v) (hdg : decode cc pc = .ok (.areturn, 1)) : W p l e R s m args below meth c s.heap [] cells slots (MQ below (sr_S post) args s cells slots (fun _ => False)) (F0 m pc ls [.ref v]) :=
  W.aret S.1 S.2.1 hr (Or.inl ⟨_, rfl⟩) (Or.inr ⟨_, rfl⟩) (fun t ht _ => ⟨v, rfl, hp, ht⟩) (fun q h => by cases h) hdg hlk
end SREF

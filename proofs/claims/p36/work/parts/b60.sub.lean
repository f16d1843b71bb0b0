-- calls on an object that lies inside a larger memory; methods that read the script
theorem MM_sub {D : va_G} {b0 N k M : Nat} {g : Nat → va_E} {H : Heap} (h : MM D (bd b0) N g H) (hk : k + M ≤ N) : MM D (bd (b0 + k)) M (fun i => g (k + i)) H := fun j q hj => by
  obtain ⟨h1, rfl⟩ := wl_inv hj
  have := h.at (k := k + j) (by omega)
  have e : bd b0 (k + j) = bd (b0 + k) j := (Nat.add_assoc _ _ _).symm
  rw [e] at this
  exact this
def mrg (k M : Nat) (u g : Nat → va_E) : Nat → va_E := fun j => if k ≤ j ∧ j < k + M then u (j - k) else g j
theorem MM_join {D : va_G} {b0 N k M : Nat} {g u : Nat → va_E} {H H1 : Heap} (h : MM D (bd b0) N g H) (hu : MM D (bd (b0 + k)) M u H1) (hq : ∀ q : Nat, q < H.size → ¬ AA (bd (b0 + k)) M q → H1[q]? = H[q]?) : MM D (bd b0) N (mrg k M u g) H1 := fun j q hj => by
  obtain ⟨h1, rfl⟩ := wl_inv hj
  by_cases c : k ≤ j ∧ j < k + M
  · have := hu.at (k := j - k) (by omega)
    have e : bd (b0 + k) (j - k) = bd b0 j := by unfold bd; omega
    rw [e] at this
    have e2 : mrg k M u g j = u (j - k) := if_pos c
    rw [e2]
    exact this
  · have := h.at h1
    have e2 : mrg k M u g j = g j := if_neg c
    rw [e2]
    exact this.kept (hq _ this.lt (fun z => by obtain ⟨i, hi, e⟩ := z; unfold bd at e; omega))
theorem mrg_in {k M : Nat} {u g : Nat → va_E} : ∀ i, i < M → mrg k M u g (k + i) = u i := fun i hi => by
  unfold mrg
  rw [if_pos ⟨Nat.le_add_right _ _, by omega⟩, Nat.add_sub_cancel_left]
theorem mrg_out {k M : Nat} {u g : Nat → va_E} : ∀ j, (j < k ∨ k + M ≤ j) → mrg k M u g j = g j := fun j hj => if_neg (by omega)
theorem AA_sub {b0 N k M : Nat} (hk : k + M ≤ N) : ∀ q, AA (bd (b0 + k)) M q → AA (bd b0) N q := fun q h => by
  obtain ⟨i, hi, rfl⟩ := h
  exact ⟨k + i, by omega, Nat.add_assoc _ _ _⟩
theorem XF.mono {A A2 : Nat → Prop} {sq sv : Nat} {U : State} {H : Heap} (h : XF A sq sv U H) (hA : ∀ q, A2 q → A q) : XF A2 sq sv U H := by
  obtain ⟨⟨⟨c1, a1, a2, a3, a4⟩, ⟨cf, k, i, f, c2, b1, b2, b3, b4, b5, b6⟩, ⟨cf2, k2, i2, f2, c3, d1, d2, d3, d4, d5, d6⟩, ⟨c4, e1, e2, e3, e4, e5, e6, e7⟩, ⟨cf3, kf, fi, f3, a, c5, g1, g2, g3, g4, g5, g6, g7, g8⟩⟩, hr⟩ := h
  exact ⟨⟨⟨c1, a1, a2, a3, fun z => a4 (hA _ z)⟩, ⟨cf, k, i, f, c2, b1, b2, b3, b4, b5, fun z => b6 (hA _ z)⟩, ⟨cf2, k2, i2, f2, c3, d1, d2, d3, d4, d5, fun z => d6 (hA _ z)⟩, ⟨c4, e1, e2, e3, e4, e5, e6, fun z => e7 (hA _ z)⟩, ⟨cf3, kf, fi, f3, a, c5, g1, g2, g3, g4, g5, g6, g7, fun z => g8 (hA _ z)⟩⟩, hr⟩
/-- start of a method that reads the script too -/
def PPS (av : List Value) (D : va_G) (cy : Nat → ClassId) (ad : Nat → Nat) (N : Nat) (g : Nat → va_E) (b L : Nat) (xs : Nat → Int32) : Array Value → State → Prop := va_Pc av (fun U => MM D ad N g U.heap ∧ va_K D vwCl (tyv cy) U ∧ va_X b L xs U U.heap ∧ b < U.heap.size ∧ ¬ AA ad N b)
theorem PPS.blind {av : List Value} {D : va_G} {cy : Nat → ClassId} {ad : Nat → Nat} {N : Nat} {g : Nat → va_E} {b L : Nat} {xs : Nat → Int32} : FrameBlind (PPS av D cy ad N g b L xs) := fun a U j mk z => by
  obtain ⟨z0, zP, zK, zX, zb, zA⟩ := z
  exact ⟨z0, zP, va_K.moved (u := U) (U := U.calling j mk a) (Vm.Alike.refl U.vm) zK, va_X.moved (u := U) (U := U.calling j mk a) (Vm.Alike.refl U.vm) zX, zb, zA⟩
section PPS
variable {p : Program} {l : Launch} {e : Env} {R : Room} {s : State} {m : MethodId} {args : Array Value} {below : List Frame} {meth : Method} {c : Code} {H : Heap} {locs : List Loc} {cells slots : Nat} {Q : State → Prop}
variable {cc : ByteArray} {pc nL : Nat} {ls : Array Slot} {rest st0 : List Value} {D : va_G} {cy : Nat → ClassId} {ad : Nat → Nat} {N : Nat} {g : Nat → va_E} {own : String} {b L sq sv : Nat} {xs : Nat → Int32} {A : Nat → Prop} {H0 : Heap}
theorem pentry {y : MethodName} {bb : ByteArray} {maxL f lo : Nat} {ret : Option FieldType} {Qc : Array Value → State → Outcome → State → Prop} {free : Addr → Prop} {av : List Value} (hy : plainName y.cls = true) (hlen : (lg_sl av).length ≤ maxL)
    (body : ∀ (p : Program) (e : Env) (s : State) (m : MethodId) (below : List Frame) (meth : Method) (c : Code) (ls : Array Slot), CallFix p m c bb maxL s av.toArray wsL_law y.cls → meth.sig.returnType = ret → meth.locks = false → meth.name = y.name → MM D ad N g s.heap → va_K D vwCl (tyv cy) s → va_X b L xs s s.heap → b < s.heap.size → ¬ AA ad N b → lv_has ls maxL (lv_args 0 av) →
      W p l e (rmF f lo) s m av.toArray below meth c s.heap [] 0 0 (MQ below Qc av.toArray s 0 0 free) (F0 m 0 ls [])) : Met l y (WS y bb maxL ret) (rmF f lo) (PPS av D cy ad N g b L xs) Qc 0 0 free := by
  refine Met.ofW (cc := bb) (maxL := maxL) (ret := ret) (ws' := wsL_law) hy rfl ?_
  intro p e s m args below meth c s₁ B hml hv
  obtain ⟨rfl, hP, hK, hX, hbl, hbA⟩ := hv
  have hts := atoms_spec (ws := WS y bb maxL ret) B.pre
  have hl := lv_entry av (n := maxL) hlen
  rw [lg_entry_eq]
  exact body p e s m below meth c _ ⟨B.exec, B.bytes, hml, findClass_of_methodNamed B.named, fun w hw => hts w (List.mem_cons_of_mem _ hw)⟩ B.returns B.notSynchronized (name_of_methodNamed B.named B.method).1 hP hK hX hbl hbA hl
theorem mpresS {As : List Value} (hK : va_K D vwCl (tyv cy) s) (hP : MM D ad N g H) (hX : va_X b L xs s s.heap) (hbl : b < s.heap.size) (hbA : ¬ A b) (hA : ∀ q, AA ad N q → A q) (hS : va_S A s.heap H locs) : PreS s H (PPS As D cy ad N g b L xs) As :=
  ⟨PPS.blind, fun U hU hW => ⟨rfl, by rw [hU]; exact hP, va_K.moved hW.alike hK, by rw [hU]; exact va_X.moved hW.alike (hX.kept (hS.2.1 b hbl hbA)), by rw [hU]; exact Nat.lt_of_lt_of_le hbl hS.1, fun z => hbA (hA b z)⟩⟩
section
variable {y : MethodName} {bb : ByteArray} {maxL f lo n ci idx : Nat} {ret : Option FieldType} {C : String} {As : List Value} {fs : List Value}
/-- a static call that reads the script and changes nothing, int -/
theorem kPi {post : Int32 → Prop} (S : CallFix p m c cc nL s args wsL_law own) (hK : va_K D vwCl (tyv cy) s) (hP : MM D ad N g H) (hX : va_X b L xs s s.heap) (hbl : b < s.heap.size) (hbA : ¬ A b) (hA : ∀ q, AA ad N q → A q) (hS : va_S A s.heap H locs) (hM : Met l y (WS y bb maxL ret) (rmF f lo) (PPS As D cy ad N g b L xs) (vp_Si post) 0 0 (fun _ => False)) (hl : CS own idx y bb maxL ret n) (hR : CR R f lo maxL) (hn : As.length = n) (hsz : ls.size = nL) (hst : st0 = As.reverse ++ rest) (hW : (rest.map fun v => v.category).sum ≤ 8) (hf : cells ≤ R.cells ∧ slots ≤ R.slots) (hdg : decode cc pc = .ok (.invokestatic idx, 3))
    (kk : ∀ r : Int32, post r → W p l e R s m args below meth c H locs cells slots Q (F0 m (pc + 3) ls (.int r :: rest))) : W p l e R s m args below meth c H locs cells slots Q (F0 m pc ls st0) :=
  vp_callSi (va_runS S hM (csB S hl hR) (mpresS hK hP hX hbl hbA hA hS) rfl hn hsz hst (lv_room hW) hdg hf).run kk
/-- a static call that reads the script and changes the memory, int -/
theorem kPMi {post : Int32 → (Nat → va_E) → Prop} (S : CallFix p m c cc nL s args wsL_law own) (hK : va_K D vwCl (tyv cy) s) (hP : MM D ad N g H) (hX : va_X b L xs s s.heap) (hbl : b < s.heap.size) (hbA : ¬ A b) (hA : ∀ q, AA ad N q → A q) (hS : va_S A s.heap H locs) (hM : Met l y (WS y bb maxL ret) (rmF f lo) (PPS As D cy ad N g b L xs) (QI post D ad N) 0 0 (AA ad N)) (hl : CS own idx y bb maxL ret n) (hR : CR R f lo maxL) (hn : As.length = n) (hsz : ls.size = nL) (hst : st0 = As.reverse ++ rest) (hW : (rest.map fun v => v.category).sum ≤ 8) (hf : cells ≤ R.cells ∧ slots ≤ R.slots) (hdg : decode cc pc = .ok (.invokestatic idx, 3))
    (kk : ∀ (r : Int32) (g1 : Nat → va_E) (H1 : Heap) (locs1 : List Loc), post r g1 → MM D ad N g1 H1 → va_S A s.heap H1 locs1 → W p l e R s m args below meth c H1 locs1 cells slots Q (F0 m (pc + 3) ls (.int r :: rest))) : W p l e R s m args below meth c H locs cells slots Q (F0 m pc ls st0) :=
  va_calli (va_runS S hM (csB S hl hR) (mpresS hK hP hX hbl hbA hA hS) rfl hn hsz hst (lv_room hW) hdg hf) hS (fun q _ h => hA q h) hA (fun r u t H1 locs1 ht _ hp hB _ _ hS1 => kk r u H1 locs1 hp (by rw [← ht]; exact hB) hS1)
end
end PPS
section SUB
variable {p : Program} {l : Launch} {e : Env} {R : Room} {s : State} {m : MethodId} {args : Array Value} {below : List Frame} {meth : Method} {c : Code} {H : Heap} {locs : List Loc} {cells slots : Nat} {Q : State → Prop}
variable {cc : ByteArray} {pc nL : Nat} {ls : Array Slot} {rest st0 : List Value} {D : va_G} {cy : Nat → ClassId} {b0 N k M : Nat} {g : Nat → va_E} {own : String} {sq sv : Nat} {A : Nat → Prop} {H0 : Heap}
variable {y : MethodName} {bb : ByteArray} {maxL f lo n ci idx : Nat} {ret : Option FieldType} {C : String} {As : List Value} {fs : List Value}
/-- a call on an object within, int; it changes the object's cells alone -/
theorem kOi {post : Int32 → (Nat → va_E) → Prop} (S : CallFix p m c cc nL s args wsL_law own) (hK : va_K D vwCl (tyv cy) s) (hP : MM D (bd b0) N g H) (hS : va_S A H0 H locs) (hA : ∀ q, AA (bd b0) N q → A q) (hkM : k + M ≤ N) (h0 : 0 < M) (hM : Met l y (WS y bb maxL ret) (rmF f lo) (PP (.ref (bd (b0 + k) 0) :: As) D cy (bd (b0 + k)) M (fun i => g (k + i))) (QI post D (bd (b0 + k)) M) 0 0 (AA (bd (b0 + k)) M)) (hl : CV own idx C y bb maxL ret n) (hg : g k = .inr (ci, fs)) (hc : ∃ T NF, vwCl[ci]? = some (C, T, NF)) (hR : CR R f lo maxL) (hn : As.length = n) (hsz : ls.size = nL) (hst : st0 = As.reverse ++ .ref (bd b0 k) :: rest) (hW : (rest.map fun v => v.category).sum ≤ 8) (hf : cells ≤ R.cells ∧ slots ≤ R.slots) (hdg : decode cc pc = .ok (.invokevirtual idx, 3))
    (kk : ∀ (r : Int32) (u g1 : Nat → va_E) (H1 : Heap) (locs1 : List Loc), post r u → (∀ i, i < M → g1 (k + i) = u i) → (∀ j, (j < k ∨ k + M ≤ j) → g1 j = g j) → MM D (bd b0) N g1 H1 → va_S A H0 H1 locs1 → W p l e R s m args below meth c H1 locs1 cells slots Q (F0 m (pc + 3) ls (.int r :: rest))) : W p l e R s m args below meth c H locs cells slots Q (F0 m pc ls st0) :=
  va_calli (va_runV S hM (cvW S hl hR) (mprev hK (MM_sub hP hkM) (k := 0) h0 hg hc) rfl hn hsz hst (lv_room hW) hdg hf) hS (fun q _ h => hA q (AA_sub hkM q h)) (fun q h => hA q (AA_sub hkM q h)) (fun r u t H1 locs1 ht _ hp hB _ hq hS1 => kk r u (mrg k M u g) H1 locs1 hp mrg_in mrg_out (MM_join hP (by rw [← ht]; exact hB) hq) hS1)
theorem kOp {post : Int32 → Prop} (S : CallFix p m c cc nL s args wsL_law own) (hK : va_K D vwCl (tyv cy) s) (hP : MM D (bd b0) N g H) (hkM : k + M ≤ N) (h0 : 0 < M) (hM : Met l y (WS y bb maxL ret) (rmF f lo) (PP (.ref (bd (b0 + k) 0) :: As) D cy (bd (b0 + k)) M (fun i => g (k + i))) (vp_Si post) 0 0 (fun _ => False)) (hl : CV own idx C y bb maxL ret n) (hg : g k = .inr (ci, fs)) (hc : ∃ T NF, vwCl[ci]? = some (C, T, NF)) (hR : CR R f lo maxL) (hn : As.length = n) (hsz : ls.size = nL) (hst : st0 = As.reverse ++ .ref (bd b0 k) :: rest) (hW : (rest.map fun v => v.category).sum ≤ 8) (hf : cells ≤ R.cells ∧ slots ≤ R.slots) (hdg : decode cc pc = .ok (.invokevirtual idx, 3))
    (kk : ∀ r : Int32, post r → W p l e R s m args below meth c H locs cells slots Q (F0 m (pc + 3) ls (.int r :: rest))) : W p l e R s m args below meth c H locs cells slots Q (F0 m pc ls st0) :=
  vp_callSi (va_runV S hM (cvW S hl hR) (mprev hK (MM_sub hP hkM) (k := 0) h0 hg hc) rfl hn hsz hst (lv_room hW) hdg hf).run kk
/-- the same, of a method that reaches the constant -/
theorem kOx {post : Int32 → (Nat → va_E) → Prop} (S : CallFix p m c cc nL s args wsL_law own) (hK : va_K D vwCl (tyv cy) s) (hP : MM D (bd b0) N g H) (hX : XF A sq sv s s.heap) (hS : va_S A s.heap H locs) (hA : ∀ q, AA (bd b0) N q → A q) (hkM : k + M ≤ N) (h0 : 0 < M) (hM : Met l y (WS y bb maxL ret) (rmF f lo) (PPX (.ref (bd (b0 + k) 0) :: As) D cy (bd (b0 + k)) M (fun i => g (k + i)) sq sv) (QI post D (bd (b0 + k)) M) 0 0 (AA (bd (b0 + k)) M)) (hl : CV own idx C y bb maxL ret n) (hg : g k = .inr (ci, fs)) (hc : ∃ T NF, vwCl[ci]? = some (C, T, NF)) (hR : CR R f lo maxL) (hn : As.length = n) (hsz : ls.size = nL) (hst : st0 = As.reverse ++ .ref (bd b0 k) :: rest) (hW : (rest.map fun v => v.category).sum ≤ 8) (hf : cells ≤ R.cells ∧ slots ≤ R.slots) (hdg : decode cc pc = .ok (.invokevirtual idx, 3))
    (kk : ∀ (r : Int32) (u g1 : Nat → va_E) (H1 : Heap) (locs1 : List Loc), post r u → (∀ i, i < M → g1 (k + i) = u i) → (∀ j, (j < k ∨ k + M ≤ j) → g1 j = g j) → MM D (bd b0) N g1 H1 → va_S A s.heap H1 locs1 → W p l e R s m args below meth c H1 locs1 cells slots Q (F0 m (pc + 3) ls (.int r :: rest))) : W p l e R s m args below meth c H locs cells slots Q (F0 m pc ls st0) := by
  obtain ⟨T, NF, hc⟩ := hc
  have hXH : XF A sq sv s H := ⟨hX.1.kept hS.2.1, hX.2⟩
  have hX2 := hXH.mono (fun q h => hA q (AA_sub hkM q h))
  have hpre : PreV s H C (bd (b0 + k) 0) (PPX (.ref (bd (b0 + k) 0) :: As) D cy (bd (b0 + k)) M (fun i => g (k + i)) sq sv) As := ⟨PPX.blind, mrecv (k := 0) hK (MM_sub hP hkM) h0 hg hc, fun U hU hW => ⟨rfl, by rw [hU]; exact MM_sub hP hkM, va_K.moved hW.alike hK, by show SF (AA (bd (b0 + k)) M) sq sv U U.heap; rw [hU]; exact SF.moved hW.alike hX2.1, vk_R.warm hW hX2.2⟩⟩
  exact va_calli (va_runV S hM (cvW S hl hR) hpre rfl hn hsz hst (lv_room hW) hdg hf) hS (fun q _ h => hA q (AA_sub hkM q h)) (fun q h => hA q (AA_sub hkM q h)) (fun r u t H1 locs1 ht _ hp hB _ hq hS1 => kk r u (mrg k M u g) H1 locs1 hp mrg_in mrg_out (MM_join hP (by rw [← ht]; exact hB) hq) hS1)
end SUB

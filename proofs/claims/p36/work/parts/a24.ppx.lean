-- methods that reach the constant
def XF (A : Nat → Prop) (sq sv : Nat) (U : State) (H : Heap) : Prop := SF A sq sv U H ∧ vk_R RX5 39 "uotrdkf" sq U
def PPX (av : List Value) (D : va_G) (cy : Nat → ClassId) (ad : Nat → Nat) (N : Nat) (g : Nat → va_E) (sq sv : Nat) : Array Value → State → Prop := va_Pc av (fun U => MM D ad N g U.heap ∧ va_K D vwCl (tyv cy) U ∧ XF (AA ad N) sq sv U U.heap)
theorem PPX.blind {av : List Value} {D : va_G} {cy : Nat → ClassId} {ad : Nat → Nat} {N : Nat} {g : Nat → va_E} {sq sv : Nat} : FrameBlind (PPX av D cy ad N g sq sv) := fun a U j mk z => by
  obtain ⟨z0, zP, zK, zF, zR⟩ := z
  exact ⟨z0, zP, va_K.moved (u := U) (U := U.calling j mk a) (Vm.Alike.refl U.vm) zK, SF.moved (u := U) (U := U.calling j mk a) (Vm.Alike.refl U.vm) zF, vk_R.same (u := U) (U := U.calling j mk a) rfl zR⟩
section PPX
variable {p : Program} {l : Launch} {e : Env} {R : Room} {s : State} {m : MethodId} {args : Array Value} {below : List Frame} {meth : Method} {c : Code} {H : Heap} {locs : List Loc} {cells slots : Nat} {Q : State → Prop}
variable {cc : ByteArray} {pc nL : Nat} {ls : Array Slot} {rest st0 : List Value} {D : va_G} {cy : Nat → ClassId} {ad : Nat → Nat} {N : Nat} {g : Nat → va_E} {own : String} {sq sv : Nat}
theorem xentry {y : MethodName} {b : ByteArray} {maxL f lo : Nat} {ret : Option FieldType} {Qc : Array Value → State → Outcome → State → Prop} {free : Addr → Prop} {av : List Value} (hy : plainName y.cls = true) (hlen : (lg_sl av).length ≤ maxL)
    (body : ∀ (p : Program) (e : Env) (s : State) (m : MethodId) (below : List Frame) (meth : Method) (c : Code) (ls : Array Slot), CallFix p m c b maxL s av.toArray wsL_law y.cls → meth.sig.returnType = ret → meth.locks = false → meth.name = y.name → MM D ad N g s.heap → va_K D vwCl (tyv cy) s → XF (AA ad N) sq sv s s.heap → lv_has ls maxL (lv_args 0 av) →
      W p l e (rmF f lo) s m av.toArray below meth c s.heap [] 0 0 (MQ below Qc av.toArray s 0 0 free) (F0 m 0 ls [])) : Met l y (WS y b maxL ret) (rmF f lo) (PPX av D cy ad N g sq sv) Qc 0 0 free := by
  refine Met.ofW (cc := b) (maxL := maxL) (ret := ret) (ws' := wsL_law) hy rfl ?_
  intro p e s m args below meth c s₁ B hml hv
  obtain ⟨rfl, hP, hK, hX⟩ := hv
  have hts := atoms_spec (ws := WS y b maxL ret) B.pre
  have hl := lv_entry av (n := maxL) hlen
  rw [lg_entry_eq]
  exact body p e s m below meth c _ ⟨B.exec, B.bytes, hml, findClass_of_methodNamed B.named, fun w hw => hts w (List.mem_cons_of_mem _ hw)⟩ B.returns B.notSynchronized (name_of_methodNamed B.named B.method).1 hP hK hX hl
theorem mprevX {C : String} {As : List Value} (hK : va_K D vwCl (tyv cy) s) (hP : MM D ad N g H) (hX : XF (AA ad N) sq sv s s.heap) (hS : va_S (AA ad N) s.heap H locs) {k ci : Nat} {fs : List Value} (hk : k < N) (hg : g k = .inr (ci, fs)) (hc : ∃ T NF, vwCl[ci]? = some (C, T, NF)) : PreV s H C (ad k) (PPX (.ref (ad k) :: As) D cy ad N g sq sv) As := by
  obtain ⟨T, NF, hc⟩ := hc
  exact ⟨PPX.blind, mrecv hK hP hk hg hc, fun U hU hW => ⟨rfl, by rw [hU]; exact hP, va_K.moved hW.alike hK, by show SF (AA ad N) sq sv U U.heap; rw [hU]; exact SF.moved hW.alike (hX.1.kept hS.2.1), vk_R.warm hW hX.2⟩⟩
section
variable {y : MethodName} {b : ByteArray} {maxL f lo n ci k idx : Nat} {ret : Option FieldType} {C : String} {As : List Value} {fs : List Value}
theorem kXv {post : (Nat → va_E) → Prop} (S : CallFix p m c cc nL s args wsL_law own) (hK : va_K D vwCl (tyv cy) s) (hP : MM D ad N g H) (hX : XF (AA ad N) sq sv s s.heap) (hS : va_S (AA ad N) s.heap H locs) (hM : Met l y (WS y b maxL ret) (rmF f lo) (PPX (.ref (ad k) :: As) D cy ad N g sq sv) (QV post D ad N) 0 0 (AA ad N)) (hl : CV own idx C y b maxL ret n) (hk : k < N) (hg : g k = .inr (ci, fs)) (hc : ∃ T NF, vwCl[ci]? = some (C, T, NF)) (hR : CR R f lo maxL) (hn : As.length = n) (hsz : ls.size = nL) (hst : st0 = As.reverse ++ .ref (ad k) :: rest) (hW : (rest.map fun v => v.category).sum ≤ 8) (hf : cells ≤ R.cells ∧ slots ≤ R.slots) (hdg : decode cc pc = .ok (.invokevirtual idx, 3))
    (kk : ∀ (g1 : Nat → va_E) (H1 : Heap) (locs1 : List Loc), post g1 → MM D ad N g1 H1 → va_S (AA ad N) s.heap H1 locs1 → W p l e R s m args below meth c H1 locs1 cells slots Q (F0 m (pc + 3) ls rest)) : W p l e R s m args below meth c H locs cells slots Q (F0 m pc ls st0) :=
  va_callv (va_runV S hM (cvW S hl hR) (mprevX hK hP hX hS hk hg hc) rfl hn hsz hst (lv_room hW) hdg hf) hS (fun q _ h => h) (fun _ h => h) (fun u t H1 locs1 ht _ hp hB _ _ hS1 => kk u H1 locs1 hp (by rw [← ht]; exact hB) hS1)
end
end PPX
theorem i2c_n : ∀ c, c < 256 → ((nI c).toUInt32 % 65536).toInt32 = nI c := by decide +kernel
theorem ixS_n {c : Nat} (h : ixL c < 7) : ixS c = nI (ixL c) := if_pos h
theorem ixS_m {c : Nat} (h : ¬ ixL c < 7) : ixS c = -1 := if_neg h
theorem lxK_e {T : Nat → Nat} {len q : Nat} (h : ¬ lxP T len q < len) : lxK T len q = 5 ∧ lxN T len q = lxP T len q := ⟨if_neg h, if_neg h⟩
theorem lxK_d {T : Nat → Nat} {len q : Nat} (h : lxP T len q < len) (hd : dg (T (lxP T len q)) = true) : lxK T len q = (if dgE T len (lxP T len q) - lxP T len q ≤ 2 then 1 else 6) ∧ lxN T len q = dgE T len (lxP T len q) ∧ lxV T len q = nuV T (lxP T len q) (dgE T len (lxP T len q) - lxP T len q) := by
  unfold lxK lxN lxV
  rw [if_pos h, if_pos hd, if_pos h, if_pos hd, if_pos hd]
  exact ⟨rfl, rfl, rfl⟩
theorem knd_n : ∀ c, c < 256 → knd (nI c) = if c = 40 then 2 else if c = 41 then 3 else if c = 46 then 4 else 6 := by decide +kernel
theorem lxK_c {T : Nat → Nat} {len q : Nat} (h : lxP T len q < len) (hd : ¬ dg (T (lxP T len q)) = true) (hc : T (lxP T len q) < 256) : lxK T len q = (if ixL (T (lxP T len q)) < 7 then 0 else knd (nI (T (lxP T len q)))) ∧ lxN T len q = lxP T len q + 1 ∧ lxV T len q = ixL (T (lxP T len q)) := by
  rw [knd_n _ hc]
  unfold lxK lxN lxV
  rw [if_pos h, if_neg hd, if_pos h, if_neg hd, if_neg hd]
  exact ⟨rfl, rfl, rfl⟩
theorem knd_2 (x : Int32) : 2 ≤ knd x := by unfold knd; repeat' split
                                            all_goals omega
theorem byI_ge {T : Nat → Nat} {len p0 : Nat} (hT : ∀ i, T i < 256) : ¬ byI T len p0 < 0 ↔ p0 < len := by
  by_cases h : p0 < len
  · rw [byI_in h]
    have := hT p0
    exact ⟨fun _ => h, fun _ z => (z_lt (by omega)).mp z⟩
  · rw [byI_out (by omega)]
    exact ⟨fun z => absurd (show (-1 : Int32) < 0 by decide) z, fun z => absurd z h⟩
theorem ixS_lt {c : Nat} : ixS c < 0 ↔ ¬ ixL c < 7 := by
  by_cases h : ixL c < 7
  · rw [ixS_n h]
    exact ⟨fun z => ((z_lt (by omega)).mp z).elim, fun z => absurd h z⟩
  · rw [ixS_m h]
    exact ⟨fun _ => h, fun _ => by decide⟩


-- constructors
theorem W_size {p : Program} {l : Launch} {e : Env} {R : Room} {s : State} {m : MethodId} {args : Array Value} {below : List Frame} {meth : Method} {c : Code} {H : Heap} {locs : List Loc} {cells slots : Nat} {Q : State → Prop} {g : JFrame} (k : H.size ≤ s.heap.size + cells → W p l e R s m args below meth c H locs cells slots Q g) : W p l e R s m args below meth c H locs cells slots Q g :=
  fun T hT X => k (by rw [← hT]; exact X.heapSize) T hT X
def bd (b0 i : Nat) : Nat := b0 + i
theorem bd_inj {b0 N : Nat} : ∀ i j : Nat, i < N → j < N → bd b0 i = bd b0 j → i = j := fun i j _ _ h => by unfold bd at h; omega
def AB (b0 : Nat) : Nat → Prop := fun q => b0 ≤ q
theorem bd_MD {b0 N : Nat} : MD (AB b0) (bd b0) N := ⟨bd_inj, fun i _ => Nat.le_add_right _ _⟩
theorem AA_AB {b0 N : Nat} : ∀ q, AA (bd b0) N q → AB b0 q := fun q h => by obtain ⟨k, _, rfl⟩ := h; exact Nat.le_add_right _ _
/-- the links between nest mates -/
def nestL : List (String × Nat × MethodName) := [(RX9, 32, yX2_init), (RX9, 39, yX5_init), (RX9, 46, yX6_init), (RX9, 65, yX3_init), (RX9, 76, yX0_init), (RX9, 77, yX7_init), (RX9, 78, yX4_init), (RX6, 11, yX0_init), (RX3, 18, yX7_init)]
/-- the arrays of int arrays -/
def va_AG (U : State) : Prop := (Cond.arrayOver (.array .int)).before #[] U = true
theorem va_AG.of {A : Array Value} {U : State} (h : (Cond.arrayOver (.array .int)).before A U = true) : va_AG U := over_moved (Vm.Alike.refl U.vm) h
theorem va_AG.use {A : Array Value} {U : State} (h : va_AG U) : (Cond.arrayOver (.array .int)).before A U = true := over_moved (Vm.Alike.refl U.vm) h
theorem va_AG.moved {u U : State} (hvm : u.vm.Alike U.vm) (h : va_AG u) : va_AG U := over_moved hvm h
def NX (U : State) : Prop := ((∀ q ∈ nestL, va_Nw (.methodLinkNest q.1 q.2.1 q.2.2 RX9) U) ∧ va_AG U) ∧ ∀ C ∈ [RX8, RX0, RX7, RX4], va_AO C U
theorem NX.warm {s U : State} (hW : s.WarmedH U.vm) (h : NX s) : NX U := ⟨⟨fun q hq => va_Nw.warmM hW (h.1.1 q hq), va_AG.moved hW.alike h.1.2⟩, fun C hC => va_AO.moved hW.alike (h.2 C hC)⟩
theorem NX.same {s U : State} (hv : s.vm = U.vm) (h : NX s) : NX U := ⟨⟨fun q hq => va_Nw.same rfl hv (h.1.1 q hq), va_AG.moved (by rw [hv]; exact Vm.Alike.refl U.vm) h.1.2⟩, fun C hC => va_AO.moved (by rw [hv]; exact Vm.Alike.refl U.vm) (h.2 C hC)⟩
def PG (av : List Value) (D : va_G) (cy : Nat → ClassId) (b0 N : Nat) (g : Nat → va_E) : Array Value → State → Prop := va_Pc av (fun U => U.heap.size = b0 + N ∧ MM D (bd b0) N g U.heap ∧ va_K D vwCl (tyv cy) U ∧ NX U)
theorem PG.blind {av : List Value} {D : va_G} {cy : Nat → ClassId} {b0 N : Nat} {g : Nat → va_E} : FrameBlind (PG av D cy b0 N g) := fun a U j mk z => by
  obtain ⟨z0, zz, zP, zK, zN⟩ := z
  exact ⟨z0, zz, zP, va_K.moved (u := U) (U := U.calling j mk a) (Vm.Alike.refl U.vm) zK, NX.same (s := U) (U := U.calling j mk a) rfl zN⟩
def QG (post : (Nat → va_E) → Prop) (D : va_G) (b0 N2 : Nat) : Array Value → State → Outcome → State → Prop := va_Qv post (fun u t => t.heap.size = b0 + N2 ∧ MM D (bd b0) N2 u t.heap) (AB b0)
abbrev rmG (f cl sl lo : Nat) : Room := ({ frames := f, cells := cl, slots := sl, locals := lo } : Room)
def CI (own : String) (idx : Nat) (y : MethodName) (b : ByteArray) (maxL n : Nat) : Prop := GoodIn wsL_law ([Cond.methodLink own idx y, Cond.instanceMethod y, Cond.initialized y.cls] ++ WS y b maxL none) ∧ y.name = "<init>" ∧ (y.cls ≠ "java/lang/invoke/MethodHandle" ∧ y.cls ≠ "java/lang/invoke/VarHandle" ∧ (parseMethodDescriptor y.desc).map (fun d => d.parameters.length) = some n)
theorem CI.of {own : String} {idx : Nat} {y : MethodName} {b : ByteArray} {maxL n : Nat} (h1 : Cond.methodLink own idx y ∈ wsL_law) (h2 : Cond.instanceMethod y ∈ wsL_law) (h4 : Cond.initialized y.cls ∈ wsL_law) (h5 : Cond.code y b maxL none ∈ wsL_law) (hn : y.name = "<init>") (hd : y.cls ≠ "java/lang/invoke/MethodHandle" ∧ y.cls ≠ "java/lang/invoke/VarHandle" ∧ (parseMethodDescriptor y.desc).map (fun d => d.parameters.length) = some n) : CI own idx y b maxL n := by
  refine ⟨fun w hw => ?_, hn, hd⟩
  rcases List.mem_append.mp hw with h | h
  · simp only [List.mem_cons, List.not_mem_nil, or_false] at h
    rcases h with rfl | rfl | rfl
    · exact ⟨h1, law_good h1⟩
    · exact ⟨h2, law_good h2⟩
    · exact ⟨h4, law_good h4⟩
  · exact WS_good h5 w h
section CTOR
variable {p : Program} {l : Launch} {e : Env} {R : Room} {s : State} {m : MethodId} {args : Array Value} {below : List Frame} {meth : Method} {c : Code} {H : Heap} {locs : List Loc} {cells slots : Nat} {Q : State → Prop}
variable {cc : ByteArray} {pc nL : Nat} {ls : Array Slot} {rest st0 : List Value} {D : va_G} {cy : Nat → ClassId} {b0 N : Nat} {g : Nat → va_E} {own : String}
theorem gentry {y : MethodName} {b : ByteArray} {maxL f cl sl lo : Nat} {Qc : Array Value → State → Outcome → State → Prop} {free : Addr → Prop} {av : List Value} (hy : plainName y.cls = true) (hlen : (lg_sl av).length ≤ maxL)
    (body : ∀ (p : Program) (e : Env) (s : State) (m : MethodId) (below : List Frame) (meth : Method) (c : Code) (ls : Array Slot), CallFix p m c b maxL s av.toArray wsL_law y.cls → meth.sig.returnType = none → meth.locks = false → meth.name = y.name → s.heap.size = b0 + N → MM D (bd b0) N g s.heap → va_K D vwCl (tyv cy) s → NX s → lv_has ls maxL (lv_args 0 av) →
      W p l e (rmG f cl sl lo) s m av.toArray below meth c s.heap [] 0 0 (MQ below Qc av.toArray s cl sl free) (F0 m 0 ls [])) : Met l y (WS y b maxL none) (rmG f cl sl lo) (PG av D cy b0 N g) Qc cl sl free := by
  refine Met.ofW (cc := b) (maxL := maxL) (ret := none) (ws' := wsL_law) hy rfl ?_
  intro p e s m args below meth c s₁ B hml hv
  obtain ⟨rfl, hz, hP, hK, hN⟩ := hv
  have hts := atoms_spec (ws := WS y b maxL none) B.pre
  have hl := lv_entry av (n := maxL) hlen
  rw [lg_entry_eq]
  exact body p e s m below meth c _ ⟨B.exec, B.bytes, hml, findClass_of_methodNamed B.named, fun w hw => hts w (List.mem_cons_of_mem _ hw)⟩ B.returns B.notSynchronized (name_of_methodNamed B.named B.method).1 hz hP hK hN hl
theorem rGv {post : (Nat → va_E) → Prop} {cl sl : Nat} (S : CallFix p m c cc nL s args wsL_law own) (hr : meth.sig.returnType = none) (hlk : meth.locks = false) (hz : H.size = b0 + N) (hP : MM D (bd b0) N g H) (hS : va_S (AB b0) s.heap H locs) (hp : post g) (hc : cells ≤ cl) (hs : slots ≤ sl) (hdg : decode cc pc = .ok (.return_, 1)) : W p l e R s m args below meth c H locs cells slots (MQ below (QG post D b0 N) args s cl sl (AB b0)) (F0 m pc ls []) :=
  W.widen hc hs (W.vret S.1 S.2.1 hr (fun t ht _ => ⟨⟨g, rfl, hp, by subst ht; exact hz, by subst ht; exact hP⟩, hS.F ht⟩) hS.2.2 hdg hlk)
/-- a mate's constructor, by the plain link -/
theorem kGI {y : MethodName} {b : ByteArray} {maxL f lo n k idx mc ms N2 : Nat} {As : List Value} {post : (Nat → va_E) → Prop} (S : CallFix p m c cc nL s args wsL_law own) (hK : va_K D vwCl (tyv cy) s) (hN : NX s) (hz : H.size = b0 + N) (hP : MM D (bd b0) N g H) (hS : va_S (AB b0) s.heap H locs) (hM : Met l y (WS y b maxL none) (rmG f mc ms lo) (PG (.ref (bd b0 k) :: As) D cy b0 N g) (QG post D b0 N2) mc ms (AB b0)) (hl : CI own idx y b maxL n) (hR : CR R f lo maxL) (hn : As.length = n) (hsz : ls.size = nL) (hst : st0 = As.reverse ++ .ref (bd b0 k) :: rest) (hW : (rest.map fun v => v.category).sum ≤ 8) (hf : cells + mc ≤ R.cells ∧ slots + ms ≤ R.slots) (hdg : decode cc pc = .ok (.invokespecial idx, 3))
    (kk : ∀ (g1 : Nat → va_E) (H1 : Heap) (locs1 : List Loc), post g1 → H1.size = b0 + N2 → MM D (bd b0) N2 g1 H1 → va_S (AB b0) s.heap H1 locs1 → W p l e R s m args below meth c H1 locs1 (cells + mc) (slots + ms) Q (F0 m (pc + 3) ls rest)) : W p l e R s m args below meth c H locs cells slots Q (F0 m pc ls st0) := by
  have ok : ∀ w ∈ ([Cond.methodLink own idx y, Cond.instanceMethod y, Cond.initialized y.cls] ++ WS y b maxL none), w.before args s = true := fun w hw => S.2.2.2.2 w (hl.1 w hw).1
  have cw : CallB R s args own idx y b maxL none (WS y b maxL none) (rmG f mc ms lo) mc ms n := callB_of n S.2.2.2.2 (fun w hw => hl.1 w (List.mem_append_right _ hw)) rfl rfl rfl (ok _ (by simp)) (ok _ (by simp)) hl.2.2 ⟨Nat.le_of_ble_eq_true hR.1, Nat.le_of_ble_eq_true hR.2⟩
  exact va_callv (va_runI S hM ⟨cw, hl.2.1, ok _ (by simp)⟩ (⟨PG.blind, fun U hU hW => ⟨rfl, by rw [hU]; exact hz, by rw [hU]; exact hP, va_K.moved hW.alike hK, NX.warm hW hN⟩⟩ : PreS s H (PG (.ref (bd b0 k) :: As) D cy b0 N g) (.ref (bd b0 k) :: As)) rfl hn hsz hst (lv_room hW) hdg hf) hS (fun q _ h => h) (fun _ h => h) (fun u t H1 locs1 ht _ hp hB _ _ hS1 => kk u H1 locs1 hp (by rw [← ht]; exact hB.1) (by rw [← ht]; exact hB.2) hS1)
/-- a mate's private constructor -/
theorem kGN {y : MethodName} {b : ByteArray} {maxL f lo n k idx mc ms N2 : Nat} {As : List Value} {post : (Nat → va_E) → Prop} (S : CallFix p m c cc nL s args wsL_law own) (hK : va_K D vwCl (tyv cy) s) (hN : NX s) (hz : H.size = b0 + N) (hP : MM D (bd b0) N g H) (hS : va_S (AB b0) s.heap H locs) (hM : Met l y (WS y b maxL none) (rmG f mc ms lo) (PG (.ref (bd b0 k) :: As) D cy b0 N g) (QG post D b0 N2) mc ms (AB b0)) (hin : (own, idx, y) ∈ nestL) (h2 : Cond.instanceMethod y ∈ wsL_law) (h4 : Cond.initialized y.cls ∈ wsL_law) (h5 : Cond.code y b maxL none ∈ wsL_law) (hni : y.name = "<init>") (hd : y.cls ≠ "java/lang/invoke/MethodHandle" ∧ y.cls ≠ "java/lang/invoke/VarHandle" ∧ (parseMethodDescriptor y.desc).map (fun d => d.parameters.length) = some n) (hR : CR R f lo maxL) (hn : As.length = n) (hsz : ls.size = nL) (hst : st0 = As.reverse ++ .ref (bd b0 k) :: rest) (hW : (rest.map fun v => v.category).sum ≤ 8) (hf : cells + mc ≤ R.cells ∧ slots + ms ≤ R.slots) (hdg : decode cc pc = .ok (.invokespecial idx, 3))
    (kk : ∀ (g1 : Nat → va_E) (H1 : Heap) (locs1 : List Loc), post g1 → H1.size = b0 + N2 → MM D (bd b0) N2 g1 H1 → va_S (AB b0) s.heap H1 locs1 → W p l e R s m args below meth c H1 locs1 (cells + mc) (slots + ms) Q (F0 m (pc + 3) ls rest)) : W p l e R s m args below meth c H locs cells slots Q (F0 m pc ls st0) := by
  have cw : va_CN R s args own idx y RX9 b maxL none (WS y b maxL none) (rmG f mc ms lo) mc ms n := va_cnB n S.2.2.2.2 (WS_good h5) rfl rfl rfl (hN.1.1 _ hin) (S.2.2.2.2 _ h4) hd ⟨Nat.le_of_ble_eq_true hR.1, Nat.le_of_ble_eq_true hR.2⟩
  exact va_callv (va_runIN S hM ⟨cw, hni, S.2.2.2.2 _ h2⟩ (⟨PG.blind, fun U hU hW => ⟨rfl, by rw [hU]; exact hz, by rw [hU]; exact hP, va_K.moved hW.alike hK, NX.warm hW hN⟩⟩ : PreS s H (PG (.ref (bd b0 k) :: As) D cy b0 N g) (.ref (bd b0 k) :: As)) rfl hn hsz hst (lv_room hW) hdg hf) hS (fun q _ h => h) (fun _ h => h) (fun u t H1 locs1 ht _ hp hB _ _ hS1 => kk u H1 locs1 hp (by rw [← ht]; exact hB.1) (by rw [← ht]; exact hB.2) hS1)
end CTOR
theorem W_hz {p : Program} {l : Launch} {e : Env} {R : Room} {s : State} {m : MethodId} {args : Array Value} {below : List Frame} {meth : Method} {c : Code} {H : Heap} {locs : List Loc} {cells slots : Nat} {Q : State → Prop} {f : JFrame} {D : va_G} {g : Nat → va_E} {b0 N0 N2 : Nat} (hz0 : s.heap.size = b0 + N0) (hP : MM D (bd b0) N2 g H) (hN : N2 = N0 + cells) (h1 : 0 < N2) (k : H.size = b0 + N2 → W p l e R s m args below meth c H locs cells slots Q f) : W p l e R s m args below meth c H locs cells slots Q f :=
  W_size (fun h => k (by
    have q : bd b0 (N2 - 1) < H.size := (MM.at hP (k := N2 - 1) (by omega)).lt
    unfold bd at q
    omega))
theorem za_byte (n : Nat) : ∀ cA : ClassId, vp_cell cA (n, .inl (fun x9 => nI ((fun _ => 0) x9))) = arrV cA n (fun _ => defaultValue .byte) := fun cA => rfl
theorem za_int (n : Nat) : ∀ cA : ClassId, vp_cell cA (n, .inl (fun x9 => nI ((fun _ => 0) x9))) = arrV cA n (fun _ => defaultValue .int) := fun cA => rfl
theorem za_long (n : Nat) : ∀ cA : ClassId, vp_cell cA (n, .inr (.inl (fun x9 => lN ((fun _ => 0) x9)))) = arrV cA n (fun _ => defaultValue .long) := fun cA => rfl
theorem nkl {k N : Nat} (h : k < N) (b : Nat) : k ≠ N + b := Nat.ne_of_lt (Nat.lt_of_lt_of_le h (Nat.le_add_right _ _))
theorem nkr {k N : Nat} (h : k < N) (b : Nat) : N + b ≠ k := fun q => nkl h b q.symm
theorem nab {N : Nat} (a b : Nat) (h : Nat.beq a b = false) : N + a ≠ N + b := fun q => by
  rw [Nat.add_left_cancel q, Nat.beq_refl] at h
  cases h
theorem lab {N : Nat} (a b : Nat) (h : Nat.ble (a + 1) b = true) : N + a < N + b := Nat.add_lt_add_left (Nat.le_of_ble_eq_true h) N
theorem lkn {k N : Nat} (h : k < N) (b : Nat) : k < N + b := Nat.lt_of_lt_of_le h (Nat.le_add_right _ _)


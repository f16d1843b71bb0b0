-- an int[][]: the outer array, and behind it its rows
def mrw (h0 i : Nat) : Nat → Option Nat := fun j => if j < i then some (h0 + 1 + j) else none
theorem mrw_s (h0 i : Nat) : updV (fun j => va_rf (mrw h0 i j)) i (.ref (h0 + 1 + i)) = fun j => va_rf (mrw h0 (i + 1) j) := by
  funext j
  unfold updV mrw
  dsimp only
  by_cases h : j = i
  · subst h; rw [if_pos rfl, if_pos (Nat.lt_succ_self _)]; rfl
  · rw [if_neg h]
    by_cases h2 : j < i
    · rw [if_pos h2, if_pos (by omega)]
    · rw [if_neg h2, if_neg (by omega)]
def mqO (cA : ClassId) (N h0 i : Nat) : Cell := arrV cA N (fun j => va_rf (mrw h0 i j))
def mqR (cR : ClassId) (M : Nat) : Cell := arrV cR M (fun _ => .int 0)
def mqS (T : State) (cA cR : ClassId) (N M : Nat) : Nat → State
  | 0 => T.pushCell (mqO cA N T.heap.size 0)
  | i + 1 => ((mqS T cA cR N M i).pushCell (mqR cR M)).setCell T.heap.size ((mqO cA N T.heap.size i).setSlot i (.ref (T.heap.size + 1 + i)))
theorem mqO_s (cA : ClassId) (N h0 i : Nat) : (mqO cA N h0 i).setSlot i (.ref (h0 + 1 + i)) = mqO cA N h0 (i + 1) := by
  unfold mqO
  rw [arrV_store, mrw_s]
theorem mqS_ok (T : State) (cA cR : ClassId) (N M : Nat) (i : Nat) : (mqS T cA cR N M i).heap.size = T.heap.size + 1 + i ∧ (mqS T cA cR N M i).heap[T.heap.size]? = some (mqO cA N T.heap.size i) ∧ (mqS T cA cR N M i).vm = T.vm ∧ (mqS T cA cR N M i).slotsUsed = T.slotsUsed + N + i * M ∧ (∀ a : Nat, a < T.heap.size → (mqS T cA cR N M i).heap[a]? = T.heap[a]?) ∧ ∀ j, j < i → (mqS T cA cR N M i).heap[T.heap.size + 1 + j]? = some (mqR cR M) := by
  induction i with
  | zero =>
    refine ⟨by simp [mqS], by simp [mqS], rfl, by simp [mqS, mqO, arrV_size], fun a h => ?_, fun j h => absurd h (Nat.not_lt_zero _)⟩
    exact State.heap_pushCell_of_lt _ _ h
  | succ i ih =>
    obtain ⟨h1, h2, h3, h4, h5, h6⟩ := ih
    have hlt : T.heap.size < (mqS T cA cR N M i).heap.size := by omega
    have hb : ((mqS T cA cR N M i).pushCell (mqR cR M)).heap[T.heap.size]? = some (mqO cA N T.heap.size i) := by rw [State.heap_pushCell_of_lt (h := hlt)]; exact h2
    refine ⟨?_, ?_, by simp [mqS, h3], ?_, fun a h => ?_, fun j h => ?_⟩
    · simp [mqS, State.setCell, h1]; omega
    · show (((mqS T cA cR N M i).pushCell (mqR cR M)).setCell T.heap.size _).heap[T.heap.size]? = _
      rw [State.heap_setCell_self hb, mqO_s]
    · simp [mqS, h4, mqR, arrV_size, Nat.succ_mul]; omega
    · show (((mqS T cA cR N M i).pushCell (mqR cR M)).setCell T.heap.size _).heap[a]? = _
      rw [State.heap_setCell_other (Nat.ne_of_gt h), State.heap_pushCell_of_lt (h := Nat.lt_trans h hlt)]
      exact h5 a h
    · show (((mqS T cA cR N M i).pushCell (mqR cR M)).setCell T.heap.size _).heap[T.heap.size + 1 + j]? = _
      rw [State.heap_setCell_other (show T.heap.size ≠ T.heap.size + 1 + j by omega)]
      rcases Nat.lt_or_ge j i with hj | hj
      · have hj2 : T.heap.size + 1 + j < (mqS T cA cR N M i).heap.size := by omega
        rw [State.heap_pushCell_of_lt (h := hj2)]
        exact h6 j hj
      · have e : j = i := by omega
        subst e
        rw [← h1]
        exact State.heap_pushCell_size _ _
theorem mqS_top (T : State) (f : JFrame) (cA cR : ClassId) (N M i : Nat) : mqS (T.setTop f) cA cR N M i = (mqS T cA cR N M i).setTop f := by
  induction i with
  | zero => rfl
  | succ i ih => simp only [mqS, ih, State.heap_setTop, State.pushCell_setTop, State.setCell_setTop]
section MULTI
variable {p : Program} {l : Launch} {e : Env} {R : Room} {s : State} {m : MethodId} {args : Array Value} {below : List Frame} {meth : Method} {c : Code} {H : Heap} {locs : List Loc} {cells slots : Nat} {Q : State → Prop}
theorem mqS_stand {T : State} (X : Stand p l e R s m args below meth c T locs cells slots) (cA cR : ClassId) (N M i : Nat) : Stand p l e R s m args below meth c (mqS T cA cR N M i) locs (cells + 1 + i) (slots + N + i * M) := by
  induction i with
  | zero =>
    have h := X.pushed (mqO cA N T.heap.size 0)
    rw [show (mqO cA N T.heap.size 0).slots.size = N from arrV_size _ _ _] at h
    rw [Nat.zero_mul]
    exact h
  | succ i ih =>
    obtain ⟨h1, h2, -⟩ := mqS_ok T cA cR N M i
    have hlt : T.heap.size < (mqS T cA cR N M i).heap.size := by omega
    have hb : ((mqS T cA cR N M i).pushCell (mqR cR M)).heap[T.heap.size]? = some (mqO cA N T.heap.size i) := by rw [State.heap_pushCell_of_lt (h := hlt)]; exact h2
    have h := ((ih.pushed (mqR cR M)).stored hb i (.ref (T.heap.size + 1 + i))).dropFresh (fun x hx => by
      rw [List.mem_singleton] at hx
      subst hx
      exact X.heapGrown)
    rw [show (mqR cR M).slots.size = M from arrV_size _ _ _] at h
    rw [show slots + N + (i + 1) * M = slots + N + i * M + M by rw [Nat.succ_mul]; omega]
    exact h
theorem wp_narr {E : CtlPost} {e : Env} {d : Bool} {acts : List Action} {s : State} {cX comp : ClassId} {k : Class} {ty : FieldType} {n : Nat} {x : Value} (hk : s.vm.classes[cX]? = some k) (hkind : k.kind = .array comp ty) (h1 : ¬ n > e.platform.arrayLengthLimit) (h2 : ¬ n * componentBytes ty > e.platform.maxHeapBytes) (hfit : fits ty x = true) (hdef : x.isDefault = true) {Q : Addr → Pre} (h3 : s.heap.size < e.platform.maxCells) (h4 : s.slotsUsed + n ≤ e.platform.maxSlots) (hq : Q s.heap.size d acts (s.pushCell (arrV cX n (fun _ => x)))) : Sem.wp (Jvm.newArray cX n x) Q E e d acts s := by
  have hf : ∀ i v, (Array.replicate n x)[i]? = some v → s.fitsSlot cX .none i v = true := fun i v hv => by
    rw [Array.getElem?_replicate] at hv
    split at hv
    · cases hv; simp [State.fitsSlot, State.slotType?, hk, hkind, hfit]
    · cases hv
  have ha : allocActs (Array.replicate n x) s.heap.size acts = acts := by
    unfold allocActs
    rw [if_pos (by rw [Array.all_replicate]; split <;> simp [hdef])]
  rw [← arrV_new] at hq
  simp only [Jvm.newArray, Jvm.arrayFits, wp_bind', W.ask, W.ite, h1, if_false, wp_pure', W.theClass, hk, hkind, h2, W.alloc, W.stop, Option.some.injEq, exists_eq_left', Array.size_replicate, ha]
  rw [if_neg (by omega)]
  exact ⟨h3, h4, hf, hq⟩
theorem wp_mrow {E : CtlPost} {e : Env} {d : Bool} {acts : List Action} {s : State} {cR cc : ClassId} {k : Class} {M : Int32} (hk : s.vm.classes[cR]? = some k) (hkind : k.kind = .array cc .int) (hM : ¬ M < 0) (h1 : ¬ M.toNatClampNeg > e.platform.arrayLengthLimit) (h2 : ¬ M.toNatClampNeg * 4 > e.platform.maxHeapBytes) (h3 : s.heap.size < e.platform.maxCells) (h4 : s.slotsUsed + M.toNatClampNeg ≤ e.platform.maxSlots) {Q : Addr → Pre} (hq : Q s.heap.size d acts (s.pushCell (mqR cR M.toNatClampNeg))) : Sem.wp (multianewarray.make cR [M]) Q E e d acts s := by
  rw [multianewarray.make]
  simp only [wp_bind', W.ite, hM, if_false, wp_pure', W.theClass, hk, hkind, Option.some.injEq, exists_eq_left']
  exact wp_narr hk hkind h1 h2 rfl rfl h3 h4 hq
theorem wp_mgrid {E : CtlPost} {e : Env} {d : Bool} {acts : List Action} {s : State} {cA cR cc : ClassId} {kA kR : Class} {N M : Int32} (hkA : s.vm.classes[cA]? = some kA) (hA : kA.kind = .array cR (.array .int)) (hkR : s.vm.classes[cR]? = some kR) (hR : kR.kind = .array cc .int) (hN : ¬ N < 0) (hM : ¬ M < 0) (h1 : ¬ N.toNatClampNeg > e.platform.arrayLengthLimit) (h2 : ¬ N.toNatClampNeg * 4 > e.platform.maxHeapBytes) (h3 : ¬ M.toNatClampNeg > e.platform.arrayLengthLimit) (h4 : ¬ M.toNatClampNeg * 4 > e.platform.maxHeapBytes) (h5 : s.heap.size + 1 + N.toNatClampNeg ≤ e.platform.maxCells) (h6 : s.slotsUsed + N.toNatClampNeg + N.toNatClampNeg * M.toNatClampNeg ≤ e.platform.maxSlots) {Q : Addr → Pre} (hq : ∀ d2 acts2, Q s.heap.size d2 acts2 (mqS s cA cR N.toNatClampNeg M.toNatClampNeg N.toNatClampNeg)) : Sem.wp (multianewarray.make cA [N, M]) Q E e d acts s := by
  have hfind : ([M].find? (· < 0)) = none := by simp [hM]
  rw [multianewarray.make]
  simp only [wp_bind', W.ite, hN, if_false, wp_pure', W.theClass, hkA, hA, Option.some.injEq, exists_eq_left']
  refine wp_narr hkA hA h1 h2 rfl rfl (by omega) (by have := Nat.zero_le (N.toNatClampNeg * M.toNatClampNeg); omega) ?_
  simp only [hfind]
  rw [ite_self, wp_bind', Std.Legacy.Range.forIn_eq_forIn_range']
  rw [show ([:N.toNatClampNeg] : Std.Legacy.Range).size = N.toNatClampNeg by simp [Std.Legacy.Range.size]]
  show Sem.wp (forIn (List.range' 0 N.toNatClampNeg 1) PUnit.unit _) _ E e d acts _
  refine wp_forIn_inv (fun rest s2 => ∃ i, i + rest.length = N.toNatClampNeg ∧ rest = List.range' i rest.length ∧ s2 = mqS s cA cR N.toNatClampNeg M.toNatClampNeg i) _ _ ⟨0, by simp, by simp, rfl⟩ ?_ ?_
  · rintro x rest s2 d2 acts2 Q2 ⟨i, hi, hl, rfl⟩ hnext
    rw [List.length_cons] at hi hl
    rw [List.range'_succ] at hl
    obtain ⟨rfl, hrest⟩ := List.cons.inj hl
    obtain ⟨f1, f2, f3, f4, -⟩ := mqS_ok s cA cR N.toNatClampNeg M.toNatClampNeg x
    have hmul : x * M.toNatClampNeg + M.toNatClampNeg ≤ N.toNatClampNeg * M.toNatClampNeg := by
      rw [← Nat.succ_mul]
      exact Nat.mul_le_mul_right _ (by omega)
    have hlt0 : s.heap.size < (mqS s cA cR N.toNatClampNeg M.toNatClampNeg x).heap.size := by omega
    simp only [wp_bind']
    refine wp_mrow (by rw [f3]; exact hkR) hR hM h3 h4 (by rw [f1]; omega) (by rw [f4]; omega) ?_
    simp only [wp_bind', W.writeLoc, wp_pure']
    refine ⟨mqO cA N.toNatClampNeg s.heap.size x, by rw [State.heap_pushCell_of_lt (h := hlt0)]; exact f2, by simp [mqO, arrV], by rw [show (mqO cA N.toNatClampNeg s.heap.size x).slots.size = N.toNatClampNeg from arrV_size _ _ _]; omega, ?_, hnext _ _ _ ⟨x + 1, by omega, hrest, ?_⟩⟩
    · simp [mqO, arrV, State.fitsSlot, State.slotType?, f3, hkA, hA]
      rfl
    · rw [f1]; rfl
  · rintro s2 d2 acts2 ⟨i, hi, -, rfl⟩
    have e : i = N.toNatClampNeg := hi
    subst e
    simp only [wp_pure']
    exact hq _ _
end MULTI
section MULTI2
variable {p : Program} {l : Launch} {e : Env} {R : Room} {s : State} {m : MethodId} {args : Array Value} {below : List Frame} {meth : Method} {c : Code} {H : Heap} {locs : List Loc} {cells slots : Nat} {Q : State → Prop}
theorem W.multi {cc : ByteArray} (hexec : p.tables.exec = Jvm.exec) (hb : c.code = cc) {own : String} {index : Nat} (hown : s.vm.findClass own = some m.cls) (hclink : (Cond.classLink own index "[[I").before args s = true) (hover : (Cond.arrayOver (.array .int)).before args s = true) (harr : (Cond.arrayClass .int).before args s = true)
    {g : JFrame} (hg : g.method = m) (hdg : decode cc g.pc = .ok (.multianewarray index 2, 4)) {n k : Int32} {rest : List Value} (hstack : g.stack = .int k :: .int n :: rest) (hn : ¬ n < 0) (hk : ¬ k < 0) (hb1 : n.toNatClampNeg * 4 ≤ 536870912) (hb2 : k.toNatClampNeg * 4 ≤ 536870912) (hcells : cells + (1 + n.toNatClampNeg) ≤ R.cells) (hslots : slots + (n.toNatClampNeg + n.toNatClampNeg * k.toNatClampNeg) ≤ R.slots)
    (kk : ∀ (H1 : Heap) (cA cR : ClassId), s.vm.findClass "[[I" = some cA → s.vm.findClass "[I" = some cR → H1.size = H.size + 1 + n.toNatClampNeg → H1[H.size]? = some (mqO cA n.toNatClampNeg H.size n.toNatClampNeg) → (∀ a : Nat, a < H.size → H1[a]? = H[a]?) → (∀ j, j < n.toNatClampNeg → H1[H.size + 1 + j]? = some (mqR cR k.toNatClampNeg)) →
      W p l e R s m args below meth c H1 locs (cells + 1 + n.toNatClampNeg) (slots + n.toNatClampNeg + n.toNatClampNeg * k.toNatClampNeg) Q { g with pc := g.pc + 4, stack := .ref H.size :: rest }) : W p l e R s m args below meth c H locs cells slots Q g := by
  intro T hT X
  subst hT; subst hb; subst hg
  have hpl : e.platform.magicAccessors = ({} : Platform).magicAccessors := by rw [X.admits.platform]
  obtain ⟨cR, cA, kA, hcR, -, hkA, hkindA, hnA⟩ := arrayOverA_spec hover
  obtain ⟨cR2, kR, c2, hcR2, hkR, hkindR⟩ := Cond.arrayClass_spec harr
  have e1 : cR2 = cR := Option.some.inj (hcR2.symm.trans hcR)
  subst e1
  obtain ⟨c0, hf0, hcl⟩ := Cond.classLink_spec hown hclink e.platform hpl
  have e2 : c0 = cA := Option.some.inj (hf0.symm.trans hnA)
  subst e2
  obtain ⟨hg1, hw1, hr1⟩ := State.classEntry (e := e) X.warmed hcl
  generalize T.vm.noted g.method.cls index (.cls c0) = vm1 at hg1 hw1 hr1
  have hal : s.vm.Alike vm1 := hw1.alike
  obtain ⟨kA1, hkA1, hA1⟩ := hal.2.2 _ _ hkA
  obtain ⟨kR1, hkR1, hR1⟩ := hal.2.2 _ _ hkR
  have hi1 : kA1.kind = .array cR2 (.array .int) := by rw [hA1]; exact hkindA
  have hi2 : kR1.kind = .array c2 .int := by rw [hR1]; exact hkindR
  have X1 := X.noted hw1
  obtain ⟨q1, q2⟩ := X.roomAbove hcells hslots
  have hlA := Launch.admits_arrayLengthLimit X.admits
  have hlB := Launch.admits_maxHeapBytes X.admits
  have XF := mqS_stand X1 c0 cR2 n.toNatClampNeg k.toNatClampNeg n.toNatClampNeg
  obtain ⟨o1, o2, o3, o4, o5, o6⟩ := mqS_ok (T.setVm vm1) c0 cR2 n.toNatClampNeg k.toNatClampNeg n.toNatClampNeg
  obtain ⟨t, a1, b1⟩ := kk _ c0 cR2 hf0 hcR o1 o2 o5 o6 (mqS (T.setVm vm1) c0 cR2 n.toNatClampNeg k.toNatClampNeg n.toNatClampNeg) rfl XF
  refine ⟨t, ?_, b1⟩
  jvm_step X.here [hexec, hdg]
  simp only [multianewarray.sem, wp_bind', W.resolveClassAt_links (State.method?_setTop g X.here.top) hg1]
  rw [W.popN, if_neg (by decide)]
  refine ⟨g, State.topJava?_setTop' (s := T.setVm vm1) g X.here.top, [.int n, .int k], rest, rfl, hstack, ?_⟩
  simp only [List.mapM_cons, List.mapM_nil, wp_bind', wp_pure']
  refine wp_mgrid (kA := kA1) (kR := kR1) (cR := cR2) (cc := c2) hkA1 hi1 hkR1 hi2 hn hk (by rw [hlA]; omega) (by rw [hlB]; omega) (by rw [hlA]; omega) (by rw [hlB]; omega) (by show T.heap.size + 1 + _ ≤ _; omega) (by show T.slotsUsed + _ + _ ≤ _; omega) (fun d2 acts2 => ?_)
  rw [show ((T.setTop g).setVm vm1).setTop { g with stack := rest } = (T.setVm vm1).setTop { g with stack := rest } by
    show ((T.setVm vm1).setTop g).setTop _ = _
    rw [State.setTop_setTop]]
  rw [mqS_top]
  simp only [wp_bind', W.mark, W.pushRef, State.topJava?_setTop' _ XF.here.top, Option.some.injEq, exists_eq_left', State.setTop_setTop, State.heap_setTop]
  intro acts
  simp [jvm, XF.here.top]
  exact a1
variable {pc nL : Nat} {ls : Array Slot} {rest : List Value} {D : va_G} {cy : Nat → ClassId} {b0 N : Nat} {g : Nat → va_E} {own : String} {cc : ByteArray}
/-- int[17][17] -/
theorem gmulti (S : CallFix p m c cc nL s args wsL_law own) (hK : va_K D vwCl (tyv cy) s) (hN : NX s) (hz : H.size = b0 + N) (hP : MM D (bd b0) N g H) (hS : va_S (AB b0) s.heap H locs) {idx : Nat} (hcl : Cond.classLink own idx "[[I" ∈ wsL_law) (hcells : cells + 18 ≤ R.cells) (hslots : slots + 306 ≤ R.slots) (hdg : decode cc pc = .ok (.multianewarray idx 2, 4))
    (kk : ∀ (g1 : Nat → va_E) (H1 : Heap), (∀ j, j < N → g1 j = g j) → g1 N = .inl (cy 7, 17, .inr (.inr (.inr (.inr (mrw (bd b0 N) 17))))) → (∀ j, j < 17 → g1 (N + 1 + j) = .inl (cy 1, 17, .inl (fun x9 => nI ((fun _ => 0) x9)))) → MM D (bd b0) (N + 18) g1 H1 → va_S (AB b0) s.heap H1 locs → H1.size = b0 + (N + 18) →
      W p l e R s m args below meth c H1 locs (cells + 18) (slots + 306) Q (F0 m (pc + 4) ls (.ref (bd b0 N) :: rest))) : W p l e R s m args below meth c H locs cells slots Q (F0 m pc ls (.int (nI 17) :: .int (nI 17) :: rest)) := by
  obtain ⟨hx, hb, hml, hown, hts⟩ := S
  have e17 : (nI 17).toNatClampNeg = 17 := by decide
  refine W.multi hx hb hown (hts _ hcl) (va_AG.use hN.1.2) (hts _ ma_int) rfl hdg rfl (by decide) (by decide) (by decide) (by decide) (by rw [e17]; omega) (by rw [e17]; omega) (fun H1 cA cR hA hR z1 z2 z3 z4 => ?_)
  rw [e17] at z1 z2 z4 ⊢
  have hcA : cA = cy 7 := Option.some.inj (hA.symm.trans (hK.2 7 _ rfl).2)
  have hcR : cR = cy 1 := Option.some.inj (hR.symm.trans (hK.2 1 _ rfl).2)
  subst hcA
  subst hcR
  have hk0 : MM D (bd b0) N g H1 := va_P.kept hP (fun k y hy => z3 y.1 ((hP k y hy).lt))
  have hH : H.size = bd b0 N := hz
  let g1 : Nat → va_E := fun j => if j < N then g j else if j = N then .inl (cy 7, 17, .inr (.inr (.inr (.inr (mrw (bd b0 N) 17))))) else .inl (cy 1, 17, .inl (fun x9 => nI ((fun _ => 0) x9)))
  have f1 : ∀ j, j < N → g1 j = g j := fun j h => if_pos h
  have f2 : g1 N = .inl (cy 7, 17, .inr (.inr (.inr (.inr (mrw (bd b0 N) 17))))) := (if_neg (Nat.lt_irrefl N)).trans (if_pos rfl)
  have f3 : ∀ j, j < 17 → g1 (N + 1 + j) = .inl (cy 1, 17, .inl (fun x9 => nI ((fun _ => 0) x9))) := fun j _ => (if_neg (by omega)).trans (if_neg (by omega))
  have hP1 : MM D (bd b0) (N + 18) g1 H1 := by
    intro k q hk
    obtain ⟨h1, rfl⟩ := wl_inv hk
    rcases Nat.lt_or_ge k N with h | h
    · rw [f1 k h]; exact hk0.at h
    · by_cases h2 : k = N
      · subst h2
        rw [f2]
        rw [hH] at z2
        exact z2
      · obtain ⟨j, rfl⟩ : ∃ j, k = N + 1 + j := ⟨k - (N + 1), by omega⟩
        rw [f3 j (by omega)]
        have := z4 j (by omega)
        rw [hz, show b0 + N + 1 + j = bd b0 (N + 1 + j) by unfold bd; omega] at this
        exact this
  rw [hH]
  refine kk g1 H1 f1 f2 f3 hP1 ⟨Nat.le_trans hS.1 (by omega), fun q a b => (z3 q (Nat.lt_of_lt_of_le a hS.1)).trans (hS.2.1 q a b), hS.2.2⟩ (by omega)
end MULTI2

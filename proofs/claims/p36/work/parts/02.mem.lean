/-- a method and its words: its own code, and all the law's -/
def WS (y : MethodName) (b : ByteArray) (n : Nat) (r : Option FieldType) : List Cond := Cond.code y b n r :: wsL_law
theorem law_good {w : Cond} (h : w ∈ wsL_law) : (w.onTables && w.keeps) = true ∨ ∃ ty, w = .arrayClass ty := (wsL_law_gd w h).2
/-- the memory: N cells, cell i at the address ad i, holding g i -/
def wl (ad : Nat → Nat) (N : Nat) (g : Nat → va_E) : va_W := (List.range N).map (fun i => (ad i, g i))
theorem wl_get {ad : Nat → Nat} {N : Nat} {g : Nat → va_E} {k : Nat} (h : k < N) : (wl ad N g)[k]? = some (ad k, g k) := by
  unfold wl
  rw [List.getElem?_map, List.getElem?_range h]
  rfl
theorem wl_inv {ad : Nat → Nat} {N : Nat} {g : Nat → va_E} {k : Nat} {q : Nat × va_E} (h : (wl ad N g)[k]? = some q) : k < N ∧ q = (ad k, g k) := by
  by_cases hk : k < N
  · rw [wl_get hk] at h
    exact ⟨hk, (Option.some.inj h).symm⟩
  · unfold wl at h
    rw [List.getElem?_eq_none (by simp; omega)] at h
    cases h
theorem wl_set {ad : Nat → Nat} {N : Nat} {g : Nat → va_E} {k : Nat} {e : va_E} (h : k < N) : (wl ad N g).set k (ad k, e) = wl ad N (va_up g k e) := by
  apply List.ext_getElem?
  intro j
  by_cases hj : j < N
  · rw [wl_get hj]
    by_cases hk : j = k
    · subst hk
      rw [List.getElem?_set_self (by simp [wl]; omega), va_up_self]
    · rw [List.getElem?_set_ne (fun q => hk q.symm), wl_get hj, va_up_ne _ _ hk]
  · rw [List.getElem?_eq_none (by simp [wl]; omega), List.getElem?_eq_none (by simp [wl]; omega)]
theorem wl_push {ad : Nat → Nat} {N : Nat} {g : Nat → va_E} {a : Nat} {e : va_E} : wl ad N g ++ [(a, e)] = wl (va_up ad N a) (N + 1) (va_up g N e) := by
  apply List.ext_getElem?
  intro j
  by_cases hj : j < N
  · rw [List.getElem?_append_left (by simp [wl]; omega), wl_get hj, wl_get (by omega), va_up_ne _ _ (by omega), va_up_ne _ _ (by omega)]
  · by_cases hk : j = N
    · subst hk
      rw [List.getElem?_append_right (by simp [wl]), wl_get (by omega), va_up_self, va_up_self]
      simp [wl]
    · rw [List.getElem?_eq_none (by simp [wl]; omega), List.getElem?_eq_none (by simp [wl]; omega)]
/-- the world as a memory -/
def MM (D : va_G) (ad : Nat → Nat) (N : Nat) (g : Nat → va_E) (H : Heap) : Prop := va_P D vwCl (wl ad N g) H
/-- the addresses are apart and in A -/
def MD (A : Nat → Prop) (ad : Nat → Nat) (N : Nat) : Prop := (∀ i j : Nat, i < N → j < N → ad i = ad j → i = j) ∧ ∀ i : Nat, i < N → A (ad i)
def AA (ad : Nat → Nat) (N : Nat) : Nat → Prop := fun q => ∃ k, k < N ∧ q = ad k
theorem MD.D {A : Nat → Prop} {ad : Nat → Nat} {N : Nat} (h : MD A ad N) (g : Nat → va_E) : va_D A (wl ad N g) := by
  refine ⟨fun i j p q hi hj hpq => ?_, fun k q hk => ?_⟩
  · obtain ⟨h1, rfl⟩ := wl_inv hi
    obtain ⟨h2, rfl⟩ := wl_inv hj
    exact h.1 i j h1 h2 hpq
  · obtain ⟨h1, rfl⟩ := wl_inv hk
    exact h.2 k h1
theorem MD.of {A : Nat → Prop} {ad : Nat → Nat} {N : Nat} {g : Nat → va_E} (h : va_D A (wl ad N g)) : MD A ad N :=
  ⟨fun i j hi hj e => h.1 i j _ _ (wl_get hi) (wl_get hj) e, fun i hi => h.2 i _ (wl_get hi)⟩
theorem MD.in {ad : Nat → Nat} {N : Nat} (h : ∀ i j : Nat, i < N → j < N → ad i = ad j → i = j) : MD (AA ad N) ad N := ⟨h, fun i hi => ⟨i, hi, rfl⟩⟩
theorem MM.at {D : va_G} {ad : Nat → Nat} {N : Nat} {g : Nat → va_E} {H : Heap} (h : MM D ad N g H) {k : Nat} (hk : k < N) : va_at D vwCl (ad k, g k) H := h k _ (wl_get hk)
theorem MM.congr {D : va_G} {ad : Nat → Nat} {N : Nat} {g g2 : Nat → va_E} {H : Heap} (h : MM D ad N g H) (e : ∀ k, k < N → g2 k = g k) : MM D ad N g2 H := fun k q hk => by
  obtain ⟨h1, rfl⟩ := wl_inv hk
  rw [e k h1]
  exact h.at h1
/-- the types of the arrays -/
def tyv (cy : Nat → ClassId) : List (ClassId × FieldType) := [(cy 0, .byte), (cy 1, .int), (cy 2, .long), (cy 3, .object RX0), (cy 4, .object RX4), (cy 5, .object RX7), (cy 6, .object RX8), (cy 7, .array .int)]
/-- start of a method over a memory -/
def PP (av : List Value) (D : va_G) (cy : Nat → ClassId) (ad : Nat → Nat) (N : Nat) (g : Nat → va_E) : Array Value → State → Prop := va_Pc av (fun U => MM D ad N g U.heap ∧ va_K D vwCl (tyv cy) U)
theorem PP.blind {av : List Value} {D : va_G} {cy : Nat → ClassId} {ad : Nat → Nat} {N : Nat} {g : Nat → va_E} : FrameBlind (PP av D cy ad N g) := fun a U j mk q => by
  obtain ⟨q0, qP, qK⟩ := q
  exact ⟨q0, qP, va_K.moved (u := U) (U := U.calling j mk a) (Vm.Alike.refl U.vm) qK⟩
/-- ends of methods that change the memory alone -/
def QI (post : Int32 → (Nat → va_E) → Prop) (D : va_G) (ad : Nat → Nat) (N : Nat) : Array Value → State → Outcome → State → Prop := va_Qi post (fun u t => MM D ad N u t.heap) (AA ad N)
def QL (post : Int64 → (Nat → va_E) → Prop) (D : va_G) (ad : Nat → Nat) (N : Nat) : Array Value → State → Outcome → State → Prop := va_Ql post (fun u t => MM D ad N u t.heap) (AA ad N)
def QV (post : (Nat → va_E) → Prop) (D : va_G) (ad : Nat → Nat) (N : Nat) : Array Value → State → Outcome → State → Prop := va_Qv post (fun u t => MM D ad N u t.heap) (AA ad N)
abbrev rmF (f lo : Nat) : Room := ({ frames := f, cells := 0, slots := 0, locals := lo } : Room)
/-- a field's link: in the class 'own', constant 'idx' is field i of class ci, of type ty; fin: whether it is final -/
def FD (own : String) (idx ci i : Nat) (fin : Bool) (ty : FieldType) : Prop := ∃ (C : String) (T : u_T) (NF : Nat) (ty0 : Nat → FieldType), vwCl[ci]? = some (C, T, NF) ∧ (∀ w ∈ u_ws C T NF, w ∈ wsL_law) ∧ i < NF ∧ Cond.fieldLink own idx (T i).1 (T i).2.1 (T i).2.2.1 ∈ wsL_law ∧ (T i).2.2.2 = fin ∧ parseFieldDescriptor (T i).2.2.1 = some ty ∧ (∀ k, k < NF → parseFieldDescriptor (T k).2.2.1 = some (ty0 k)) ∧ (∀ a, a < NF → ∀ b, b < NF → a ≠ b → (T a).2.1 ≠ (T b).2.1)
/-- a call's link, on a receiver of class C -/
def CV (own : String) (idx : Nat) (C : String) (y : MethodName) (b : ByteArray) (maxL : Nat) (ret : Option FieldType) (n : Nat) : Prop := GoodIn wsL_law (wsV own idx C y (WS y b maxL ret)) ∧ (y.cls = C ∧ y.cls ≠ "java/lang/invoke/MethodHandle" ∧ y.cls ≠ "java/lang/invoke/VarHandle" ∧ (parseMethodDescriptor y.desc).map (fun d => d.parameters.length) = some n)
def CS (own : String) (idx : Nat) (y : MethodName) (b : ByteArray) (maxL : Nat) (ret : Option FieldType) (n : Nat) : Prop := GoodIn wsL_law ([Cond.methodLink own idx y, Cond.static y, Cond.initialized y.cls] ++ WS y b maxL ret) ∧ (y.cls ≠ "java/lang/invoke/MethodHandle" ∧ y.cls ≠ "java/lang/invoke/VarHandle" ∧ (parseMethodDescriptor y.desc).map (fun d => d.parameters.length) = some n)
theorem WS_good {y : MethodName} {b : ByteArray} {maxL : Nat} {ret : Option FieldType} (h : Cond.code y b maxL ret ∈ wsL_law) : GoodIn wsL_law (WS y b maxL ret) := fun w hw => by
  rcases List.mem_cons.mp hw with rfl | h2
  · exact ⟨h, law_good h⟩
  · exact ⟨h2, law_good h2⟩
theorem CV.of {own : String} {idx : Nat} {C : String} {y : MethodName} {b : ByteArray} {maxL : Nat} {ret : Option FieldType} {n : Nat} (h1 : Cond.methodLink own idx y ∈ wsL_law) (h2 : Cond.instanceMethod y ∈ wsL_law) (h3 : Cond.selects C y y ∈ wsL_law) (h4 : Cond.initialized C ∈ wsL_law) (h5 : Cond.code y b maxL ret ∈ wsL_law) (hd : y.cls = C ∧ y.cls ≠ "java/lang/invoke/MethodHandle" ∧ y.cls ≠ "java/lang/invoke/VarHandle" ∧ (parseMethodDescriptor y.desc).map (fun d => d.parameters.length) = some n) : CV own idx C y b maxL ret n := by
  refine ⟨fun w hw => ?_, hd⟩
  unfold wsV at hw
  rcases List.mem_append.mp hw with h | h
  · simp only [List.mem_cons, List.not_mem_nil, or_false] at h
    rcases h with rfl | rfl | rfl | rfl
    · exact ⟨h1, law_good h1⟩
    · exact ⟨h2, law_good h2⟩
    · exact ⟨h3, law_good h3⟩
    · exact ⟨h4, law_good h4⟩
  · exact WS_good h5 w h
theorem CS.of {own : String} {idx : Nat} {y : MethodName} {b : ByteArray} {maxL : Nat} {ret : Option FieldType} {n : Nat} (h1 : Cond.methodLink own idx y ∈ wsL_law) (h2 : Cond.static y ∈ wsL_law) (h4 : Cond.initialized y.cls ∈ wsL_law) (h5 : Cond.code y b maxL ret ∈ wsL_law) (hd : y.cls ≠ "java/lang/invoke/MethodHandle" ∧ y.cls ≠ "java/lang/invoke/VarHandle" ∧ (parseMethodDescriptor y.desc).map (fun d => d.parameters.length) = some n) : CS own idx y b maxL ret n := by
  refine ⟨fun w hw => ?_, hd⟩
  rcases List.mem_append.mp hw with h | h
  · simp only [List.mem_cons, List.not_mem_nil, or_false] at h
    rcases h with rfl | rfl | rfl
    · exact ⟨h1, law_good h1⟩
    · exact ⟨h2, law_good h2⟩
    · exact ⟨h4, law_good h4⟩
  · exact WS_good h5 w h
section MEM
variable {p : Program} {l : Launch} {e : Env} {R : Room} {s : State} {m : MethodId} {args : Array Value} {below : List Frame} {meth : Method} {c : Code} {H : Heap} {locs : List Loc} {cells slots : Nat} {Q : State → Prop}
variable {cc : ByteArray} {pc nL : Nat} {ls : Array Slot} {rest st0 : List Value} {D : va_G} {cy : Nat → ClassId} {A : Nat → Prop} {H0 : Heap} {ad : Nat → Nat} {N : Nat} {g : Nat → va_E} {own : String}
/-- a method's entry -/
theorem mentry {y : MethodName} {b : ByteArray} {maxL f lo : Nat} {ret : Option FieldType} {Qc : Array Value → State → Outcome → State → Prop} {free : Addr → Prop} {av : List Value} (hy : plainName y.cls = true) (hlen : (lg_sl av).length ≤ maxL)
    (body : ∀ (p : Program) (e : Env) (s : State) (m : MethodId) (below : List Frame) (meth : Method) (c : Code) (ls : Array Slot), CallFix p m c b maxL s av.toArray wsL_law y.cls → meth.sig.returnType = ret → meth.locks = false → meth.name = y.name → MM D ad N g s.heap → va_K D vwCl (tyv cy) s → lv_has ls maxL (lv_args 0 av) →
      W p l e (rmF f lo) s m av.toArray below meth c s.heap [] 0 0 (MQ below Qc av.toArray s 0 0 free) (F0 m 0 ls [])) : Met l y (WS y b maxL ret) (rmF f lo) (PP av D cy ad N g) Qc 0 0 free := by
  refine Met.ofW (cc := b) (maxL := maxL) (ret := ret) (ws' := wsL_law) hy rfl ?_
  intro p e s m args below meth c s₁ B hml hv
  obtain ⟨rfl, hP, hK⟩ := hv
  have hts := atoms_spec (ws := WS y b maxL ret) B.pre
  have hl := lv_entry av (n := maxL) hlen
  rw [lg_entry_eq]
  exact body p e s m below meth c _ ⟨B.exec, B.bytes, hml, findClass_of_methodNamed B.named, fun w hw => hts w (List.mem_cons_of_mem _ hw)⟩ B.returns B.notSynchronized (name_of_methodNamed B.named B.method).1 hP hK hl
theorem mg (S : CallFix p m c cc nL s args wsL_law own) (hK : va_K D vwCl (tyv cy) s) (hP : MM D ad N g H) {k ci i idx : Nat} {fin : Bool} {ty : FieldType} {fs : List Value} {v : Value} (hk : k < N) (hg : g k = .inr (ci, fs)) (hF : FD own idx ci i fin ty) (hv : fs[i]? = some v) (hdg : decode cc pc = .ok (.getfield idx, 3))
    (kk : W p l e R s m args below meth c H locs cells slots Q (F0 m (pc + 3) ls (v :: rest))) : W p l e R s m args below meth c H locs cells slots Q (F0 m pc ls (.ref (ad k) :: rest)) := by
  obtain ⟨hx, hb, hml, hown, hts⟩ := S
  obtain ⟨C, T, NF, ty0, hc, hin, hi, hl, hfi, hpd, hty, hnm⟩ := hF
  exact va_get hx hb hts hin hown hK hP k (by rw [wl_get hk, hg]) hc i hi (hts _ hl) (fun _ h => h) hv hdg kk
theorem mp (S : CallFix p m c cc nL s args wsL_law own) (hK : va_K D vwCl (tyv cy) s) (hP : MM D ad N g H) (hI : MD A ad N) (hS : va_S A H0 H locs) {k ci i idx : Nat} {ty : FieldType} {fs : List Value} {v : Value} (hk : k < N) (hg : g k = .inr (ci, fs)) (hF : FD own idx ci i false ty) (hn : narrow ty v = v) (hfit : fits ty v = true) (hlt : i < fs.length) (hdg : decode cc pc = .ok (.putfield idx, 3))
    (kk : ∀ (g1 : Nat → va_E) (H1 : Heap) (locs1 : List Loc), g1 = va_up g k (.inr (ci, fs.set i v)) → MM D ad N g1 H1 → va_S A H0 H1 locs1 → W p l e R s m args below meth c H1 locs1 cells slots Q (F0 m (pc + 3) ls rest)) : W p l e R s m args below meth c H locs cells slots Q (F0 m pc ls (v :: .ref (ad k) :: rest)) := by
  obtain ⟨hx, hb, hml, hown, hts⟩ := S
  obtain ⟨C, T, NF, ty0, hc, hin, hi, hl, hfi, hpd, hty, hnm⟩ := hF
  refine va_put hx hb hts hin ty0 hty hnm hown hK hP (hI.D g) hS k (by rw [wl_get hk, hg]) hc i hi (hts _ hl) (fun _ h => h) hfi hpd hn hfit hlt hdg (fun H1 locs1 hP1 _ hS1 => kk _ H1 locs1 rfl ?_ hS1)
  rw [wl_set hk] at hP1
  exact hP1
theorem mpF (S : CallFix p m c cc nL s args wsL_law own) (hin2 : meth.name = "<init>") (hK : va_K D vwCl (tyv cy) s) (hP : MM D ad N g H) (hI : MD A ad N) (hS : va_S A H0 H locs) {k ci i idx : Nat} {ty : FieldType} {fs : List Value} {v : Value} (hk : k < N) (hg : g k = .inr (ci, fs)) (hF : FD own idx ci i true ty) (hdecl : ∀ r, vwCl[ci]? = some r → (r.2.1 i).1 = own) (hn : narrow ty v = v) (hfit : fits ty v = true) (hlt : i < fs.length) (hdg : decode cc pc = .ok (.putfield idx, 3))
    (kk : ∀ (g1 : Nat → va_E) (H1 : Heap) (locs1 : List Loc), g1 = va_up g k (.inr (ci, fs.set i v)) → MM D ad N g1 H1 → va_S A H0 H1 locs1 → W p l e R s m args below meth c H1 locs1 cells slots Q (F0 m (pc + 3) ls rest)) : W p l e R s m args below meth c H locs cells slots Q (F0 m pc ls (v :: .ref (ad k) :: rest)) := by
  obtain ⟨hx, hb, hml, hown, hts⟩ := S
  obtain ⟨C, T, NF, ty0, hc, hin, hi, hl, hfi, hpd, hty, hnm⟩ := hF
  refine va_putF hx hb hts hin ty0 hty hnm hown hK hP (hI.D g) hS k (by rw [wl_get hk, hg]) hc i hi (hts _ hl) (fun _ h => h) hfi hin2 (hdecl _ hc) hpd hn hfit hlt hdg (fun H1 locs1 hP1 _ hS1 => kk _ H1 locs1 rfl ?_ hS1)
  rw [wl_set hk] at hP1
  exact hP1
-- arrays
theorem mial (S : CallFix p m c cc nL s args wsL_law own) (hK : va_K D vwCl (tyv cy) s) (hP : MM D ad N g H) {k n : Nat} {f : Nat → Int32} {i : Int32} (hk : k < N) (hg : g k = .inl (cy 1, n, .inl f)) (hin : vp_in i n) (hdg : decode cc pc = .ok (.iaload, 1))
    (kk : W p l e R s m args below meth c H locs cells slots Q (F0 m (pc + 1) ls (.int (f i.toNatClampNeg) :: rest))) : W p l e R s m args below meth c H locs cells slots Q (F0 m pc ls (.int i :: .ref (ad k) :: rest)) :=
  va_iald S.1 S.2.1 hK hP k 1 (by rw [wl_get hk, hg]) rfl hin hdg kk
theorem mbal (S : CallFix p m c cc nL s args wsL_law own) (hK : va_K D vwCl (tyv cy) s) (hP : MM D ad N g H) {k n : Nat} {f : Nat → Int32} {i : Int32} (hk : k < N) (hg : g k = .inl (cy 0, n, .inl f)) (hin : vp_in i n) (hdg : decode cc pc = .ok (.baload, 1))
    (kk : W p l e R s m args below meth c H locs cells slots Q (F0 m (pc + 1) ls (.int (f i.toNatClampNeg) :: rest))) : W p l e R s m args below meth c H locs cells slots Q (F0 m pc ls (.int i :: .ref (ad k) :: rest)) :=
  va_bald S.1 S.2.1 hK hP k 0 (by rw [wl_get hk, hg]) rfl hin hdg kk
theorem mlal (S : CallFix p m c cc nL s args wsL_law own) (hK : va_K D vwCl (tyv cy) s) (hP : MM D ad N g H) {k n : Nat} {f : Nat → Int64} {i : Int32} (hk : k < N) (hg : g k = .inl (cy 2, n, .inr (.inl f))) (hin : vp_in i n) (hdg : decode cc pc = .ok (.laload, 1))
    (kk : W p l e R s m args below meth c H locs cells slots Q (F0 m (pc + 1) ls (.long (f i.toNatClampNeg) :: rest))) : W p l e R s m args below meth c H locs cells slots Q (F0 m pc ls (.int i :: .ref (ad k) :: rest)) :=
  va_lald S.1 S.2.1 hK hP k 2 (by rw [wl_get hk, hg]) rfl hin hdg kk
theorem mial7 (S : CallFix p m c cc nL s args wsL_law own) (hK : va_K D vwCl (tyv cy) s) (hP : MM D ad N g H) {k n t : Nat} {C : String} {f : Nat → Option Nat} {i : Int32} {a : Nat} (hk : k < N) (hg : g k = .inl (cy t, n, .inr (.inr (.inr (.inr f))))) (ht : (tyv cy)[t]? = some (cy t, .object C)) (hin : vp_in i n) (hf : f i.toNatClampNeg = some a) (hdg : decode cc pc = .ok (.aaload, 1))
    (kk : W p l e R s m args below meth c H locs cells slots Q (F0 m (pc + 1) ls (.ref a :: rest))) : W p l e R s m args below meth c H locs cells slots Q (F0 m pc ls (.int i :: .ref (ad k) :: rest)) :=
  va_aldq S.1 S.2.1 hK hP k t (by rw [wl_get hk, hg]) ht hin hdg (by rw [hf]; exact kk)
theorem malen (S : CallFix p m c cc nL s args wsL_law own) (hK : va_K D vwCl (tyv cy) s) (hP : MM D ad N g H) {k t : Nat} {x : vp_A} {ty : FieldType} {v : Int32} (hk : k < N) (hg : g k = .inl (cy t, x)) (ht : (tyv cy)[t]? = some (cy t, ty)) (hv : Int32.ofNat x.1 = v) (hdg : decode cc pc = .ok (.arraylength, 1))
    (kk : W p l e R s m args below meth c H locs cells slots Q (F0 m (pc + 1) ls (.int v :: rest))) : W p l e R s m args below meth c H locs cells slots Q (F0 m pc ls (.ref (ad k) :: rest)) :=
  va_alen S.1 S.2.1 hK hP k t (by rw [wl_get hk, hg]) ht hv hdg kk
theorem mias (S : CallFix p m c cc nL s args wsL_law own) (hK : va_K D vwCl (tyv cy) s) (hP : MM D ad N g H) (hI : MD A ad N) (hS : va_S A H0 H locs) {k n : Nat} {f : Nat → Int32} {i x : Int32} (hk : k < N) (hg : g k = .inl (cy 1, n, .inl f)) (hin : vp_in i n) (hdg : decode cc pc = .ok (.iastore, 1))
    (kk : ∀ (g1 : Nat → va_E) (H1 : Heap) (locs1 : List Loc), g1 = va_up g k (.inl (cy 1, n, .inl (upd f i.toNatClampNeg x))) → MM D ad N g1 H1 → va_S A H0 H1 locs1 → W p l e R s m args below meth c H1 locs1 cells slots Q (F0 m (pc + 1) ls rest)) : W p l e R s m args below meth c H locs cells slots Q (F0 m pc ls (.int x :: .int i :: .ref (ad k) :: rest)) :=
  va_iast S.1 S.2.1 hK hP (hI.D g) hS k 1 (by rw [wl_get hk, hg]) rfl hin hdg (fun H1 locs1 hP1 _ hS1 => kk _ H1 locs1 rfl (by rw [wl_set hk] at hP1; exact hP1) hS1)
theorem mbas (S : CallFix p m c cc nL s args wsL_law own) (hK : va_K D vwCl (tyv cy) s) (hP : MM D ad N g H) (hI : MD A ad N) (hS : va_S A H0 H locs) {k n : Nat} {f : Nat → Int32} {i x : Int32} (hk : k < N) (hg : g k = .inl (cy 0, n, .inl f)) (hin : vp_in i n) (hdg : decode cc pc = .ok (.bastore, 1))
    (kk : ∀ (g1 : Nat → va_E) (H1 : Heap) (locs1 : List Loc), g1 = va_up g k (.inl (cy 0, n, .inl (upd f i.toNatClampNeg x.toInt8.toInt32))) → MM D ad N g1 H1 → va_S A H0 H1 locs1 → W p l e R s m args below meth c H1 locs1 cells slots Q (F0 m (pc + 1) ls rest)) : W p l e R s m args below meth c H locs cells slots Q (F0 m pc ls (.int x :: .int i :: .ref (ad k) :: rest)) :=
  va_bast S.1 S.2.1 hK hP (hI.D g) hS k 0 (by rw [wl_get hk, hg]) rfl hin hdg (fun H1 locs1 hP1 _ hS1 => kk _ H1 locs1 rfl (by rw [wl_set hk] at hP1; exact hP1) hS1)
theorem mlas (S : CallFix p m c cc nL s args wsL_law own) (hK : va_K D vwCl (tyv cy) s) (hP : MM D ad N g H) (hI : MD A ad N) (hS : va_S A H0 H locs) {k n : Nat} {f : Nat → Int64} {i : Int32} {x : Int64} (hk : k < N) (hg : g k = .inl (cy 2, n, .inr (.inl f))) (hin : vp_in i n) (hdg : decode cc pc = .ok (.lastore, 1))
    (kk : ∀ (g1 : Nat → va_E) (H1 : Heap) (locs1 : List Loc), g1 = va_up g k (.inl (cy 2, n, .inr (.inl (vp_updL f i.toNatClampNeg x)))) → MM D ad N g1 H1 → va_S A H0 H1 locs1 → W p l e R s m args below meth c H1 locs1 cells slots Q (F0 m (pc + 1) ls rest)) : W p l e R s m args below meth c H locs cells slots Q (F0 m pc ls (.long x :: .int i :: .ref (ad k) :: rest)) :=
  va_last S.1 S.2.1 hK hP (hI.D g) hS k 2 (by rw [wl_get hk, hg]) rfl hin hdg (fun H1 locs1 hP1 _ hS1 => kk _ H1 locs1 rfl (by rw [wl_set hk] at hP1; exact hP1) hS1)
-- the value on the top under another name
theorem tpi {x y : Int32} (h : x = y) (k : W p l e R s m args below meth c H locs cells slots Q (F0 m pc ls (.int y :: rest))) : W p l e R s m args below meth c H locs cells slots Q (F0 m pc ls (.int x :: rest)) := h ▸ k
theorem tpl {x y : Int64} (h : x = y) (k : W p l e R s m args below meth c H locs cells slots Q (F0 m pc ls (.long y :: rest))) : W p l e R s m args below meth c H locs cells slots Q (F0 m pc ls (.long x :: rest)) := h ▸ k
-- calls
abbrev CR (R : Room) (f lo maxL : Nat) : Prop := Nat.ble (f + 1) R.frames = true ∧ Nat.ble (8 + (maxL + 11) + lo) R.locals = true
theorem cvW {idx : Nat} {C : String} {y : MethodName} {b : ByteArray} {maxL f lo n : Nat} {ret : Option FieldType} (S : CallFix p m c cc nL s args wsL_law own) (h : CV own idx C y b maxL ret n) (hR : CR R f lo maxL) : CallW R s args own C idx y b maxL ret (WS y b maxL ret) (rmF f lo) 0 0 n :=
  cwV n S.2.2.2.2 h.1 rfl rfl rfl h.2 ⟨Nat.le_of_ble_eq_true hR.1, Nat.le_of_ble_eq_true hR.2⟩
theorem csB {idx : Nat} {y : MethodName} {b : ByteArray} {maxL f lo n : Nat} {ret : Option FieldType} (S : CallFix p m c cc nL s args wsL_law own) (h : CS own idx y b maxL ret n) (hR : CR R f lo maxL) : CallB R s args own idx y b maxL ret (WS y b maxL ret) (rmF f lo) 0 0 n ∧ (Cond.static y).before args s = true := by
  have ok : ∀ w ∈ ([Cond.methodLink own idx y, Cond.static y, Cond.initialized y.cls] ++ WS y b maxL ret), w.before args s = true := fun w hw => S.2.2.2.2 w (h.1 w hw).1
  exact ⟨callB_of n S.2.2.2.2 (fun w hw => h.1 w (List.mem_append_right _ hw)) rfl rfl rfl (ok _ (by simp)) (ok _ (by simp)) h.2 ⟨Nat.le_of_ble_eq_true hR.1, Nat.le_of_ble_eq_true hR.2⟩, ok _ (by simp)⟩
theorem mrecv (hK : va_K D vwCl (tyv cy) s) (hP : MM D ad N g H) {k ci : Nat} {fs : List Value} {q : vw_C} (hk : k < N) (hg : g k = .inr (ci, fs)) (hc : vwCl[ci]? = some q) : ∃ cell : Cell, H[ad k]? = some cell ∧ cell.vm.isStatics = false ∧ s.vm.findClass q.1 = some cell.cls :=
  va_recv hK hP hc (q0 := k) (fs := fs) (by rw [wl_get hk, hg])
theorem mprev {C : String} {As : List Value} (hK : va_K D vwCl (tyv cy) s) (hP : MM D ad N g H) {k ci : Nat} {fs : List Value} (hk : k < N) (hg : g k = .inr (ci, fs)) (hc : ∃ T NF, vwCl[ci]? = some (C, T, NF)) : PreV s H C (ad k) (PP (.ref (ad k) :: As) D cy ad N g) As := by
  obtain ⟨T, NF, hc⟩ := hc
  exact ⟨PP.blind, mrecv hK hP hk hg hc, fun U hU hW => ⟨rfl, by rw [hU]; exact hP, va_K.moved hW.alike hK⟩⟩
theorem mpres {As : List Value} (hK : va_K D vwCl (tyv cy) s) (hP : MM D ad N g H) : PreS s H (PP As D cy ad N g) As := ⟨PP.blind, fun U hU hW => ⟨rfl, by rw [hU]; exact hP, va_K.moved hW.alike hK⟩⟩
section
variable {y : MethodName} {b : ByteArray} {maxL f lo n ci k idx : Nat} {ret : Option FieldType} {C : String} {As : List Value} {fs : List Value}
/-- a call that changes nothing, int -/
theorem kVi {post : Int32 → Prop} (S : CallFix p m c cc nL s args wsL_law own) (hK : va_K D vwCl (tyv cy) s) (hP : MM D ad N g H) (hM : Met l y (WS y b maxL ret) (rmF f lo) (PP (.ref (ad k) :: As) D cy ad N g) (vp_Si post) 0 0 (fun _ => False)) (hl : CV own idx C y b maxL ret n) (hk : k < N) (hg : g k = .inr (ci, fs)) (hc : ∃ T NF, vwCl[ci]? = some (C, T, NF)) (hR : CR R f lo maxL) (hn : As.length = n) (hsz : ls.size = nL) (hst : st0 = As.reverse ++ .ref (ad k) :: rest) (hW : (rest.map fun v => v.category).sum ≤ 8) (hf : cells ≤ R.cells ∧ slots ≤ R.slots) (hdg : decode cc pc = .ok (.invokevirtual idx, 3))
    (kk : ∀ r : Int32, post r → W p l e R s m args below meth c H locs cells slots Q (F0 m (pc + 3) ls (.int r :: rest))) : W p l e R s m args below meth c H locs cells slots Q (F0 m pc ls st0) :=
  vp_callSi (va_runV S hM (cvW S hl hR) (mprev hK hP hk hg hc) rfl hn hsz hst (lv_room hW) hdg hf).run kk
theorem kVl {post : Int64 → Prop} (S : CallFix p m c cc nL s args wsL_law own) (hK : va_K D vwCl (tyv cy) s) (hP : MM D ad N g H) (hM : Met l y (WS y b maxL ret) (rmF f lo) (PP (.ref (ad k) :: As) D cy ad N g) (vp_Sl post) 0 0 (fun _ => False)) (hl : CV own idx C y b maxL ret n) (hk : k < N) (hg : g k = .inr (ci, fs)) (hc : ∃ T NF, vwCl[ci]? = some (C, T, NF)) (hR : CR R f lo maxL) (hn : As.length = n) (hsz : ls.size = nL) (hst : st0 = As.reverse ++ .ref (ad k) :: rest) (hW : (rest.map fun v => v.category).sum ≤ 8) (hf : cells ≤ R.cells ∧ slots ≤ R.slots) (hdg : decode cc pc = .ok (.invokevirtual idx, 3))
    (kk : ∀ r : Int64, post r → W p l e R s m args below meth c H locs cells slots Q (F0 m (pc + 3) ls (.long r :: rest))) : W p l e R s m args below meth c H locs cells slots Q (F0 m pc ls st0) :=
  vp_callSl (va_runV S hM (cvW S hl hR) (mprev hK hP hk hg hc) rfl hn hsz hst (lv_room hW) hdg hf).run kk
theorem kSi {post : Int32 → Prop} (S : CallFix p m c cc nL s args wsL_law own) (hK : va_K D vwCl (tyv cy) s) (hP : MM D ad N g H) (hM : Met l y (WS y b maxL ret) (rmF f lo) (PP As D cy ad N g) (vp_Si post) 0 0 (fun _ => False)) (hl : CS own idx y b maxL ret n) (hR : CR R f lo maxL) (hn : As.length = n) (hsz : ls.size = nL) (hst : st0 = As.reverse ++ rest) (hW : (rest.map fun v => v.category).sum ≤ 8) (hf : cells ≤ R.cells ∧ slots ≤ R.slots) (hdg : decode cc pc = .ok (.invokestatic idx, 3))
    (kk : ∀ r : Int32, post r → W p l e R s m args below meth c H locs cells slots Q (F0 m (pc + 3) ls (.int r :: rest))) : W p l e R s m args below meth c H locs cells slots Q (F0 m pc ls st0) :=
  vp_callSi (va_runS S hM (csB S hl hR) (mpres hK hP) rfl hn hsz hst (lv_room hW) hdg hf).run kk
/-- a call that changes the memory, int -/
theorem kMi {post : Int32 → (Nat → va_E) → Prop} (S : CallFix p m c cc nL s args wsL_law own) (hK : va_K D vwCl (tyv cy) s) (hP : MM D ad N g H) (hS : va_S A H0 H locs) (hA : ∀ q, AA ad N q → A q) (hM : Met l y (WS y b maxL ret) (rmF f lo) (PP (.ref (ad k) :: As) D cy ad N g) (QI post D ad N) 0 0 (AA ad N)) (hl : CV own idx C y b maxL ret n) (hk : k < N) (hg : g k = .inr (ci, fs)) (hc : ∃ T NF, vwCl[ci]? = some (C, T, NF)) (hR : CR R f lo maxL) (hn : As.length = n) (hsz : ls.size = nL) (hst : st0 = As.reverse ++ .ref (ad k) :: rest) (hW : (rest.map fun v => v.category).sum ≤ 8) (hf : cells ≤ R.cells ∧ slots ≤ R.slots) (hdg : decode cc pc = .ok (.invokevirtual idx, 3))
    (kk : ∀ (r : Int32) (g1 : Nat → va_E) (H1 : Heap) (locs1 : List Loc), post r g1 → MM D ad N g1 H1 → va_S A H0 H1 locs1 → W p l e R s m args below meth c H1 locs1 cells slots Q (F0 m (pc + 3) ls (.int r :: rest))) : W p l e R s m args below meth c H locs cells slots Q (F0 m pc ls st0) :=
  va_calli (va_runV S hM (cvW S hl hR) (mprev hK hP hk hg hc) rfl hn hsz hst (lv_room hW) hdg hf) hS (fun q _ h => hA q h) hA (fun r u t H1 locs1 ht _ hp hB _ _ hS1 => kk r u H1 locs1 hp (by rw [← ht]; exact hB) hS1)
theorem kMv {post : (Nat → va_E) → Prop} (S : CallFix p m c cc nL s args wsL_law own) (hK : va_K D vwCl (tyv cy) s) (hP : MM D ad N g H) (hS : va_S A H0 H locs) (hA : ∀ q, AA ad N q → A q) (hM : Met l y (WS y b maxL ret) (rmF f lo) (PP (.ref (ad k) :: As) D cy ad N g) (QV post D ad N) 0 0 (AA ad N)) (hl : CV own idx C y b maxL ret n) (hk : k < N) (hg : g k = .inr (ci, fs)) (hc : ∃ T NF, vwCl[ci]? = some (C, T, NF)) (hR : CR R f lo maxL) (hn : As.length = n) (hsz : ls.size = nL) (hst : st0 = As.reverse ++ .ref (ad k) :: rest) (hW : (rest.map fun v => v.category).sum ≤ 8) (hf : cells ≤ R.cells ∧ slots ≤ R.slots) (hdg : decode cc pc = .ok (.invokevirtual idx, 3))
    (kk : ∀ (g1 : Nat → va_E) (H1 : Heap) (locs1 : List Loc), post g1 → MM D ad N g1 H1 → va_S A H0 H1 locs1 → W p l e R s m args below meth c H1 locs1 cells slots Q (F0 m (pc + 3) ls rest)) : W p l e R s m args below meth c H locs cells slots Q (F0 m pc ls st0) :=
  va_callv (va_runV S hM (cvW S hl hR) (mprev hK hP hk hg hc) rfl hn hsz hst (lv_room hW) hdg hf) hS (fun q _ h => hA q h) hA (fun u t H1 locs1 ht _ hp hB _ _ hS1 => kk u H1 locs1 hp (by rw [← ht]; exact hB) hS1)
end
-- ends
theorem rSi {post : Int32 → Prop} {v : Int32} (S : CallFix p m c cc nL s args wsL_law own) (hr : meth.sig.returnType = some .int) (hlk : meth.locks = false) (hp : post v) (hdg : decode cc pc = .ok (.ireturn, 1)) : W p l e R s m args below meth c s.heap [] cells slots (MQ below (vp_Si post) args s cells slots (fun _ => False)) (F0 m pc ls [.int v]) :=
  W.iret S.1 S.2.1 hr (fun t ht _ => ⟨v, rfl, hp, ht⟩) (fun q h => by cases h) hdg hlk
theorem rSz {post : Int32 → Prop} {v : Int32} (S : CallFix p m c cc nL s args wsL_law own) (hr : meth.sig.returnType = some .boolean) (hlk : meth.locks = false) (hn : v = 0 ∨ v = 1) (hp : post v) (hdg : decode cc pc = .ok (.ireturn, 1)) : W p l e R s m args below meth c s.heap [] cells slots (MQ below (vp_Si post) args s cells slots (fun _ => False)) (F0 m pc ls [.int v]) :=
  W.zret S.1 S.2.1 hr (by rcases hn with rfl | rfl <;> rfl) (fun t ht _ => ⟨v, rfl, hp, ht⟩) (fun q h => by cases h) hdg hlk
theorem rSl {post : Int64 → Prop} {v : Int64} (S : CallFix p m c cc nL s args wsL_law own) (hr : meth.sig.returnType = some .long) (hlk : meth.locks = false) (hp : post v) (hdg : decode cc pc = .ok (.lreturn, 1)) : W p l e R s m args below meth c s.heap [] cells slots (MQ below (vp_Sl post) args s cells slots (fun _ => False)) (F0 m pc ls [.long v]) :=
  W.lret S.1 S.2.1 hr (fun t ht _ => ⟨v, rfl, hp, ht⟩) (fun q h => by cases h) hdg hlk
theorem rMi {post : Int32 → (Nat → va_E) → Prop} {v : Int32} (S : CallFix p m c cc nL s args wsL_law own) (hr : meth.sig.returnType = some .int) (hlk : meth.locks = false) (hP : MM D ad N g H) (hS : va_S (AA ad N) s.heap H locs) (hp : post v g) (hdg : decode cc pc = .ok (.ireturn, 1)) : W p l e R s m args below meth c H locs cells slots (MQ below (QI post D ad N) args s cells slots (AA ad N)) (F0 m pc ls [.int v]) :=
  W.iret S.1 S.2.1 hr (fun t ht _ => ⟨⟨v, g, rfl, hp, by subst ht; exact hP⟩, hS.F ht⟩) hS.2.2 hdg hlk
theorem rMz {post : Int32 → (Nat → va_E) → Prop} {v : Int32} (S : CallFix p m c cc nL s args wsL_law own) (hr : meth.sig.returnType = some .boolean) (hlk : meth.locks = false) (hn : v = 0 ∨ v = 1) (hP : MM D ad N g H) (hS : va_S (AA ad N) s.heap H locs) (hp : post v g) (hdg : decode cc pc = .ok (.ireturn, 1)) : W p l e R s m args below meth c H locs cells slots (MQ below (QI post D ad N) args s cells slots (AA ad N)) (F0 m pc ls [.int v]) :=
  W.zret S.1 S.2.1 hr (by rcases hn with rfl | rfl <;> rfl) (fun t ht _ => ⟨⟨v, g, rfl, hp, by subst ht; exact hP⟩, hS.F ht⟩) hS.2.2 hdg hlk
theorem rMv {post : (Nat → va_E) → Prop} (S : CallFix p m c cc nL s args wsL_law own) (hr : meth.sig.returnType = none) (hlk : meth.locks = false) (hP : MM D ad N g H) (hS : va_S (AA ad N) s.heap H locs) (hp : post g) (hdg : decode cc pc = .ok (.return_, 1)) : W p l e R s m args below meth c H locs cells slots (MQ below (QV post D ad N) args s cells slots (AA ad N)) (F0 m pc ls []) :=
  W.vret S.1 S.2.1 hr (fun t ht _ => ⟨⟨g, rfl, hp, by subst ht; exact hP⟩, hS.F ht⟩) hS.2.2 hdg hlk
end MEM
-- numbers
theorem z_eq {a : Nat} (h : a < 2 ^ 31) : nI a = 0 ↔ a = 0 := by
  rw [← nI_0]; exact nI_eq h (by omega)
theorem z_lt {a : Nat} (h : a < 2 ^ 31) : nI a < 0 ↔ False := by
  rw [← nI_0, nI_ltI h (by omega)]; exact ⟨fun q => absurd q (Nat.not_lt_zero _), fun q => q.elim⟩
theorem z_ge {a : Nat} (h : a < 2 ^ 31) : 0 ≤ nI a ↔ True := by
  rw [← nI_0, nI_leI (by omega) h]; simp
theorem z_gt {a : Nat} (h : a < 2 ^ 31) : 0 < nI a ↔ 0 < a := by
  rw [← nI_0, nI_ltI (by omega) h]
theorem z_le {a : Nat} (h : a < 2 ^ 31) : nI a ≤ 0 ↔ a = 0 := by
  rw [← nI_0, nI_leI h (by omega)]; omega
theorem nI_dec {a : Nat} (h : 0 < a) : nI a + Int32.ofInt (-1) = nI (a - 1) := by
  obtain ⟨b, rfl⟩ : ∃ b, a = b + 1 := ⟨a - 1, by omega⟩
  exact pk_m1 b
theorem nz_01 {v : Int32} (h : v = 0 ∨ v = 1) : narrow .boolean (.int v) = .int v := by rcases h with rfl | rfl <;> rfl
theorem fz_01 {v : Int32} (h : v = 0 ∨ v = 1) : fits .boolean (.int v) = true := by rcases h with rfl | rfl <;> rfl
theorem arrI_up {c : ClassId} {n a : Nat} {f : Nat → Int32} {x : Int32} (h : a < 2 ^ 31) : (Sum.inl (c, n, Sum.inl (upd f (nI a).toNatClampNeg x)) : va_E) = .inl (c, n, .inl (upd f a x)) := by rw [nI_clamp h]
theorem arrL_up {c : ClassId} {n a : Nat} {f : Nat → Int64} {x : Int64} (h : a < 2 ^ 31) : (Sum.inl (c, n, Sum.inr (Sum.inl (vp_updL f (nI a).toNatClampNeg x))) : va_E) = .inl (c, n, .inr (.inl (vp_updL f a x))) := by rw [nI_clamp h]
theorem arrN_up {c : ClassId} {n a v : Nat} {F : Nat → Nat} (h : a < 2 ^ 31) : (Sum.inl (c, n, Sum.inl (upd (fun i => nI (F i)) (nI a).toNatClampNeg (nI v))) : va_E) = .inl (c, n, .inl (fun i => nI (va_up F a v i))) := by
  rw [nI_clamp h]
  congr 3
  congr 1
  funext j
  by_cases e : j = a
  · subst e; simp [upd, va_up]
  · simp [upd, va_up, e]
theorem b01 (P : Prop) [Decidable P] : (if P then (1 : Int32) else 0) = 0 ∨ (if P then (1 : Int32) else 0) = 1 := by
  by_cases h : P
  · exact Or.inr (if_pos h)
  · exact Or.inl (if_neg h)
theorem bz_eq {P : Prop} [Decidable P] : (if P then (1 : Int32) else 0) = 0 ↔ ¬ P := by
  by_cases h : P
  · simp [h]
  · simp [h]


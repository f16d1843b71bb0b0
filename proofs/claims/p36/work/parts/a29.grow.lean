-- a world that grows: cell i lies at ad i = base + i, in the order of making
theorem up_same {α : Type} (f : Nat → α) (k : Nat) : va_up f k (f k) = f := by
  funext j
  unfold va_up
  split
  · rename_i h; rw [h]
  · rfl
theorem wl_app {ad : Nat → Nat} {N : Nat} {g : Nat → va_E} {x : va_E} : wl ad N g ++ [(ad N, x)] = wl ad (N + 1) (va_up g N x) := by
  have h := wl_push (ad := ad) (N := N) (g := g) (a := ad N) (e := x)
  rw [up_same] at h
  exact h
/-- the array class of a type is one -/
theorem ra_one {U : State} {a b : ClassId} {ty : FieldType} (h : va_RA U a ty) (h2 : va_RA U b ty) : a = b := by
  cases ty with
  | object C =>
    obtain ⟨_, _, _, _, _, h⟩ := h
    obtain ⟨_, _, _, _, _, h2⟩ := h2
    exact Option.some.inj (h.symm.trans h2)
  | _ =>
    have h : U.vm.findClass _ = some a := h
    have h2 : U.vm.findClass _ = some b := h2
    exact Option.some.inj (h.symm.trans h2)
section GROW
variable {p : Program} {l : Launch} {e : Env} {R : Room} {s : State} {m : MethodId} {args : Array Value} {below : List Frame} {meth : Method} {c : Code} {H : Heap} {locs : List Loc} {cells slots : Nat} {Q : State → Prop}
variable {cc : ByteArray} {pc nL : Nat} {ls : Array Slot} {rest st0 : List Value} {D : va_G} {cy : Nat → ClassId} {A : Nat → Prop} {H0 : Heap} {ad : Nat → Nat} {N : Nat} {g : Nat → va_E} {own : String}
/-- one cell more, at the heap's end -/
theorem MM.more {H1 : Heap} {x : va_E} (hP : MM D ad N g H) (hI : MD A ad N) (hS : va_S A H0 H locs) (hA : ∀ q, H0.size ≤ q → A q) (hz : ad N = H.size) (z1 : H1.size = H.size + 1) (o1 : ∀ q : Nat, q < H.size → H1[q]? = H[q]?) (hx : va_at D vwCl (ad N, x) H1) :
    MM D ad (N + 1) (va_up g N x) H1 ∧ MD A ad (N + 1) ∧ va_S A H0 H1 locs := by
  have hk : ∀ (k : Nat) (y : Nat × va_E), (wl ad N g)[k]? = some y → H1[y.1]? = H[y.1]? := fun k y hy => o1 y.1 ((hP k y hy).lt)
  have h1 : va_P D vwCl (wl ad N g ++ [(ad N, x)]) H1 := (va_P.kept hP hk).app (fun k y hy => by
    have hz : k < 1 := (List.getElem?_eq_some_iff.mp hy).1
    rw [show k = 0 by omega] at hy
    cases hy
    exact hx)
  have h2 : va_D A (wl ad N g ++ [(ad N, x)]) := va_D.push (hI.D g) hP hz (hA _ (by rw [hz]; exact hS.1))
  rw [wl_app] at h1 h2
  exact ⟨h1, MD.of h2, ⟨Nat.le_trans hS.1 (by omega), fun q a b => (o1 q (Nat.lt_of_lt_of_le a hS.1)).trans (hS.2.1 q a b), hS.2.2⟩⟩
/-- new: an object of our class ci -/
theorem gnew (S : CallFix p m c cc nL s args wsL_law own) (hK : va_K D vwCl (tyv cy) s) (hP : MM D ad N g H) (hI : MD A ad N) (hS : va_S A H0 H locs) (hA : ∀ q, H0.size ≤ q → A q) (hz : ad N = H.size) {ci NF idx : Nat} {C : String} {T : u_T} {ty : Nat → FieldType} {fs : List Value} (hc : vwCl[ci]? = some (C, T, NF)) (hin : ∀ w ∈ u_ws C T NF, w ∈ wsL_law) (hty : ∀ k, k < NF → parseFieldDescriptor (T k).2.2.1 = some (ty k))
    (hcl : Cond.classLink own idx C ∈ wsL_law) (hinst : Cond.instantiable C NF ∈ wsL_law) (hini : Cond.initialized C ∈ wsL_law) (hfs : ∀ j, j < NF → defaultValue (ty j) = vp_V fs j) (hcells : cells + 1 ≤ R.cells) (hslots : slots + NF ≤ R.slots) (hdg : decode cc pc = .ok (.new idx, 3))
    (kk : ∀ (g1 : Nat → va_E) (H1 : Heap), g1 = va_up g N (.inr (ci, fs)) → MM D ad (N + 1) g1 H1 → MD A ad (N + 1) → va_S A H0 H1 locs → H1.size = H.size + 1 →
      W p l e R s m args below meth c H1 locs (cells + 1) (slots + NF) Q (F0 m (pc + 3) ls (.ref (ad N) :: rest))) : W p l e R s m args below meth c H locs cells slots Q (F0 m pc ls rest) := by
  obtain ⟨hx, hb, hml, hown, hts⟩ := S
  have hKn := hK.1 ci _ hc
  refine W.newcK hx hb hown (hts _ hcl) (hts _ hinst) (hts _ hini) rfl hdg hcells hslots hKn.2.1 hz.symm fun H1 kC hkC e1 z1 o1 => ?_
  obtain ⟨h1, h2, h3⟩ := MM.more (H1 := H1) (x := .inr (ci, fs)) hP hI hS hA hz (by rw [z1, hz]) (fun q hq => o1 q (by rw [hz]; exact hq)) ⟨_, hc, (u_born ty hts hin hKn hkC e1 hty).to hfs⟩
  exact kk _ H1 rfl h1 h2 h3 (by rw [z1, hz])
/-- newarray -/
theorem gnewa (S : CallFix p m c cc nL s args wsL_law own) (hK : va_K D vwCl (tyv cy) s) (hP : MM D ad N g H) (hI : MD A ad N) (hS : va_S A H0 H locs) (hA : ∀ q, H0.size ≤ q → A q) (hz : ad N = H.size) {atype : ArrayType} {t n0 : Nat} {n : Int32} {a0 : vp_A} (harr : Cond.arrayClass (newarray.typeOf atype) ∈ wsL_law) (ht : (tyv cy)[t]? = some (cy t, newarray.typeOf atype)) (ha : ∀ cA : ClassId, vp_cell cA a0 = arrV cA n0 (fun _ => defaultValue (newarray.typeOf atype)))
    (hn : ¬ n < 0) (hN : n.toNatClampNeg = n0) (hbytes : n0 * componentBytes (newarray.typeOf atype) ≤ 536870912) (hcells : cells + 1 ≤ R.cells) (hslots : slots + n0 ≤ R.slots) (hdg : decode cc pc = .ok (.newarray atype, 2))
    (kk : ∀ (g1 : Nat → va_E) (H1 : Heap), g1 = va_up g N (.inl (cy t, a0)) → MM D ad (N + 1) g1 H1 → MD A ad (N + 1) → va_S A H0 H1 locs → H1.size = H.size + 1 →
      W p l e R s m args below meth c H1 locs (cells + 1) (slots + n0) Q (F0 m (pc + 2) ls (.ref (ad N) :: rest))) : W p l e R s m args below meth c H locs cells slots Q (F0 m pc ls (.int n :: rest)) := by
  obtain ⟨hx, hb, hml, hown, hts⟩ := S
  refine va_newaK hx hb (hts _ harr) rfl hdg rfl hn hN hbytes hcells hslots hz.symm fun H1 cA e1 z1 o1 hAr hNm => ?_
  have hcA : cA = cy t := by
    refine ra_one (U := s) (ty := newarray.typeOf atype) ?_ (hK.2 t _ ht).2
    cases atype <;> exact hNm
  subst hcA
  obtain ⟨h1, h2, h3⟩ := MM.more (H1 := H1) (x := .inl (cy t, a0)) hP hI hS hA hz (by rw [z1, hz]) (fun q hq => o1 q (by rw [hz]; exact hq)) (by
    show H1[ad N]? = some (vp_cell _ _)
    rw [ha]
    exact e1)
  exact kk _ H1 rfl h1 h2 h3 (by rw [z1, hz])
end GROW

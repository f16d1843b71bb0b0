section GROWQ
variable {p : Program} {l : Launch} {e : Env} {R : Room} {s : State} {m : MethodId} {args : Array Value} {below : List Frame} {meth : Method} {c : Code} {H : Heap} {locs : List Loc} {cells slots : Nat} {Q : State → Prop}
variable {cc : ByteArray} {pc nL : Nat} {ls : Array Slot} {rest st0 : List Value} {D : va_G} {cy : Nat → ClassId} {A : Nat → Prop} {H0 : Heap} {ad : Nat → Nat} {N : Nat} {g : Nat → va_E} {own : String}
/-- anewarray, of objects of a class -/
theorem gnewq (S : CallFix p m c cc nL s args wsL_law own) (hK : va_K D vwCl (tyv cy) s) (hP : MM D ad N g H) (hI : MD A ad N) (hS : va_S A H0 H locs) (hA : ∀ q, H0.size ≤ q → A q) (hz : ad N = H.size) {idx t n0 : Nat} {C : String} {n : Int32} (hcl : Cond.classLink own idx C ∈ wsL_law) (hover : va_AO C s) (ht : (tyv cy)[t]? = some (cy t, .object C))
    (hn : ¬ n < 0) (hN : n.toNatClampNeg = n0) (hbytes : n0 * 4 ≤ 536870912) (hcells : cells + 1 ≤ R.cells) (hslots : slots + n0 ≤ R.slots) (hdg : decode cc pc = .ok (.anewarray idx, 3))
    (kk : ∀ (g1 : Nat → va_E) (H1 : Heap), g1 = va_up g N (.inl (cy t, n0, .inr (.inr (.inr (.inr (fun _ => none)))))) → MM D ad (N + 1) g1 H1 → MD A ad (N + 1) → va_S A H0 H1 locs → H1.size = H.size + 1 →
      W p l e R s m args below meth c H1 locs (cells + 1) (slots + n0) Q (F0 m (pc + 3) ls (.ref (ad N) :: rest))) : W p l e R s m args below meth c H locs cells slots Q (F0 m pc ls (.int n :: rest)) := by
  obtain ⟨hx, hb, hml, hown, hts⟩ := S
  subst hN
  refine W.anew hx hb hown (hts _ hcl) (va_AO.use hover) rfl hdg rfl hn hbytes hcells hslots fun cA kA comp f1 f2 f3 f4 => ?_
  have hcA : cA = cy t := by
    obtain ⟨_, _, _, _, _, h6⟩ := (hK.2 t _ ht).2
    exact Option.some.inj (f1.symm.trans h6)
  subst hcA
  generalize hH1 : H.push ({ cls := cy t, slots := Array.replicate n.toNatClampNeg .null, vm := .none } : Cell) = H1
  have z1 : H1.size = H.size + 1 := by rw [← hH1, Array.size_push]
  have o1 : ∀ q : Nat, q < H.size → H1[q]? = H[q]? := fun q hq => by rw [← hH1, Array.getElem?_push, if_neg (Nat.ne_of_lt hq)]
  have e1 : H1[H.size]? = some (arrV (cy t) n.toNatClampNeg (fun _ => .null)) := by rw [← hH1, Array.getElem?_push_size, ← arrV_new]
  obtain ⟨h1, h2, h3⟩ := MM.more (H1 := H1) (x := .inl (cy t, n.toNatClampNeg, .inr (.inr (.inr (.inr (fun _ => none)))))) hP hI hS hA hz z1 o1 (by
    show H1[ad N]? = some (vp_cell _ _)
    rw [hz]
    exact e1)
  rw [← hz]
  exact kk _ H1 rfl h1 h2 h3 z1
/-- aastore of an object -/
theorem gast (S : CallFix p m c cc nL s args wsL_law own) (hK : va_K D vwCl (tyv cy) s) (hP : MM D ad N g H) (hI : MD A ad N) (hS : va_S A H0 H locs) {k kv ci n t NF : Nat} {C : String} {T : u_T} {fs : List Value} {f : Nat → Option Nat} {i : Int32} (hk : k < N) (hg : g k = .inl (cy t, n, .inr (.inr (.inr (.inr f))))) (ht : (tyv cy)[t]? = some (cy t, .object C)) (hkv : kv < N) (hgv : g kv = .inr (ci, fs)) (hc : vwCl[ci]? = some (C, T, NF)) (hin : vp_in i n) (hdg : decode cc pc = .ok (.aastore, 1))
    (kk : ∀ (g1 : Nat → va_E) (H1 : Heap) (locs1 : List Loc), g1 = va_up g k (.inl (cy t, n, .inr (.inr (.inr (.inr (va_up f i.toNatClampNeg (some (ad kv)))))))) → MM D ad N g1 H1 → va_S A H0 H1 locs1 → W p l e R s m args below meth c H1 locs1 cells slots Q (F0 m (pc + 1) ls rest)) : W p l e R s m args below meth c H locs cells slots Q (F0 m pc ls (.ref (ad kv) :: .int i :: .ref (ad k) :: rest)) :=
  va_astq S.1 S.2.1 hK hP (hI.D g) hS k t kv ci (by rw [wl_get hk, hg]) ht (by rw [wl_get hkv, hgv]) hc hin hdg (fun H1 locs1 hP1 _ hS1 => kk _ H1 locs1 rfl (by rw [wl_set hk] at hP1; exact hP1) hS1)
end GROWQ

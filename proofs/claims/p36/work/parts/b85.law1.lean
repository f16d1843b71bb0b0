-- the law: words (the head is of the kit's starting text)
/-! THE CLAIM OUT OF ONE WALK OF THE LAW'S BODY. Your part is whole_start (and what it stands on); all else here is the same for every law, but numbers. -/
def R_law : String := "BladeRingLaw"
def lw_P (b : Addr) (xs : List Int32) (args : Array Value) (s : State) : Prop := args = #[.ref b] ∧ s.IntsAt b xs ∧ xs.length ≤ 260 ∧ (Jvm.Cond.and given_1 narrow_1).before args s = true
def lw_Q (_ : Array Value) (s : State) (o : Outcome) (t : State) : Prop := o = .returned (some (.int 1)) ∧ Framed s o t [] 600000 7302250
def lw_Z (below : List Frame) (a : Array Value) (s : State) : State → Prop := fun t => ∃ o, t.status = .running ∧ Ended t below o ∧ lw_Q a s o t
/-- the law's own end, with 1 on the stack, nothing written that was there before, its room as the claim has it -/
theorem lw_ret {p : Program} {l : Launch} {e : Env} {s : State} {m : MethodId} {below : List Frame} {meth : Method} {c : Code} {b : Nat} (hx : p.tables.exec = Jvm.exec) (hb : c.code = code) (hr : meth.sig.returnType = ret) (hlocks : meth.locks = false) {pc : Nat} {H : Heap} {ls : Array Slot} (hdg : decode code pc = .ok (.ireturn, 1)) : W p l e room_1 s m #[Value.ref b] below meth c H [] 600000 7302250 (lw_Z below #[Value.ref b] s) (F0 m pc ls [.int 1]) := by
  intro T hT X
  obtain ⟨fs, hret, hrun, hended, hW, hframe⟩ := X.leave (v := some (.int 1)) (hlocks := hlocks) (fun h => by rw [hr] at h; cases h)
  have hmeth' : T.vm.method? m = some meth := X.method'
  refine ⟨T.setFrames fs, ?_, .returned (some (.int 1)), hrun, hended, rfl, ⟨_, rfl⟩, hW, hframe⟩
  jvm_step X.here [X.here.top, hx, hb, hdg, hmeth', hr, ret, narrow_b1]
  (try refine ⟨rfl, ?_⟩); (try refine ⟨rfl, ?_⟩)
  first | (intro acts; rw [hret _ acts rfl rfl rfl]) | rw [hret _ _ rfl rfl rfl]
  exact Steps.refl _
/-- what holds at the law's entry: the machine, the code, the tables' words (any of lw_tbl by 'hts w (by decide +kernel)'), the script of L ints xs at the cell b, what the Statement gives of the start (any of its parts by flat_of_before) -/
def lw_At (p : Program) (s : State) (m : MethodId) (meth : Method) (c : Code) (b L : Nat) (xs : Nat → Int32) : Prop :=
  p.tables.exec = Jvm.exec ∧ c.code = code ∧ meth.sig.returnType = ret ∧ c.maxLocals = 21 ∧ s.vm.findClass R_law = some m.cls ∧ (∀ w ∈ lw_tbl, w.before #[Value.ref b] s = true) ∧ va_X b L xs s s.heap ∧ b < s.heap.size ∧ meth.locks = false ∧ (Jvm.Cond.and given_1 narrow_1).before #[Value.ref b] s = true
theorem va_T_congr {ty : FieldType} {t N : Nat} {f f2 : Nat → Value} {A : Nat → Prop} {U : State} {H : Heap} (h : va_T ty t N f A U H) (e : ∀ j, j < N → f j = f2 j) : va_T ty t N f2 A U H := by
  obtain ⟨cell, h1, h2, h3, h4, h5, h6, h7⟩ := h
  exact ⟨cell, h1, h2, h3, h4, h5, fun j hj => (h6 j hj).trans (congrArg some (e j hj)), h7⟩
theorem wt_1 {w : Cond} {i : Nat} (hi : tables_1_1[i]? = some w) : w ∈ lw_tbl := by have h := List.mem_of_getElem? hi; exact List.mem_append_right _ (List.mem_append_left _ h)
theorem wt_2 {w : Cond} {i : Nat} (hi : tables_1_2[i]? = some w) : w ∈ lw_tbl := by have h := List.mem_of_getElem? hi; exact List.mem_append_right _ (List.mem_append_right _ (List.mem_append_left _ h))
theorem wt_3 {w : Cond} {i : Nat} (hi : tables_1_3[i]? = some w) : w ∈ lw_tbl := by have h := List.mem_of_getElem? hi; exact List.mem_append_right _ (List.mem_append_right _ (List.mem_append_right _ (List.mem_append_left _ h)))
theorem wt_4 {w : Cond} {i : Nat} (hi : tables_1_4[i]? = some w) : w ∈ lw_tbl := by have h := List.mem_of_getElem? hi; exact List.mem_append_right _ (List.mem_append_right _ (List.mem_append_right _ (List.mem_append_right _ (h))))
section START
variable {p : Program} {l : Launch} {e : Env} {s : State} {m : MethodId} {args : Array Value} {below : List Frame} {meth : Method} {c : Code}
/-- an array of a primitive type, by its word -/
theorem arr_p {t : FieldType} {A : Nat → Prop} (h : (Cond.arrayClass t).before args s = true) : ∃ cA : ClassId, ArrOfT s cA t ∧ s.vm.findClass ("[" ++ t.toString) = some cA := by
  obtain ⟨cA, kA, comp, h1, h2, h3⟩ := Cond.arrayClass_spec h
  exact ⟨cA, fun n z => ⟨fun k h => (by cases h), kA, h2, comp, h3⟩, h1⟩
theorem arr_o {C : String} (h : (Cond.arrayOver (.object C)).before args s = true) : ∃ cA : ClassId, ArrOfT s cA (.object C) ∧ va_RA s cA (.object C) := by
  obtain ⟨comp, cA, kA, h1, -, h3, h4, h5⟩ := Cond.arrayOver_spec h
  exact ⟨cA, fun n z => ⟨fun k h => (by cases h), kA, h3, comp, h4⟩, kA, comp, h3, h4, h1, h5⟩
theorem arr_a (h : (Cond.arrayOver (.array .int)).before args s = true) : ∃ cA : ClassId, ArrOfT s cA (.array .int) ∧ va_RA s cA (.array .int) := by
  obtain ⟨comp, cA, kA, h1, -, h3, h4, h5⟩ := arrayOverA_spec h
  exact ⟨cA, fun n z => ⟨fun k h => (by cases h), kA, h3, comp, h4⟩, h5⟩
theorem law_D (hts : ∀ w ∈ lw_tbl, w.before args s = true) : ∃ D : va_G, ∀ (k : Nat) (q : vw_C), vwCl[k]? = some q → u_Kn s q.1 q.2.1 q.2.2 (D.1 k) (D.2 k) := by
  have ht : ∀ w ∈ wsL_law, w.before args s = true := fun w hw => hts w (wsL_law_in w hw)
  have h : ∀ k : Nat, ∃ (cC : ClassId) (iS : Nat → Nat), ∀ q : vw_C, vwCl[k]? = some q → u_Kn s q.1 q.2.1 q.2.2 cC iS := by
    intro k
    rcases (show k = 0 ∨ k = 1 ∨ k = 2 ∨ k = 3 ∨ k = 4 ∨ k = 5 ∨ k = 6 ∨ k = 7 ∨ k = 8 ∨ k = 9 ∨ 10 ≤ k by omega) with rfl | rfl | rfl | rfl | rfl | rfl | rfl | rfl | rfl | rfl | h11
    · obtain ⟨cC, iS, z⟩ := u_known ht inlX0 (ht _ mj_RX0)
      exact ⟨cC, iS, fun q hq => by cases hq; exact z⟩
    · obtain ⟨cC, iS, z⟩ := u_known ht inlX1 (ht _ mj_RX1)
      exact ⟨cC, iS, fun q hq => by cases hq; exact z⟩
    · obtain ⟨cC, iS, z⟩ := u_known ht inlX2 (ht _ mj_RX2)
      exact ⟨cC, iS, fun q hq => by cases hq; exact z⟩
    · obtain ⟨cC, iS, z⟩ := u_known ht inlX3 (ht _ mj_RX3)
      exact ⟨cC, iS, fun q hq => by cases hq; exact z⟩
    · obtain ⟨cC, iS, z⟩ := u_known ht inlX4 (ht _ mj_RX4)
      exact ⟨cC, iS, fun q hq => by cases hq; exact z⟩
    · obtain ⟨cC, iS, z⟩ := u_known ht inlX5 (ht _ mj_RX5)
      exact ⟨cC, iS, fun q hq => by cases hq; exact z⟩
    · obtain ⟨cC, iS, z⟩ := u_known ht inlX6 (ht _ mj_RX6)
      exact ⟨cC, iS, fun q hq => by cases hq; exact z⟩
    · obtain ⟨cC, iS, z⟩ := u_known ht inlX7 (ht _ mj_RX7)
      exact ⟨cC, iS, fun q hq => by cases hq; exact z⟩
    · obtain ⟨cC, iS, z⟩ := u_known ht inlX8 (ht _ mj_RX8)
      exact ⟨cC, iS, fun q hq => by cases hq; exact z⟩
    · obtain ⟨cC, iS, z⟩ := u_known ht inlX9 (ht _ mj_RX9)
      exact ⟨cC, iS, fun q hq => by cases hq; exact z⟩
    · refine ⟨0, fun _ => 0, fun q hq => ?_⟩
      rw [List.getElem?_eq_none (show vwCl.length ≤ k from h11)] at hq
      cases hq
  obtain ⟨f, hf⟩ := Classical.skolem.mp h
  obtain ⟨f2, hf2⟩ := Classical.skolem.mp hf
  exact ⟨(f, f2), hf2⟩
theorem law_K (hts : ∀ w ∈ lw_tbl, w.before args s = true) : ∃ (D : va_G) (cy : Nat → ClassId), va_K D vwCl (tyv cy) s := by
  have ht : ∀ w ∈ wsL_law, w.before args s = true := fun w hw => hts w (wsL_law_in w hw)
  obtain ⟨D, hD⟩ := law_D hts
  obtain ⟨c0, a0, b0⟩ := arr_p (A := fun _ => True) (ht _ ma_byte)
  obtain ⟨c1, a1, b1⟩ := arr_p (A := fun _ => True) (ht _ ma_int)
  obtain ⟨c2, a2, b2⟩ := arr_p (A := fun _ => True) (ht _ ma_long)
  obtain ⟨c3, a3, b3⟩ := arr_o (C := RX0) (hts _ (wt_1 (i := 227) (by decide +kernel)))
  obtain ⟨c4, a4, b4⟩ := arr_o (C := RX4) (hts _ (wt_2 (i := 22) (by decide +kernel)))
  obtain ⟨c5, a5, b5⟩ := arr_o (C := RX7) (hts _ (wt_1 (i := 229) (by decide +kernel)))
  obtain ⟨c6, a6, b6⟩ := arr_o (C := RX8) (hts _ (wt_1 (i := 68) (by decide +kernel)))
  obtain ⟨c7, a7, b7⟩ := arr_a (hts _ (wt_1 (i := 237) (by decide +kernel)))
  refine ⟨D, fun k => match k with | 0 => c0 | 1 => c1 | 2 => c2 | 3 => c3 | 4 => c4 | 5 => c5 | 6 => c6 | _ => c7, hD, fun k q hq => ?_⟩
  rcases (show k = 0 ∨ k = 1 ∨ k = 2 ∨ k = 3 ∨ k = 4 ∨ k = 5 ∨ k = 6 ∨ k = 7 ∨ 8 ≤ k by omega) with rfl | rfl | rfl | rfl | rfl | rfl | rfl | rfl | h8
  · cases hq; exact ⟨a0, b0⟩
  · cases hq; exact ⟨a1, b1⟩
  · cases hq; exact ⟨a2, b2⟩
  · cases hq; exact ⟨a3, b3⟩
  · cases hq; exact ⟨a4, b4⟩
  · cases hq; exact ⟨a5, b5⟩
  · cases hq; exact ⟨a6, b6⟩
  · cases hq; exact ⟨a7, b7⟩
  · rw [List.getElem?_eq_none (show (tyv _).length ≤ k from h8)] at hq
    cases hq
theorem law_N (hts : ∀ w ∈ lw_tbl, w.before args s = true) : NX s := by
  refine ⟨⟨fun q hq => ?_, va_AG.of (hts _ (wt_1 (i := 237) (by decide +kernel)))⟩, fun C hC => ?_⟩
  · simp only [nestL, List.mem_cons, List.not_mem_nil, or_false] at hq
    rcases hq with rfl | rfl | rfl | rfl | rfl | rfl | rfl | rfl | rfl
    · exact va_Nw.of rfl (hts _ (wt_1 (i := 91) (by decide +kernel)))
    · exact va_Nw.of rfl (hts _ (wt_1 (i := 139) (by decide +kernel)))
    · exact va_Nw.of rfl (hts _ (wt_1 (i := 169) (by decide +kernel)))
    · exact va_Nw.of rfl (hts _ (wt_1 (i := 232) (by decide +kernel)))
    · exact va_Nw.of rfl (hts _ (wt_2 (i := 23) (by decide +kernel)))
    · exact va_Nw.of rfl (hts _ (wt_2 (i := 24) (by decide +kernel)))
    · exact va_Nw.of rfl (hts _ (wt_2 (i := 26) (by decide +kernel)))
    · exact va_Nw.of rfl (hts _ (wt_1 (i := 175) (by decide +kernel)))
    · exact va_Nw.of rfl (hts _ (wt_2 (i := 0) (by decide +kernel)))
  · simp only [List.mem_cons, List.not_mem_nil, or_false] at hC
    rcases hC with rfl | rfl | rfl | rfl
    · exact va_AO.of (hts _ (wt_1 (i := 68) (by decide +kernel)))
    · exact va_AO.of (hts _ (wt_1 (i := 227) (by decide +kernel)))
    · exact va_AO.of (hts _ (wt_1 (i := 229) (by decide +kernel)))
    · exact va_AO.of (hts _ (wt_2 (i := 22) (by decide +kernel)))
theorem law_XF {A : Nat → Prop} (hts : ∀ w ∈ lw_tbl, w.before args s = true) (hgv : (Jvm.Cond.and given_1 narrow_1).before args s = true) (hA : ∀ a : Nat, a < s.heap.size → ¬ A a) : ∃ sq sv, XF A sq sv s s.heap := by
  have hs := flat_of_before _ hgv
  obtain ⟨adK, adV, hS, he⟩ := vk_Sof (args := args) (s := s) (N := 1) (tm := fun _ => .string "BladeRing$Tape" 39) (len := [7]) (byt := [[117, 111, 116, 114, 100, 107, 102]]) (A := A)
    (fun i hi => by obtain rfl : i = 0 := by omega
                    decide)
    (fun i hi => hs _ (by decide +kernel)) (fun i hi => hs _ (by decide +kernel)) (fun i hi => hs _ (by decide +kernel))
    (fun i hi => by obtain rfl : i = 0 := by omega
                    exact hs (Cond.eq (.length (.field (.string "BladeRing$Tape" 39) "java/lang/String" "value" "[B")) (.int 7)) (by decide +kernel))
    (fun i hi j hj => by
      obtain rfl : i = 0 := by omega
      have hj : j < 7 := hj
      rcases (show j = 0 ∨ j = 1 ∨ j = 2 ∨ j = 3 ∨ j = 4 ∨ j = 5 ∨ j = 6 by omega) with rfl | rfl | rfl | rfl | rfl | rfl | rfl
      · exact hs (Cond.eq (.elem (.field (.string "BladeRing$Tape" 39) "java/lang/String" "value" "[B") (.int 0)) (.int 117)) (by decide +kernel)
      · exact hs (Cond.eq (.elem (.field (.string "BladeRing$Tape" 39) "java/lang/String" "value" "[B") (.int 1)) (.int 111)) (by decide +kernel)
      · exact hs (Cond.eq (.elem (.field (.string "BladeRing$Tape" 39) "java/lang/String" "value" "[B") (.int 2)) (.int 116)) (by decide +kernel)
      · exact hs (Cond.eq (.elem (.field (.string "BladeRing$Tape" 39) "java/lang/String" "value" "[B") (.int 3)) (.int 114)) (by decide +kernel)
      · exact hs (Cond.eq (.elem (.field (.string "BladeRing$Tape" 39) "java/lang/String" "value" "[B") (.int 4)) (.int 100)) (by decide +kernel)
      · exact hs (Cond.eq (.elem (.field (.string "BladeRing$Tape" 39) "java/lang/String" "value" "[B") (.int 5)) (.int 107)) (by decide +kernel)
      · exact hs (Cond.eq (.elem (.field (.string "BladeRing$Tape" 39) "java/lang/String" "value" "[B") (.int 6)) (.int 102)) (by decide +kernel))
    (fun i j hi hj hn => absurd (show i = j by omega) hn) hA
  obtain ⟨g1, g2, g3, g4⟩ := hS.1 0 (by omega)
  refine ⟨adK 0, adV 0, ⟨g1, g2, g3, va_T_congr g4 (fun j hj => ?_), va_Zof (hts _ (wt_3 (i := 148) (by decide +kernel))) (hts _ (wsL_law_in _ mn_RJ0)) (va_eqt (hs (Cond.eq (.static "java/lang/String" "COMPACT_STRINGS" "Z") (.int 1)) (by decide +kernel))) hA⟩, vk_R.of (hts _ (wt_3 (i := 134) (by decide +kernel))) (he 0 (by omega))⟩
  have hj : j < 7 := hj
  rcases (show j = 0 ∨ j = 1 ∨ j = 2 ∨ j = 3 ∨ j = 4 ∨ j = 5 ∨ j = 6 by omega) with rfl | rfl | rfl | rfl | rfl | rfl | rfl <;> rfl
end START
section FRESH
variable {p : Program} {l : Launch} {e : Env} {s : State} {m : MethodId} {args : Array Value} {below : List Frame} {meth : Method} {c : Code} {H : Heap} {locs : List Loc} {cells slots : Nat} {Q : State → Prop} {b0 : Nat}
theorem W.fresh {R : Room} {f : JFrame} (h : ∀ x ∈ locs, s.heap.size ≤ x.base) (k : W p l e R s m args below meth c H [] cells slots Q f) : W p l e R s m args below meth c H locs cells slots Q f := fun T hT X =>
  k T hT (Stand.dropFresh (locs := []) (J := locs) X h)
theorem SB_fresh (hz : s.heap.size = b0) (h : va_S (AB b0) s.heap H locs) : (∀ x ∈ locs, s.heap.size ≤ x.base) ∧ va_S (AB b0) s.heap H [] := ⟨fun x hx => by rw [hz]; exact h.2.2 x hx, h.1, h.2.1, fun x hx => by cases hx⟩
end FRESH

-- the law: loop and start (the head is of the kit's starting text)
/-! THE CLAIM OUT OF ONE WALK OF THE LAW'S BODY. Your part is whole_start (and what it stands on); all else here is the same for every law, but numbers. -/
def R_law : String := "BladeRingLaw"
def lw_P (b : Addr) (xs : List Int32) (args : Array Value) (s : State) : Prop := args = #[.ref b] ∧ s.IntsAt b xs ∧ xs.length ≤ 2560 ∧ (Jvm.Cond.and given_1 narrow_1).before args s = true
def lw_Q (_ : Array Value) (s : State) (o : Outcome) (t : State) : Prop := o = .returned (some (.int 1)) ∧ Framed s o t [] 600000 7302250
def lw_Z (below : List Frame) (a : Array Value) (s : State) : State → Prop := fun t => ∃ o, t.status = .running ∧ Ended t below o ∧ lw_Q a s o t
/-- the law's own end, with 1 on the stack, nothing written that was there before, its room as the claim has it -/
theorem lw_ret {p : Program} {l : Launch} {e : Env} {s : State} {m : MethodId} {below : List Frame} {meth : Method} {c : Code} {b : Nat} (hx : p.tables.exec = Jvm.exec) (hb : c.code = code) (hr : meth.sig.returnType = ret) (hlocks : meth.locks = false) {pc : Nat} {H : Heap} {ls : Array Slot} (hdg : decode code pc = .ok (.ireturn, 1)) : W p l e room_1 s m #[Value.ref b] below meth c H [] 600000 7302250 (lw_Z below #[Value.ref b] s) (F0 m pc ls [.int 1]) := by
  intro T hT X
  obtain ⟨fs, hret, hrun, hended, hW, hframe⟩ := X.leave (v := some (.int 1)) (hlocks := hlocks) (fun h => by rw [hr] at h; cases h)
  have hmeth' : T.vm.method? m = some meth := X.method'
  refine ⟨T.setFrames fs, ?_, .returned (some (.int 1)), hrun, hended, rfl, ⟨_, rfl⟩, hW, hframe⟩
  jvm_step X.here [X.here.top, hx, hb, hdg, hmeth', hr, ret, narrow_b1]
  (try refine ⟨rfl, ?_⟩); (try refine ⟨rfl, ?_⟩)
  first | (intro acts; rw [hret _ acts rfl rfl rfl]) | rw [hret _ _ rfl rfl rfl]
  exact Steps.refl _
/-- what holds at the law's entry: the machine, the code, the tables' words (any of lw_tbl by 'hts w (by decide +kernel)'), the script of L ints xs at the cell b, what the Statement gives of the start (any of its parts by flat_of_before) -/
def lw_At (p : Program) (s : State) (m : MethodId) (meth : Method) (c : Code) (b L : Nat) (xs : Nat → Int32) : Prop :=
  p.tables.exec = Jvm.exec ∧ c.code = code ∧ meth.sig.returnType = ret ∧ c.maxLocals = 4 ∧ s.vm.findClass R_law = some m.cls ∧ (∀ w ∈ lw_tbl, w.before #[Value.ref b] s = true) ∧ va_X b L xs s s.heap ∧ b < s.heap.size ∧ meth.locks = false ∧ (Jvm.Cond.and given_1 narrow_1).before #[Value.ref b] s = true
theorem wt_1 {w : Cond} {i : Nat} (hi : tables_1_1[i]? = some w) : w ∈ lw_tbl := by have h := List.mem_of_getElem? hi; exact List.mem_append_right _ (List.mem_append_left _ h)
theorem wt_2 {w : Cond} {i : Nat} (hi : tables_1_2[i]? = some w) : w ∈ lw_tbl := by have h := List.mem_of_getElem? hi; exact List.mem_append_right _ (List.mem_append_right _ (List.mem_append_left _ h))
theorem wt_3 {w : Cond} {i : Nat} (hi : tables_1_3[i]? = some w) : w ∈ lw_tbl := by have h := List.mem_of_getElem? hi; exact List.mem_append_right _ (List.mem_append_right _ (List.mem_append_right _ (List.mem_append_left _ h)))
theorem wt_4 {w : Cond} {i : Nat} (hi : tables_1_4[i]? = some w) : w ∈ lw_tbl := by have h := List.mem_of_getElem? hi; exact List.mem_append_right _ (List.mem_append_right _ (List.mem_append_right _ (List.mem_append_right _ (List.mem_append_left _ h))))
theorem wt_5 {w : Cond} {i : Nat} (hi : tables_1_5[i]? = some w) : w ∈ lw_tbl := by have h := List.mem_of_getElem? hi; exact List.mem_append_right _ (List.mem_append_right _ (List.mem_append_right _ (List.mem_append_right _ (List.mem_append_right _ (List.mem_append_left _ h)))))
theorem wt_6 {w : Cond} {i : Nat} (hi : tables_1_6[i]? = some w) : w ∈ lw_tbl := by have h := List.mem_of_getElem? hi; exact List.mem_append_right _ (List.mem_append_right _ (List.mem_append_right _ (List.mem_append_right _ (List.mem_append_right _ (List.mem_append_right _ (List.mem_append_left _ h))))))
theorem wt_7 {w : Cond} {i : Nat} (hi : tables_1_7[i]? = some w) : w ∈ lw_tbl := by have h := List.mem_of_getElem? hi; exact List.mem_append_right _ (List.mem_append_right _ (List.mem_append_right _ (List.mem_append_right _ (List.mem_append_right _ (List.mem_append_right _ (List.mem_append_right _ (h)))))))
theorem nI_sur (x : Int32) : ∃ n, nI n = x := ⟨x.toBitVec.toNat, Int32.toBitVec_inj.mp (BitVec.eq_of_toNat_eq (by
  show (BitVec.ofNat 32 x.toBitVec.toNat).toNat = _
  rw [BitVec.toNat_ofNat]
  exact Nat.mod_eq_of_lt x.toBitVec.isLt))⟩
theorem and63 (x : Int32) : ∃ k, k < 64 ∧ x &&& nI 63 = nI k := by
  obtain ⟨n, rfl⟩ := nI_sur x
  exact ⟨n &&& 63, Nat.lt_succ_of_le Nat.and_le_right, nx_and n 63⟩
theorem lend {i L : Nat} (hi : i ≤ L) (hL : L ≤ 2560) : Int32.ofNat L - nI 5 < nI i ↔ L < i + 5 := by
  rcases Nat.lt_or_ge L 5 with h | h
  · have e : (Int32.ofNat L - nI 5).toInt = (L : Int) - 5 := by
      rcases (show L = 0 ∨ L = 1 ∨ L = 2 ∨ L = 3 ∨ L = 4 by omega) with rfl | rfl | rfl | rfl | rfl <;> decide
    refine ⟨fun _ => by omega, fun _ => Int32.lt_iff_toInt_lt.mpr ?_⟩
    rw [e, nI_toInt (by omega)]
    omega
  · obtain ⟨d, rfl⟩ : ∃ d, L = d + 5 := ⟨L - 5, by omega⟩
    have e : Int32.ofNat (d + 5) - nI 5 = nI d := by
      show nI (d + 5) - nI 5 = nI d
      rw [← nI_add, Int32.add_sub_cancel]
    rw [e, nI_ltI (by omega) (by omega)]
    omega
section START
variable {p : Program} {l : Launch} {e : Env} {s : State} {m : MethodId} {args : Array Value} {below : List Frame} {meth : Method} {c : Code}
/-- an array of a primitive type, by its word -/
theorem arr_p {t : FieldType} {A : Nat → Prop} (h : (Cond.arrayClass t).before args s = true) : ∃ cA : ClassId, ArrOfT s cA t ∧ s.vm.findClass ("[" ++ t.toString) = some cA := by
  obtain ⟨cA, kA, comp, h1, h2, h3⟩ := Cond.arrayClass_spec h
  exact ⟨cA, fun n z => ⟨fun k h => (by cases h), kA, h2, comp, h3⟩, h1⟩
theorem arr_o {C : String} (h : (Cond.arrayOver (.object C)).before args s = true) : ∃ cA : ClassId, ArrOfT s cA (.object C) ∧ va_RA s cA (.object C) := by
  obtain ⟨comp, cA, kA, h1, -, h3, h4, h5⟩ := Cond.arrayOver_spec h
  exact ⟨cA, fun n z => ⟨fun k h => (by cases h), kA, h3, comp, h4⟩, kA, comp, h3, h4, h1, h5⟩
theorem arr_a (h : (Cond.arrayOver (.array .int)).before args s = true) : ∃ cA : ClassId, ArrOfT s cA (.array .int) ∧ va_RA s cA (.array .int) := by
  obtain ⟨comp, cA, kA, h1, -, h3, h4, h5⟩ := arrayOverA_spec h
  exact ⟨cA, fun n z => ⟨fun k h => (by cases h), kA, h3, comp, h4⟩, h5⟩
theorem law_D (hts : ∀ w ∈ lw_tbl, w.before args s = true) : ∃ D : va_G, ∀ (k : Nat) (q : vw_C), vwCl[k]? = some q → u_Kn s q.1 q.2.1 q.2.2 (D.1 k) (D.2 k) := by
  have ht : ∀ w ∈ wsL_law, w.before args s = true := fun w hw => hts w (wsL_law_in w hw)
  have h : ∀ k : Nat, ∃ (cC : ClassId) (iS : Nat → Nat), ∀ q : vw_C, vwCl[k]? = some q → u_Kn s q.1 q.2.1 q.2.2 cC iS := by
    intro k
    rcases (show k = 0 ∨ k = 1 ∨ k = 2 ∨ k = 3 ∨ k = 4 ∨ k = 5 ∨ k = 6 ∨ k = 7 ∨ k = 8 ∨ k = 9 ∨ k = 10 ∨ 11 ≤ k by omega) with rfl | rfl | rfl | rfl | rfl | rfl | rfl | rfl | rfl | rfl | rfl | h11
    · obtain ⟨cC, iS, z⟩ := u_known ht inlX0 (ht _ mj_RX0)
      exact ⟨cC, iS, fun q hq => by cases hq; exact z⟩
    · obtain ⟨cC, iS, z⟩ := u_known ht inlX1 (ht _ mj_RX1)
      exact ⟨cC, iS, fun q hq => by cases hq; exact z⟩
    · obtain ⟨cC, iS, z⟩ := u_known ht inlX2 (ht _ mj_RX2)
      exact ⟨cC, iS, fun q hq => by cases hq; exact z⟩
    · obtain ⟨cC, iS, z⟩ := u_known ht inlX3 (ht _ mj_RX3)
      exact ⟨cC, iS, fun q hq => by cases hq; exact z⟩
    · obtain ⟨cC, iS, z⟩ := u_known ht inlX4 (ht _ mj_RX4)
      exact ⟨cC, iS, fun q hq => by cases hq; exact z⟩
    · obtain ⟨cC, iS, z⟩ := u_known ht inlX5 (ht _ mj_RX5)
      exact ⟨cC, iS, fun q hq => by cases hq; exact z⟩
    · obtain ⟨cC, iS, z⟩ := u_known ht inlX6 (ht _ mj_RX6)
      exact ⟨cC, iS, fun q hq => by cases hq; exact z⟩
    · obtain ⟨cC, iS, z⟩ := u_known ht inlX7 (ht _ mj_RX7)
      exact ⟨cC, iS, fun q hq => by cases hq; exact z⟩
    · obtain ⟨cC, iS, z⟩ := u_known ht inlX8 (ht _ mj_RX8)
      exact ⟨cC, iS, fun q hq => by cases hq; exact z⟩
    · obtain ⟨cC, iS, z⟩ := u_known ht inlX9 (ht _ mj_RX9)
      exact ⟨cC, iS, fun q hq => by cases hq; exact z⟩
    · obtain ⟨cC, iS, z⟩ := u_known ht inlX10 (ht _ mj_RX10)
      exact ⟨cC, iS, fun q hq => by cases hq; exact z⟩
    · refine ⟨0, fun _ => 0, fun q hq => ?_⟩
      rw [List.getElem?_eq_none (show vwCl.length ≤ k from h11)] at hq
      cases hq
  obtain ⟨f, hf⟩ := Classical.skolem.mp h
  obtain ⟨f2, hf2⟩ := Classical.skolem.mp hf
  exact ⟨(f, f2), hf2⟩
theorem law_K (hts : ∀ w ∈ lw_tbl, w.before args s = true) : ∃ (D : va_G) (cy : Nat → ClassId), va_K D vwCl (tyv cy) s := by
  have ht : ∀ w ∈ wsL_law, w.before args s = true := fun w hw => hts w (wsL_law_in w hw)
  obtain ⟨D, hD⟩ := law_D hts
  obtain ⟨c0, a0, b0⟩ := arr_p (A := fun _ => True) (ht _ ma_byte)
  obtain ⟨c1, a1, b1⟩ := arr_p (A := fun _ => True) (ht _ ma_int)
  obtain ⟨c2, a2, b2⟩ := arr_p (A := fun _ => True) (ht _ ma_long)
  obtain ⟨c3, a3, b3⟩ := arr_o (C := RX0) (hts _ (wt_2 (i := 3) (by decide +kernel)))
  obtain ⟨c4, a4, b4⟩ := arr_o (C := RX4) (hts _ (wt_2 (i := 38) (by decide +kernel)))
  obtain ⟨c5, a5, b5⟩ := arr_o (C := RX7) (hts _ (wt_2 (i := 5) (by decide +kernel)))
  obtain ⟨c6, a6, b6⟩ := arr_o (C := RX8) (hts _ (wt_1 (i := 76) (by decide +kernel)))
  obtain ⟨c7, a7, b7⟩ := arr_a (hts _ (wt_2 (i := 13) (by decide +kernel)))
  refine ⟨D, fun k => match k with | 0 => c0 | 1 => c1 | 2 => c2 | 3 => c3 | 4 => c4 | 5 => c5 | 6 => c6 | _ => c7, hD, fun k q hq => ?_⟩
  rcases (show k = 0 ∨ k = 1 ∨ k = 2 ∨ k = 3 ∨ k = 4 ∨ k = 5 ∨ k = 6 ∨ k = 7 ∨ 8 ≤ k by omega) with rfl | rfl | rfl | rfl | rfl | rfl | rfl | rfl | h8
  · cases hq; exact ⟨a0, b0⟩
  · cases hq; exact ⟨a1, b1⟩
  · cases hq; exact ⟨a2, b2⟩
  · cases hq; exact ⟨a3, b3⟩
  · cases hq; exact ⟨a4, b4⟩
  · cases hq; exact ⟨a5, b5⟩
  · cases hq; exact ⟨a6, b6⟩
  · cases hq; exact ⟨a7, b7⟩
  · rw [List.getElem?_eq_none (show (tyv _).length ≤ k from h8)] at hq
    cases hq
theorem law_N (hts : ∀ w ∈ lw_tbl, w.before args s = true) : NX s := by
  refine ⟨⟨fun q hq => ?_, va_AG.of (hts _ (wt_2 (i := 13) (by decide +kernel)))⟩, fun C hC => ?_⟩
  · simp only [nestL, List.mem_cons, List.not_mem_nil, or_false] at hq
    rcases hq with rfl | rfl | rfl | rfl | rfl | rfl | rfl | rfl | rfl
    · exact va_Nw.of rfl (hts _ (wt_1 (i := 100) (by decide +kernel)))
    · exact va_Nw.of rfl (hts _ (wt_1 (i := 155) (by decide +kernel)))
    · exact va_Nw.of rfl (hts _ (wt_1 (i := 185) (by decide +kernel)))
    · exact va_Nw.of rfl (hts _ (wt_2 (i := 8) (by decide +kernel)))
    · exact va_Nw.of rfl (hts _ (wt_2 (i := 39) (by decide +kernel)))
    · exact va_Nw.of rfl (hts _ (wt_2 (i := 40) (by decide +kernel)))
    · exact va_Nw.of rfl (hts _ (wt_2 (i := 42) (by decide +kernel)))
    · exact va_Nw.of rfl (hts _ (wt_1 (i := 191) (by decide +kernel)))
    · exact va_Nw.of rfl (hts _ (wt_2 (i := 16) (by decide +kernel)))
  · simp only [List.mem_cons, List.not_mem_nil, or_false] at hC
    rcases hC with rfl | rfl | rfl | rfl
    · exact va_AO.of (hts _ (wt_1 (i := 76) (by decide +kernel)))
    · exact va_AO.of (hts _ (wt_2 (i := 3) (by decide +kernel)))
    · exact va_AO.of (hts _ (wt_2 (i := 5) (by decide +kernel)))
    · exact va_AO.of (hts _ (wt_2 (i := 38) (by decide +kernel)))
end START

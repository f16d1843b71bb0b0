-- the constant "uotrdkf", and what String does with it
def ltB (j : Nat) : Nat := [117, 111, 116, 114, 100, 107, 102].getD j 0
/-- the constant lies at q, its bytes at v, outside of A -/
def SF (A : Nat → Prop) (q v : Nat) (U : State) (H : Heap) : Prop := va_O RJ0 q A U H ∧ va_OF "java/lang/String" "coder" "B" (.int 0) q A U H ∧ va_OF "java/lang/String" "value" "[B" (.ref v) q A U H ∧ va_T .byte v 7 (fun j => .int (nI (ltB j))) A U H ∧ va_Z "java/lang/String" "COMPACT_STRINGS" "Z" (.int 1) A U H
theorem SF.moved {A : Nat → Prop} {q v : Nat} {u U : State} {H : Heap} (hvm : u.vm.Alike U.vm) (h : SF A q v u H) : SF A q v U H :=
  ⟨va_O.moved hvm h.1, va_OF.moved hvm h.2.1, va_OF.moved hvm h.2.2.1, va_T.moved hvm h.2.2.2.1, va_Z.moved hvm h.2.2.2.2⟩
theorem SF.kept {A : Nat → Prop} {q v : Nat} {U : State} {H H1 : Heap} (h : SF A q v U H) (hq : ∀ a : Nat, a < H.size → ¬ A a → H1[a]? = H[a]?) : SF A q v U H1 :=
  ⟨h.1.kept hq, h.2.1.kept hq, h.2.2.1.kept hq, h.2.2.2.1.kept hq, h.2.2.2.2.kept hq⟩
def PQ (av : List Value) (A : Nat → Prop) (q v : Nat) : Array Value → State → Prop := va_Pc av (fun U => SF A q v U U.heap)
theorem PQ.blind {av : List Value} {A : Nat → Prop} {q v : Nat} : FrameBlind (PQ av A q v) := fun a U j mk z => by
  obtain ⟨z0, zF⟩ := z
  exact ⟨z0, SF.moved (u := U) (U := U.calling j mk a) (Vm.Alike.refl U.vm) zF⟩
section STR
variable {p : Program} {l : Launch} {e : Env} {R : Room} {s : State} {m : MethodId} {args : Array Value} {below : List Frame} {meth : Method} {c : Code} {H : Heap} {locs : List Loc} {cells slots : Nat} {Q : State → Prop}
variable {cc : ByteArray} {pc nL : Nat} {ls : Array Slot} {rest st0 : List Value} {A : Nat → Prop} {own : String} {q v : Nat}
theorem sentry {y : MethodName} {b : ByteArray} {maxL f lo : Nat} {ret : Option FieldType} {Qc : Array Value → State → Outcome → State → Prop} {free : Addr → Prop} {av : List Value} (hy : plainName y.cls = true) (hlen : (lg_sl av).length ≤ maxL)
    (body : ∀ (p : Program) (e : Env) (s : State) (m : MethodId) (below : List Frame) (meth : Method) (c : Code) (ls : Array Slot), CallFix p m c b maxL s av.toArray wsL_law y.cls → meth.sig.returnType = ret → meth.locks = false → SF A q v s s.heap → lv_has ls maxL (lv_args 0 av) →
      W p l e (rmF f lo) s m av.toArray below meth c s.heap [] 0 0 (MQ below Qc av.toArray s 0 0 free) (F0 m 0 ls [])) : Met l y (WS y b maxL ret) (rmF f lo) (PQ av A q v) Qc 0 0 free := by
  refine Met.ofW (cc := b) (maxL := maxL) (ret := ret) (ws' := wsL_law) hy rfl ?_
  intro p e s m args below meth c s₁ B hml hv
  obtain ⟨rfl, hF⟩ := hv
  have hts := atoms_spec (ws := WS y b maxL ret) B.pre
  have hl := lv_entry av (n := maxL) hlen
  rw [lg_entry_eq]
  exact body p e s m below meth c _ ⟨B.exec, B.bytes, hml, findClass_of_methodNamed B.named, fun w hw => hts w (List.mem_cons_of_mem _ hw)⟩ B.returns B.notSynchronized hF hl
theorem SF.recv (h : SF A q v s s.heap) (hS : va_S A s.heap H locs) : ∃ cell : Cell, H[q]? = some cell ∧ cell.vm.isStatics = false ∧ s.vm.findClass RJ0 = some cell.cls := by
  obtain ⟨cell, h1, h2, h3, -⟩ := h.1.kept hS.2.1
  exact ⟨cell, h1, h2, h3⟩
section
variable {y : MethodName} {b : ByteArray} {maxL f lo n idx : Nat} {ret : Option FieldType} {As : List Value}
theorem kQi {post : Int32 → Prop} (S : CallFix p m c cc nL s args wsL_law own) (hF : SF A q v s s.heap) (hS : va_S A s.heap H locs) (hM : Met l y (WS y b maxL ret) (rmF f lo) (PQ (.ref q :: As) A q v) (vp_Si post) 0 0 (fun _ => False)) (hl : CV own idx RJ0 y b maxL ret n) (hR : CR R f lo maxL) (hn : As.length = n) (hsz : ls.size = nL) (hst : st0 = As.reverse ++ .ref q :: rest) (hW : (rest.map fun v => v.category).sum ≤ 8) (hf : cells ≤ R.cells ∧ slots ≤ R.slots) (hdg : decode cc pc = .ok (.invokevirtual idx, 3))
    (kk : ∀ r : Int32, post r → W p l e R s m args below meth c H locs cells slots Q (F0 m (pc + 3) ls (.int r :: rest))) : W p l e R s m args below meth c H locs cells slots Q (F0 m pc ls st0) :=
  vp_callSi (va_runV S hM (cvW S hl hR) (⟨PQ.blind, SF.recv hF hS, fun U hU hW => ⟨rfl, by show SF A q v U U.heap; rw [hU]; exact SF.moved hW.alike (hF.kept hS.2.1)⟩⟩ : PreV s H RJ0 q (PQ (.ref q :: As) A q v) As) rfl hn hsz hst (lv_room hW) hdg hf).run kk
theorem kQs {post : Int32 → Prop} (S : CallFix p m c cc nL s args wsL_law own) (hF : SF A q v s s.heap) (hS : va_S A s.heap H locs) (hM : Met l y (WS y b maxL ret) (rmF f lo) (PQ As A q v) (vp_Si post) 0 0 (fun _ => False)) (hl : CS own idx y b maxL ret n) (hR : CR R f lo maxL) (hn : As.length = n) (hsz : ls.size = nL) (hst : st0 = As.reverse ++ rest) (hW : (rest.map fun v => v.category).sum ≤ 8) (hf : cells ≤ R.cells ∧ slots ≤ R.slots) (hdg : decode cc pc = .ok (.invokestatic idx, 3))
    (kk : ∀ r : Int32, post r → W p l e R s m args below meth c H locs cells slots Q (F0 m (pc + 3) ls (.int r :: rest))) : W p l e R s m args below meth c H locs cells slots Q (F0 m pc ls st0) :=
  vp_callSi (va_runS S hM (csB S hl hR) (⟨PQ.blind, fun U hU hW => ⟨rfl, by show SF A q v U U.heap; rw [hU]; exact SF.moved hW.alike (hF.kept hS.2.1)⟩⟩ : PreS s H (PQ As A q v) As) rfl hn hsz hst (lv_room hW) hdg hf).run kk
end
theorem rSb {post : Int32 → Prop} {v : Int32} (S : CallFix p m c cc nL s args wsL_law own) (hr : meth.sig.returnType = some .byte) (hlk : meth.locks = false) (hn : narrow .byte (.int v) = .int v) (hp : post v) (hdg : decode cc pc = .ok (.ireturn, 1)) : W p l e R s m args below meth c s.heap [] cells slots (MQ below (vp_Si post) args s cells slots (fun _ => False)) (F0 m pc ls [.int v]) :=
  W.zret S.1 S.2.1 hr hn (fun t ht _ => ⟨v, rfl, hp, ht⟩) (fun q h => by cases h) hdg hlk
end STR
/-- indexOf of a byte -/
def ixS (c : Nat) : Int32 := if ixL c < 7 then nI (ixL c) else -1
theorem ix_of : ∀ j, j < 7 → ixL (ltB j) = j := by decide
theorem ix_no {c : Nat} (h : ∀ i, i < 7 → ¬ c = ltB i) : ¬ ixL c < 7 := by
  have h0 : ¬ c = 117 := h 0 (by decide)
  have h1 : ¬ c = 111 := h 1 (by decide)
  have h2 : ¬ c = 116 := h 2 (by decide)
  have h3 : ¬ c = 114 := h 3 (by decide)
  have h4 : ¬ c = 100 := h 4 (by decide)
  have h5 : ¬ c = 107 := h 5 (by decide)
  have h6 : ¬ c = 102 := h 6 (by decide)
  unfold ixL
  rw [if_neg h0, if_neg h1, if_neg h2, if_neg h3, if_neg h4, if_neg h5, if_neg h6]
  decide
theorem lt_eq : ∀ c, c < 256 → ∀ j, j < 7 → (nI (ltB j) = (nI c).toInt8.toInt32 ↔ c = ltB j) := by decide +kernel
theorem c_J1_canEncode (l : Launch) (A : Nat → Prop) (q v c0 : Nat) (hc0 : c0 < 256) : Met l yJ1_canEncode_9a6ad (WS yJ1_canEncode_9a6ad cJ1_canEncode_9a6ad 1 (some .boolean)) (rmF 0 0) (PQ [.int (nI c0)] A q v) (vp_Si (fun r => r = 1)) 0 0 (fun _ => False) := by
  refine sentry (by decide) (Nat.le_of_ble_eq_true rfl) (fun p e s m below meth c ls S hr hlk hF hl => ?_)
  have S : CallFix p m c cJ1_canEncode_9a6ad 1 s _ wsL_law RJ1 := S
  have hx := S.1
  have hb := S.2.1
  have hl : lv_has ls 1 [(0, .int (nI c0))] := hl
  refine lv_iload_n hx hb dJ1_canEncode_9a6ad_0 rfl (lv_at hl 0 rfl) ?_
  refine lv_if_lt (tgt := 15) hx hb dJ1_canEncode_9a6ad_1 (by decide) (fun c_1 => absurd ((z_lt (by omega)).mp c_1) (fun z => z)) (fun c_1 => ?_)
  refine lv_iload_n hx hb dJ1_canEncode_9a6ad_4 rfl (lv_at hl 0 rfl) ?_
  refine lv_sipush (v := nI 255) hx hb dJ1_canEncode_9a6ad_5 (by decide) ?_
  refine lv_icmp_gt (tgt := 15) hx hb dJ1_canEncode_9a6ad_8 (by decide) (fun c_8 => absurd ((nI_ltI (by omega) (by omega)).mp c_8) (by omega)) (fun c_8 => ?_)
  refine lv_iconst (v := nI 1) hx hb dJ1_canEncode_9a6ad_11 (by decide) ?_
  refine lv_goto (tgt := 16) hx hb dJ1_canEncode_9a6ad_12 (by decide) ?_
  exact rSz S hr hlk (Or.inr rfl) rfl dJ1_canEncode_9a6ad_16
theorem c_J0_isLatin1 (l : Launch) (A : Nat → Prop) (q v : Nat) : Met l yJ0_isLatin1_aae02 (WS yJ0_isLatin1_aae02 cJ0_isLatin1_aae02 1 (some .boolean)) (rmF 0 0) (PQ [.ref q] A q v) (vp_Si (fun r => r = 1)) 0 0 (fun _ => False) := by
  refine sentry (by decide) (Nat.le_of_ble_eq_true rfl) (fun p e s m below meth c ls S hr hlk hF hl => ?_)
  have S : CallFix p m c cJ0_isLatin1_aae02 1 s _ wsL_law RJ0 := S
  have hx := S.1
  have hb := S.2.1
  have hl : lv_has ls 1 [(0, .ref q)] := hl
  have hS : va_S A s.heap s.heap [] := va_S.rf
  refine va_gets hx hb hF.2.2.2.2 hS S.2.2.2.1 (S.2.2.2.2 _ m_J0_38) (fun _ h => h) dJ0_isLatin1_aae02_0 ?_
  refine lv_if_eq (tgt := 17) hx hb dJ0_isLatin1_aae02_3 (by decide) (fun c_3 => absurd c_3 (by decide)) (fun c_3 => ?_)
  refine lv_aload_n hx hb dJ0_isLatin1_aae02_6 rfl (lv_at hl 0 rfl) ?_
  refine vk_getf hx hb hF.2.1 hS S.2.2.2.1 (S.2.2.2.2 _ m_J0_15) (fun _ h => h) dJ0_isLatin1_aae02_7 ?_
  refine lv_if_ne (tgt := 17) hx hb dJ0_isLatin1_aae02_10 (by decide) (fun c_10 => absurd rfl c_10) (fun c_10 => ?_)
  refine lv_iconst (v := nI 1) hx hb dJ0_isLatin1_aae02_13 (by decide) ?_
  refine lv_goto (tgt := 18) hx hb dJ0_isLatin1_aae02_14 (by decide) ?_
  exact rSz S hr hlk (Or.inr rfl) rfl dJ0_isLatin1_aae02_18
theorem c_J0_coder (l : Launch) (A : Nat → Prop) (q v : Nat) : Met l yJ0_coder_7d493 (WS yJ0_coder_7d493 cJ0_coder_7d493 1 (some .byte)) (rmF 0 0) (PQ [.ref q] A q v) (vp_Si (fun r => r = 0)) 0 0 (fun _ => False) := by
  refine sentry (by decide) (Nat.le_of_ble_eq_true rfl) (fun p e s m below meth c ls S hr hlk hF hl => ?_)
  have S : CallFix p m c cJ0_coder_7d493 1 s _ wsL_law RJ0 := S
  have hx := S.1
  have hb := S.2.1
  have hl : lv_has ls 1 [(0, .ref q)] := hl
  have hS : va_S A s.heap s.heap [] := va_S.rf
  refine va_gets hx hb hF.2.2.2.2 hS S.2.2.2.1 (S.2.2.2.2 _ m_J0_38) (fun _ h => h) dJ0_coder_7d493_0 ?_
  refine lv_if_eq (tgt := 13) hx hb dJ0_coder_7d493_3 (by decide) (fun c_3 => absurd c_3 (by decide)) (fun c_3 => ?_)
  refine lv_aload_n hx hb dJ0_coder_7d493_6 rfl (lv_at hl 0 rfl) ?_
  refine vk_getf hx hb hF.2.1 hS S.2.2.2.1 (S.2.2.2.2 _ m_J0_15) (fun _ h => h) dJ0_coder_7d493_7 ?_
  refine lv_goto (tgt := 14) hx hb dJ0_coder_7d493_10 (by decide) ?_
  exact rSb S hr hlk rfl rfl dJ0_coder_7d493_14
theorem c_J0_length (l : Launch) (A : Nat → Prop) (q v : Nat) : Met l yJ0_length_8abf5 (WS yJ0_length_8abf5 cJ0_length_8abf5 1 (some .int)) (rmF 1 20) (PQ [.ref q] A q v) (vp_Si (fun r => r = nI 7)) 0 0 (fun _ => False) := by
  refine sentry (by decide) (Nat.le_of_ble_eq_true rfl) (fun p e s m below meth c ls S hr hlk hF hl => ?_)
  have S : CallFix p m c cJ0_length_8abf5 1 s _ wsL_law RJ0 := S
  have hx := S.1
  have hb := S.2.1
  have hl : lv_has ls 1 [(0, .ref q)] := hl
  have hS : va_S A s.heap s.heap [] := va_S.rf
  refine lv_aload_n hx hb dJ0_length_8abf5_0 rfl (lv_at hl 0 rfl) ?_
  refine vk_getf hx hb hF.2.2.1 hS S.2.2.2.1 (S.2.2.2.2 _ m_J0_9) (fun _ h => h) dJ0_length_8abf5_1 ?_
  refine va_tlen hx hb hF.2.2.2.1 hS (v := nI 7) rfl dJ0_length_8abf5_4 ?_
  refine lv_aload_n hx hb dJ0_length_8abf5_5 rfl (lv_at hl 0 rfl) ?_
  refine kQi (As := []) (rest := [.int (nI 7)]) S hF hS (c_J0_coder l A q v) cv_J0_335 ⟨rfl, rfl⟩ rfl hl.1 rfl (Nat.le_of_ble_eq_true rfl) ⟨Nat.zero_le _, Nat.zero_le _⟩ dJ0_length_8abf5_6 (fun r hr0 => ?_)
  subst hr0
  refine lv_ishr hx hb dJ0_length_8abf5_9 ?_
  exact rSi S hr hlk (by decide) dJ0_length_8abf5_10
set_option maxHeartbeats 1000000 in
theorem c_J1_indexOfChar (l : Launch) (A : Nat → Prop) (q v c0 : Nat) (hc0 : c0 < 256) : Met l yJ1_indexOfChar_4cfef (WS yJ1_indexOfChar_4cfef cJ1_indexOfChar_4cfef 6 (some .int)) (rmF 0 0) (PQ [.ref v, .int (nI c0), .int (nI 0), .int (nI 7)] A q v) (vp_Si (fun r => r = ixS c0)) 0 0 (fun _ => False) := by
  refine sentry (by decide) (Nat.le_of_ble_eq_true rfl) (fun p e s m below meth c ls S hr hlk hF hl => ?_)
  have S : CallFix p m c cJ1_indexOfChar_4cfef 6 s _ wsL_law RJ1 := S
  have hx := S.1
  have hb := S.2.1
  have hl : lv_has ls 6 [(0, .ref v), (1, .int (nI c0)), (2, .int (nI 0)), (3, .int (nI 7))] := hl
  have hS : va_S A s.heap s.heap [] := va_S.rf
  refine lv_iload_n hx hb dJ1_indexOfChar_4cfef_0 rfl (lv_at hl 1 rfl) ?_
  refine lv_i2b hx hb dJ1_indexOfChar_4cfef_1 rfl ?_
  refine lv_istore (lv' := [(4, .int (nI c0).toInt8.toInt32), (0, .ref v), (1, .int (nI c0)), (2, .int (nI 0)), (3, .int (nI 7))]) hx hb dJ1_indexOfChar_4cfef_2 hl (by decide) rfl (fun ls hl => ?_)
  refine lv_iload_n hx hb dJ1_indexOfChar_4cfef_4 rfl (lv_at hl 3 rfl) ?_
  refine lv_istore (lv' := [(5, .int (nI 0)), (4, .int (nI c0).toInt8.toInt32), (0, .ref v), (1, .int (nI c0)), (2, .int (nI 0)), (3, .int (nI 7))]) hx hb dJ1_indexOfChar_4cfef_5 hl (by decide) rfl (fun ls hl => ?_)
  have L7 : ∀ (fu j : Nat), j ≤ 7 → (∀ i, i < j → ¬ c0 = ltB i) → 7 - j < fu → ∀ (ls : Array Slot), lv_has ls 6 [(5, .int (nI j)), (4, .int (nI c0).toInt8.toInt32), (0, .ref v), (3, .int (nI 7))] → W p l e (rmF 0 0) s m [.ref v, .int (nI c0), .int (nI 0), .int (nI 7)].toArray below meth c s.heap [] 0 0 (MQ below (vp_Si (fun r => r = ixS c0)) [.ref v, .int (nI c0), .int (nI 0), .int (nI 7)].toArray s 0 0 (fun _ => False)) (F0 m 7 ls []) := by
    intro fu
    induction fu with
    | zero => intro j h1 h2 h3; exact absurd h3 (Nat.not_lt_zero _)
    | succ fu ih =>
      intro j h1 h2 h3 ls hl
      refine lv_iload hx hb dJ1_indexOfChar_4cfef_7 (lv_at hl 0 rfl) ?_
      refine lv_iload_n hx hb dJ1_indexOfChar_4cfef_9 rfl (lv_at hl 3 rfl) ?_
      refine lv_icmp_ge (tgt := 31) hx hb dJ1_indexOfChar_4cfef_10 (by decide) (fun c_10 => ?_) (fun c_10 => ?_)
      · have h7 : j = 7 := by have := (nI_leI (by omega) (by omega)).mp c_10; omega
        subst h7
        refine lv_iconst (v := -1) hx hb dJ1_indexOfChar_4cfef_31 (by decide) ?_
        exact rSi S hr hlk (if_neg (ix_no h2)).symm dJ1_indexOfChar_4cfef_32
      · have h7 : j < 7 := by
          rcases Nat.lt_or_ge j 7 with z | z
          · exact z
          · exact absurd ((nI_leI (by omega) (by omega)).mpr z) c_10
        refine lv_aload_n hx hb dJ1_indexOfChar_4cfef_13 rfl (lv_at hl 2 rfl) ?_
        refine lv_iload hx hb dJ1_indexOfChar_4cfef_14 (lv_at hl 0 rfl) ?_
        refine va_tb hx hb hF.2.2.2.1 hS (i := nI j) (vp_in_nI (by omega) (by omega)) (v := .int (nI (ltB j))) (by rw [nI_clamp (by omega)]) dJ1_indexOfChar_4cfef_16 ?_
        refine lv_iload hx hb dJ1_indexOfChar_4cfef_17 (lv_at hl 1 rfl) ?_
        refine lv_icmp_ne (tgt := 25) hx hb dJ1_indexOfChar_4cfef_19 (by decide) (fun c_19 => ?_) (fun c_19 => ?_)
        · refine lv_iinc (v := nI (j + 1)) (lv' := [(5, .int (nI (j + 1))), (4, .int (nI c0).toInt8.toInt32), (0, .ref v), (3, .int (nI 7))]) hx hb dJ1_indexOfChar_4cfef_25 hl (k := 0) rfl (by exact nI_add j 1) (by decide) rfl (fun ls hl => ?_)
          refine lv_goto (tgt := 7) hx hb dJ1_indexOfChar_4cfef_28 (by decide) ?_
          exact ih (j + 1) (by omega) (fun i hi => by
            by_cases z : i = j
            · subst z; exact fun y => c_19 ((lt_eq c0 hc0 i h7).mpr y)
            · exact h2 i (by omega)) (by omega) ls hl
        · have hj := (lt_eq c0 hc0 j h7).mp c_19
          refine lv_iload hx hb dJ1_indexOfChar_4cfef_22 (lv_at hl 0 rfl) ?_
          exact rSi S hr hlk (by rw [ixS, hj, ix_of j h7, if_pos h7]) dJ1_indexOfChar_4cfef_24
  exact L7 8 0 (by omega) (fun i hi => by omega) (by omega) ls (lv_sub hl [0, 1, 2, 5] rfl)
theorem max0 : (if nI 0 < nI 0 then nI 0 else nI 0 : Int32) = nI 0 := by decide
theorem min7 : (if nI 7 < nI 7 then nI 7 else nI 7 : Int32) = nI 7 := by decide
set_option maxHeartbeats 1000000 in
theorem c_J1_indexOf (l : Launch) (A : Nat → Prop) (q v c0 : Nat) (hc0 : c0 < 256) : Met l yJ1_indexOf_4cfef (WS yJ1_indexOf_4cfef cJ1_indexOf_4cfef 4 (some .int)) (rmF 1 25) (PQ [.ref v, .int (nI c0), .int (nI 0), .int (nI 7)] A q v) (vp_Si (fun r => r = ixS c0)) 0 0 (fun _ => False) := by
  refine sentry (by decide) (Nat.le_of_ble_eq_true rfl) (fun p e s m below meth c ls S hr hlk hF hl => ?_)
  have S : CallFix p m c cJ1_indexOf_4cfef 4 s _ wsL_law RJ1 := S
  have hx := S.1
  have hb := S.2.1
  have hl : lv_has ls 4 [(0, .ref v), (1, .int (nI c0)), (2, .int (nI 0)), (3, .int (nI 7))] := hl
  have hS : va_S A s.heap s.heap [] := va_S.rf
  refine lv_iload_n hx hb dJ1_indexOf_4cfef_0 rfl (lv_at hl 1 rfl) ?_
  refine kQs (As := [.int (nI c0)]) (rest := []) S hF hS (c_J1_canEncode l A q v c0 hc0) cs_J1_88 ⟨rfl, rfl⟩ rfl hl.1 rfl (Nat.le_of_ble_eq_true rfl) ⟨Nat.zero_le _, Nat.zero_le _⟩ dJ1_indexOf_4cfef_1 (fun r hr0 => ?_)
  subst hr0
  refine lv_if_ne (tgt := 9) hx hb dJ1_indexOf_4cfef_4 (by decide) (fun c_4 => ?_) (fun c_4 => absurd c_4 (by decide))
  refine lv_iload_n hx hb dJ1_indexOf_4cfef_9 rfl (lv_at hl 2 rfl) ?_
  refine lv_iconst (v := nI 0) hx hb dJ1_indexOf_4cfef_10 (by decide) ?_
  refine va_mmax (rest := []) hx hb (S.2.2.1.trans hl.1.symm) S.2.2.2.1 (S.2.2.2.2 _ m_J1_92) (S.2.2.2.2 _ mt_Lib_Math_max_name) (S.2.2.2.2 _ mn_java_lang_Math) (S.2.2.2.2 _ mc_Lib_Math_max_name) (Nat.le_of_ble_eq_true rfl) (Nat.le_of_ble_eq_true rfl) (Nat.zero_le _) (Nat.zero_le _) dJ1_indexOf_4cfef_11 ?_
  refine tpi max0 ?_
  refine lv_istore_n (lv' := [(2, .int (nI 0)), (0, .ref v), (1, .int (nI c0)), (3, .int (nI 7))]) hx hb dJ1_indexOf_4cfef_14 rfl hl (by decide) rfl (fun ls hl => ?_)
  refine lv_iload_n hx hb dJ1_indexOf_4cfef_15 rfl (lv_at hl 3 rfl) ?_
  refine lv_aload_n hx hb dJ1_indexOf_4cfef_16 rfl (lv_at hl 1 rfl) ?_
  refine va_tlen hx hb hF.2.2.2.1 hS (v := nI 7) rfl dJ1_indexOf_4cfef_17 ?_
  refine va_mmin (rest := []) hx hb (S.2.2.1.trans hl.1.symm) S.2.2.2.1 (S.2.2.2.2 _ m_J1_38) (S.2.2.2.2 _ mt_Lib_Math_min_name) (S.2.2.2.2 _ mn_java_lang_Math) (S.2.2.2.2 _ mc_Lib_Math_min_name) (Nat.le_of_ble_eq_true rfl) (Nat.le_of_ble_eq_true rfl) (Nat.zero_le _) (Nat.zero_le _) dJ1_indexOf_4cfef_18 ?_
  refine tpi min7 ?_
  refine lv_istore_n (lv' := [(3, .int (nI 7)), (2, .int (nI 0)), (0, .ref v), (1, .int (nI c0))]) hx hb dJ1_indexOf_4cfef_21 rfl hl (by decide) rfl (fun ls hl => ?_)
  refine lv_iload_n hx hb dJ1_indexOf_4cfef_22 rfl (lv_at hl 1 rfl) ?_
  refine lv_iload_n hx hb dJ1_indexOf_4cfef_23 rfl (lv_at hl 0 rfl) ?_
  refine lv_icmp_lt (tgt := 29) hx hb dJ1_indexOf_4cfef_24 (by decide) (fun c_24 => ?_) (fun c_24 => absurd (show nI 0 < nI 7 by decide) c_24)
  refine lv_aload_n hx hb dJ1_indexOf_4cfef_29 rfl (lv_at hl 2 rfl) ?_
  refine lv_iload_n hx hb dJ1_indexOf_4cfef_30 rfl (lv_at hl 3 rfl) ?_
  refine lv_iload_n hx hb dJ1_indexOf_4cfef_31 rfl (lv_at hl 1 rfl) ?_
  refine lv_iload_n hx hb dJ1_indexOf_4cfef_32 rfl (lv_at hl 0 rfl) ?_
  refine kQs (As := [.ref v, .int (nI c0), .int (nI 0), .int (nI 7)]) (rest := []) S hF hS (c_J1_indexOfChar l A q v c0 hc0) cs_J1_95 ⟨rfl, rfl⟩ rfl hl.1 rfl (Nat.le_of_ble_eq_true rfl) ⟨Nat.zero_le _, Nat.zero_le _⟩ dJ1_indexOf_4cfef_33 (fun r hr0 => ?_)
  exact rSi S hr hlk hr0 dJ1_indexOf_4cfef_36
theorem c_J0_indexOf2 (l : Launch) (A : Nat → Prop) (q v c0 : Nat) (hc0 : c0 < 256) : Met l yJ0_indexOf_7cf53 (WS yJ0_indexOf_7cf53 cJ0_indexOf_7cf53 3 (some .int)) (rmF 2 48) (PQ [.ref q, .int (nI c0), .int (nI 0)] A q v) (vp_Si (fun r => r = ixS c0)) 0 0 (fun _ => False) := by
  refine sentry (by decide) (Nat.le_of_ble_eq_true rfl) (fun p e s m below meth c ls S hr hlk hF hl => ?_)
  have S : CallFix p m c cJ0_indexOf_7cf53 3 s _ wsL_law RJ0 := S
  have hx := S.1
  have hb := S.2.1
  have hl : lv_has ls 3 [(0, .ref q), (1, .int (nI c0)), (2, .int (nI 0))] := hl
  have hS : va_S A s.heap s.heap [] := va_S.rf
  refine lv_aload_n hx hb dJ0_indexOf_7cf53_0 rfl (lv_at hl 0 rfl) ?_
  refine kQi (As := []) (rest := []) S hF hS (c_J0_isLatin1 l A q v) cv_J0_492 ⟨rfl, rfl⟩ rfl hl.1 rfl (Nat.le_of_ble_eq_true rfl) ⟨Nat.zero_le _, Nat.zero_le _⟩ dJ0_indexOf_7cf53_1 (fun r hr0 => ?_)
  subst hr0
  refine lv_if_eq (tgt := 23) hx hb dJ0_indexOf_7cf53_4 (by decide) (fun c_4 => absurd c_4 (by decide)) (fun c_4 => ?_)
  refine lv_aload_n hx hb dJ0_indexOf_7cf53_7 rfl (lv_at hl 0 rfl) ?_
  refine vk_getf hx hb hF.2.2.1 hS S.2.2.2.1 (S.2.2.2.2 _ m_J0_9) (fun _ h => h) dJ0_indexOf_7cf53_8 ?_
  refine lv_iload_n hx hb dJ0_indexOf_7cf53_11 rfl (lv_at hl 1 rfl) ?_
  refine lv_iload_n hx hb dJ0_indexOf_7cf53_12 rfl (lv_at hl 2 rfl) ?_
  refine lv_aload_n hx hb dJ0_indexOf_7cf53_13 rfl (lv_at hl 0 rfl) ?_
  refine kQi (As := []) (rest := [.int (nI 0), .int (nI c0), .ref v]) S hF hS (c_J0_length l A q v) cv_J0_505 ⟨rfl, rfl⟩ rfl hl.1 rfl (Nat.le_of_ble_eq_true rfl) ⟨Nat.zero_le _, Nat.zero_le _⟩ dJ0_indexOf_7cf53_14 (fun r hr0 => ?_)
  subst hr0
  refine kQs (As := [.ref v, .int (nI c0), .int (nI 0), .int (nI 7)]) (rest := []) S hF hS (c_J1_indexOf l A q v c0 hc0) cs_J0_637 ⟨rfl, rfl⟩ rfl hl.1 rfl (Nat.le_of_ble_eq_true rfl) ⟨Nat.zero_le _, Nat.zero_le _⟩ dJ0_indexOf_7cf53_17 (fun r hr0 => ?_)
  refine lv_goto (tgt := 36) hx hb dJ0_indexOf_7cf53_20 (by decide) ?_
  exact rSi S hr hlk hr0 dJ0_indexOf_7cf53_36
theorem c_J0_indexOf (l : Launch) (A : Nat → Prop) (q v c0 : Nat) (hc0 : c0 < 256) : Met l yJ0_indexOf_0f7a4 (WS yJ0_indexOf_0f7a4 cJ0_indexOf_0f7a4 2 (some .int)) (rmF 3 70) (PQ [.ref q, .int (nI c0)] A q v) (vp_Si (fun r => r = ixS c0)) 0 0 (fun _ => False) := by
  refine sentry (by decide) (Nat.le_of_ble_eq_true rfl) (fun p e s m below meth c ls S hr hlk hF hl => ?_)
  have S : CallFix p m c cJ0_indexOf_0f7a4 2 s _ wsL_law RJ0 := S
  have hx := S.1
  have hb := S.2.1
  have hl : lv_has ls 2 [(0, .ref q), (1, .int (nI c0))] := hl
  have hS : va_S A s.heap s.heap [] := va_S.rf
  refine lv_aload_n hx hb dJ0_indexOf_0f7a4_0 rfl (lv_at hl 0 rfl) ?_
  refine lv_iload_n hx hb dJ0_indexOf_0f7a4_1 rfl (lv_at hl 1 rfl) ?_
  refine lv_iconst (v := nI 0) hx hb dJ0_indexOf_0f7a4_2 (by decide) ?_
  refine kQi (As := [.int (nI c0), .int (nI 0)]) (rest := []) S hF hS (c_J0_indexOf2 l A q v c0 hc0) cv_J0_633 ⟨rfl, rfl⟩ rfl hl.1 rfl (Nat.le_of_ble_eq_true rfl) ⟨Nat.zero_le _, Nat.zero_le _⟩ dJ0_indexOf_0f7a4_3 (fun r hr0 => ?_)
  exact rSi S hr hlk hr0 dJ0_indexOf_0f7a4_6


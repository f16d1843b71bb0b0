-- the law's cases
def IV (b0 : Nat) (cy : Nat → ClassId) (g : Nat → va_E) : Prop := ∃ (w : WT), ∃ (Pw : Nat → WT), ∃ (nx0 : Nat), ∃ (un : Nat), ∃ (rf : Int32), ∃ (qc : Nat), ∃ (fc : Nat), ∃ (lf : Int32), ∃ (lt : Int32), ∃ (vc : Nat), ∃ (len : Nat), ∃ (T : Nat → Nat), ∃ (Fl : Nat → Nat), ∃ (FB : Nat → Nat → Nat), ∃ (Po : Nat → WT), ∃ (Vl : Nat → Nat), ∃ (VV : Nat → Nat → Nat), ∃ (Sh : Nat → Int32 × Nat), ∃ (SK : Nat → Nat → Int32), ∃ (ps : PS), GP w Pw nx0 un rf qc fc lf lt vc len T Fl FB Po Vl VV Sh SK ps ∧ CIv (bd b0) cy g w Pw nx0 un rf qc fc lf lt vc len T Fl FB Po Vl VV Sh SK ps ∧ MIv (bd b0) cy g w Pw nx0 un rf qc fc lf lt vc len T Fl FB Po Vl VV Sh SK ps
abbrev LV (b0 b i : Nat) : List (Nat × Value) := [(3, .int (nI i)), (2, .ref (bd b0 114)), (1, .ref (bd b0 0)), (0, .ref b)]
theorem lN_sur (v : Int64) : ∃ n, n < 2 ^ 64 ∧ lN n = v := ⟨v.toBitVec.toNat, v.toBitVec.isLt, by
  refine Int64.toBitVec_inj.mp ?_
  rw [lN_bv]
  exact BitVec.eq_of_toNat_eq (by rw [BitVec.toNat_ofNat]; exact Nat.mod_eq_of_lt v.toBitVec.isLt)⟩
theorem gmO_obj {ad : Nat → Nat} {cy : Nat → ClassId} {g : Nat → va_E} {w : WT} {un qc fc : Nat} {lf lt : Int32} {vc len : Nat} (h : gmO ad cy g w un qc fc lf lt vc len) : ∃ fs, g 114 = .inr (10, fs) := by
  obtain ⟨P, la, bo, wr0, wa, at0, sp, tk, vl, nm, dp, st, aP, aF, aH, aO, mn, go, h, -⟩ := h
  exact ⟨_, h⟩
section CASES
variable {p : Program} {l : Launch} {e : Env} {s : State} {m : MethodId} {args : Array Value} {below : List Frame} {meth : Method} {c : Code} {H : Heap} {locs : List Loc} {cells slots : Nat} {Q : State → Prop}
variable {ls : Array Slot} {rest : List Value} {D : va_G} {cy : Nat → ClassId} {b0 b L i : Nat} {xs : Nat → Int32} {g : Nat → va_E}
theorem W.fresh {R : Room} {f : JFrame} (h : ∀ x ∈ locs, s.heap.size ≤ x.base) (k : W p l e R s m args below meth c H [] cells slots Q f) : W p l e R s m args below meth c H locs cells slots Q f := fun T hT X =>
  k T hT (Stand.dropFresh (locs := []) (J := locs) X h)
theorem SB_fresh (hz : s.heap.size = b0) (h : va_S (AB b0) s.heap H locs) : (∀ x ∈ locs, s.heap.size ≤ x.base) ∧ va_S (AB b0) s.heap H [] := ⟨fun x hx => by rw [hz]; exact h.2.2 x hx, h.1, h.2.1, fun x hx => by cases hx⟩
/-- a word of the script -/
theorem lrd (S : CallFix p m c cL_law 4 s args wsL_law RL) (hX : va_X b L xs s s.heap) (hbl : b < s.heap.size) (hz : s.heap.size = b0) (hL : L ≤ 2560) (hi : i + 5 ≤ L) (hS : va_S (AB b0) s.heap H []) (hl : lv_has ls 4 (LV b0 b i)) {k pc pc5 : Nat} {kk : Int} (hk : k ≤ 4) (hkk : Int32.ofInt kk = nI k) (hq : pc + 5 = pc5) (d0 : decode cL_law pc = .ok (.aload_n 0, 1)) (d1 : decode cL_law (pc + 1) = .ok (.iload_n 3, 1)) (d2 : decode cL_law (pc + 2) = .ok (.iconst kk, 1)) (d3 : decode cL_law (pc + 3) = .ok (.iadd, 1)) (d4 : decode cL_law (pc + 4) = .ok (.iaload, 1))
    (z : W p l e room_1 s m args below meth c H [] cells slots Q (F0 m pc5 ls (.int (xs (i + k)) :: rest))) : W p l e room_1 s m args below meth c H [] cells slots Q (F0 m pc ls rest) := by
  subst hq
  refine lv_aload_n S.1 S.2.1 d0 rfl (lv_at hl 3 rfl) ?_
  refine lv_iload_n S.1 S.2.1 d1 rfl (lv_at hl 0 rfl) ?_
  refine lv_iconst (v := nI k) S.1 S.2.1 d2 hkk ?_
  refine lv_iadd S.1 S.2.1 d3 ?_
  rw [nI_add i k]
  refine va_sld S.1 S.2.1 hX hbl (fun q => by unfold AB at q; omega) hS (vp_in_nI (by omega) (by omega)) d4 ?_
  rw [nI_clamp (by omega)]
  exact z
theorem kLX {y : MethodName} {bb : ByteArray} {maxL f lo n ci k idx sq sv pc : Nat} {ret : Option FieldType} {C : String} {As : List Value} {fs : List Value} {st0 : List Value} {R : Room} {post : Int32 → (Nat → va_E) → Prop} (S : CallFix p m c cL_law 4 s args wsL_law RL) (hK : va_K D vwCl (tyv cy) s) (hP : MM D (bd b0) 145 g H) (hX : XF (AA (bd b0) 145) sq sv s s.heap) (hz : s.heap.size = b0) (hS : va_S (AB b0) s.heap H []) (hM : Met l y (WS y bb maxL ret) (rmF f lo) (PPX (.ref (bd b0 k) :: As) D cy (bd b0) 145 g sq sv) (QI post D (bd b0) 145) 0 0 (AA (bd b0) 145)) (hl : CV RL idx C y bb maxL ret n) (hk : k < 145) (hg : g k = .inr (ci, fs)) (hc : ∃ T NF, vwCl[ci]? = some (C, T, NF)) (hR : CR R f lo maxL) (hn : As.length = n) (hsz : ls.size = 4) (hst : st0 = As.reverse ++ .ref (bd b0 k) :: rest) (hW : (rest.map fun v => v.category).sum ≤ 8) (hf : cells ≤ R.cells ∧ slots ≤ R.slots) (hdg : decode cL_law pc = .ok (.invokevirtual idx, 3))
    (kk : ∀ (r : Int32) (g1 : Nat → va_E) (H1 : Heap) (locs1 : List Loc), post r g1 → MM D (bd b0) 145 g1 H1 → va_S (AB b0) s.heap H1 locs1 → W p l e R s m args below meth c H1 locs1 cells slots Q (F0 m (pc + 3) ls (.int r :: rest))) : W p l e R s m args below meth c H [] cells slots Q (F0 m pc ls st0) :=
  va_calli (va_runV S hM (cvW S hl hR) (mprevX (locs := []) hK hP hX ⟨hS.1, fun q a _ => hS.2.1 q a (fun z => by unfold AB at z; omega), fun x hx => absurd hx List.not_mem_nil⟩ hk hg hc) rfl hn hsz hst (lv_room hW) hdg hf) hS (fun q _ h => AA_AB q h) AA_AB (fun r u t H1 locs1 ht _ hp hB _ _ hS1 => kk r u H1 locs1 hp (by rw [← ht]; exact hB) hS1)
set_option maxHeartbeats 1000000 in
theorem lc_ring (S : CallFix p m c cL_law 4 s args wsL_law RL) (hK : va_K D vwCl (tyv cy) s) (hX : va_X b L xs s s.heap) (hbl : b < s.heap.size) (hz : s.heap.size = b0) (hL : L ≤ 2560) (hi : i + 5 ≤ L) (hI : IV b0 cy g) (hP : MM D (bd b0) 145 g H) (hS : va_S (AB b0) s.heap H []) (hl : lv_has ls 4 (LV b0 b i)) (hf : cells ≤ room_1.cells ∧ slots ≤ room_1.slots) (kk : ∀ (g2 : Nat → va_E) (H2 : Heap), IV b0 cy g2 → MM D (bd b0) 145 g2 H2 → va_S (AB b0) s.heap H2 [] → W p l e room_1 s m args below meth c H2 [] cells slots Q (F0 m 1079 ls [])) : W p l e room_1 s m args below meth c H [] cells slots Q (F0 m 180 ls []) := by
  have hx := S.1
  have hb := S.2.1
  obtain ⟨w, Pw, nx0, un, rf, qc, fc, lf, lt, vc, len, T, Fl, FB, Po, Vl, VV, Sh, SK, ps, hp, hc, hm⟩ := hI
  refine lv_aload_n hx hb dL_law_180 rfl (lv_at hl 2 rfl) ?_
  refine lrd (k := 1) (pc5 := 186) S hX hbl hz hL (by omega) hS hl (by decide) (by decide) rfl dL_law_181 dL_law_182 dL_law_183 dL_law_184 dL_law_185 ?_
  refine kMi (k := 0) (As := [.int (xs (i + 1))]) (rest := []) S hK hP hS AA_AB (kc_ring l D cy b0 g w Pw nx0 un rf qc fc lf lt vc len T Fl FB Po Vl VV Sh SK ps hp hc (xs (i + 1))) cv_L_13 (by decide) hc.1 ⟨_, _, rfl⟩ ⟨rfl, rfl⟩ rfl hl.1 rfl (Nat.le_of_ble_eq_true rfl) hf dL_law_186 (fun r1 g1 H1 locs1 q1 hP1 hS1 => ?_)
  obtain ⟨hr1, hc1, hf1⟩ := q1
  have hm1 := MIv_fr hm (fun j a _ => hf1 j a)
  obtain ⟨hq, hS1⟩ := SB_fresh hz hS1
  refine W.fresh hq ?_
  refine lv_aload_n hx hb dL_law_189 rfl (lv_at hl 1 rfl) ?_
  refine lrd (k := 1) (pc5 := 195) S hX hbl hz hL (by omega) hS1 hl (by decide) (by decide) rfl dL_law_190 dL_law_191 dL_law_192 dL_law_193 dL_law_194 ?_
  obtain ⟨fs, hgm⟩ := gmO_obj hm1.1
  refine kMi (k := 114) (As := [.int (xs (i + 1))]) (rest := [.int r1]) S hK hP1 hS1 AA_AB (km_ring l D cy b0 g1 w Pw nx0 un rf qc fc lf lt vc len T Fl FB Po Vl VV Sh SK ps hp hm1 (xs (i + 1))) cv_L_17 (by decide) hgm ⟨_, _, rfl⟩ ⟨rfl, rfl⟩ rfl hl.1 rfl (Nat.le_of_ble_eq_true rfl) hf dL_law_195 (fun r2 g2 H2 locs1 q1 hP2 hS2 => ?_)
  obtain ⟨hr2, hm2, hf2⟩ := q1
  have hc2 := CIv_fr hc1 (fun j _ a => hf2 j a)
  obtain ⟨hq, hS2⟩ := SB_fresh hz hS2
  refine W.fresh hq ?_
  have er : r1 = r2 := hr1.trans hr2.symm
  subst er
  refine lv_icmp_eq (tgt := 1079) hx hb dL_law_198 (by decide) (fun _ => ?_) (fun z => absurd rfl z)
  exact kk _ _ ⟨_, _, _, _, _, _, _, _, _, _, _, _, _, _, _, _, _, _, _, _, (gp_ring hp hm (xs (i + 1))), hc2, hm2⟩ hP2 hS2
set_option maxHeartbeats 1000000 in
theorem lc_act (S : CallFix p m c cL_law 4 s args wsL_law RL) (hK : va_K D vwCl (tyv cy) s) (hX : va_X b L xs s s.heap) (hbl : b < s.heap.size) (hz : s.heap.size = b0) (hL : L ≤ 2560) (hi : i + 5 ≤ L) (hI : IV b0 cy g) (hP : MM D (bd b0) 145 g H) (hS : va_S (AB b0) s.heap H []) (hl : lv_has ls 4 (LV b0 b i)) (hf : cells ≤ room_1.cells ∧ slots ≤ room_1.slots) (kk : ∀ (g2 : Nat → va_E) (H2 : Heap), IV b0 cy g2 → MM D (bd b0) 145 g2 H2 → va_S (AB b0) s.heap H2 [] → W p l e room_1 s m args below meth c H2 [] cells slots Q (F0 m 1079 ls [])) : W p l e room_1 s m args below meth c H [] cells slots Q (F0 m 203 ls []) := by
  have hx := S.1
  have hb := S.2.1
  obtain ⟨w, Pw, nx0, un, rf, qc, fc, lf, lt, vc, len, T, Fl, FB, Po, Vl, VV, Sh, SK, ps, hp, hc, hm⟩ := hI
  refine lv_aload_n hx hb dL_law_203 rfl (lv_at hl 2 rfl) ?_
  refine lrd (k := 1) (pc5 := 209) S hX hbl hz hL (by omega) hS hl (by decide) (by decide) rfl dL_law_204 dL_law_205 dL_law_206 dL_law_207 dL_law_208 ?_
  refine lrd (k := 2) (pc5 := 214) S hX hbl hz hL (by omega) hS hl (by decide) (by decide) rfl dL_law_209 dL_law_210 dL_law_211 dL_law_212 dL_law_213 ?_
  refine kMi (k := 0) (As := [.int (xs (i + 1)), .int (xs (i + 2))]) (rest := []) S hK hP hS AA_AB (kc_act l D cy b0 g w Pw nx0 un rf qc fc lf lt vc len T Fl FB Po Vl VV Sh SK ps hp hc (xs (i + 1)) (xs (i + 2))) cv_L_18 (by decide) hc.1 ⟨_, _, rfl⟩ ⟨rfl, rfl⟩ rfl hl.1 rfl (Nat.le_of_ble_eq_true rfl) hf dL_law_214 (fun r1 g1 H1 locs1 q1 hP1 hS1 => ?_)
  obtain ⟨hr1, hc1, hf1⟩ := q1
  have hm1 := MIv_fr hm (fun j a _ => hf1 j a)
  obtain ⟨hq, hS1⟩ := SB_fresh hz hS1
  refine W.fresh hq ?_
  refine lv_aload_n hx hb dL_law_217 rfl (lv_at hl 1 rfl) ?_
  refine lrd (k := 1) (pc5 := 223) S hX hbl hz hL (by omega) hS1 hl (by decide) (by decide) rfl dL_law_218 dL_law_219 dL_law_220 dL_law_221 dL_law_222 ?_
  refine lrd (k := 2) (pc5 := 228) S hX hbl hz hL (by omega) hS1 hl (by decide) (by decide) rfl dL_law_223 dL_law_224 dL_law_225 dL_law_226 dL_law_227 ?_
  obtain ⟨fs, hgm⟩ := gmO_obj hm1.1
  refine kMi (k := 114) (As := [.int (xs (i + 1)), .int (xs (i + 2))]) (rest := [.int r1]) S hK hP1 hS1 AA_AB (km_act l D cy b0 g1 w Pw nx0 un rf qc fc lf lt vc len T Fl FB Po Vl VV Sh SK ps hp hm1 (xs (i + 1)) (xs (i + 2))) cv_L_22 (by decide) hgm ⟨_, _, rfl⟩ ⟨rfl, rfl⟩ rfl hl.1 rfl (Nat.le_of_ble_eq_true rfl) hf dL_law_228 (fun r2 g2 H2 locs1 q1 hP2 hS2 => ?_)
  obtain ⟨hr2, hm2, hf2⟩ := q1
  have hc2 := CIv_fr hc1 (fun j _ a => hf2 j a)
  obtain ⟨hq, hS2⟩ := SB_fresh hz hS2
  refine W.fresh hq ?_
  have er : r1 = r2 := hr1.trans hr2.symm
  subst er
  refine lv_icmp_eq (tgt := 1079) hx hb dL_law_231 (by decide) (fun _ => ?_) (fun z => absurd rfl z)
  exact kk _ _ ⟨_, _, _, _, _, _, _, _, _, _, _, _, _, _, _, _, _, _, _, _, (gp_act hp hm (xs (i + 1)) (xs (i + 2))), hc2, hm2⟩ hP2 hS2
set_option maxHeartbeats 1000000 in
theorem lc_undo (S : CallFix p m c cL_law 4 s args wsL_law RL) (hK : va_K D vwCl (tyv cy) s) (hX : va_X b L xs s s.heap) (hbl : b < s.heap.size) (hz : s.heap.size = b0) (hL : L ≤ 2560) (hi : i + 5 ≤ L) (hI : IV b0 cy g) (hP : MM D (bd b0) 145 g H) (hS : va_S (AB b0) s.heap H []) (hl : lv_has ls 4 (LV b0 b i)) (hf : cells ≤ room_1.cells ∧ slots ≤ room_1.slots) (kk : ∀ (g2 : Nat → va_E) (H2 : Heap), IV b0 cy g2 → MM D (bd b0) 145 g2 H2 → va_S (AB b0) s.heap H2 [] → W p l e room_1 s m args below meth c H2 [] cells slots Q (F0 m 1079 ls [])) : W p l e room_1 s m args below meth c H [] cells slots Q (F0 m 236 ls []) := by
  have hx := S.1
  have hb := S.2.1
  obtain ⟨w, Pw, nx0, un, rf, qc, fc, lf, lt, vc, len, T, Fl, FB, Po, Vl, VV, Sh, SK, ps, hp, hc, hm⟩ := hI
  refine lv_aload_n hx hb dL_law_236 rfl (lv_at hl 2 rfl) ?_
  refine kMi (k := 0) (As := []) (rest := []) S hK hP hS AA_AB (kc_undo l D cy b0 g w Pw nx0 un rf qc fc lf lt vc len T Fl FB Po Vl VV Sh SK ps hp hc) cv_L_23 (by decide) hc.1 ⟨_, _, rfl⟩ ⟨rfl, rfl⟩ rfl hl.1 rfl (Nat.le_of_ble_eq_true rfl) hf dL_law_237 (fun r1 g1 H1 locs1 q1 hP1 hS1 => ?_)
  obtain ⟨hr1, hc1, hf1⟩ := q1
  have hm1 := MIv_fr hm (fun j a _ => hf1 j a)
  obtain ⟨hq, hS1⟩ := SB_fresh hz hS1
  refine W.fresh hq ?_
  refine lv_aload_n hx hb dL_law_240 rfl (lv_at hl 1 rfl) ?_
  obtain ⟨fs, hgm⟩ := gmO_obj hm1.1
  refine kMi (k := 114) (As := []) (rest := [.int r1]) S hK hP1 hS1 AA_AB (km_undo l D cy b0 g1 w Pw nx0 un rf qc fc lf lt vc len T Fl FB Po Vl VV Sh SK ps hp hm1) cv_L_27 (by decide) hgm ⟨_, _, rfl⟩ ⟨rfl, rfl⟩ rfl hl.1 rfl (Nat.le_of_ble_eq_true rfl) hf dL_law_241 (fun r2 g2 H2 locs1 q1 hP2 hS2 => ?_)
  obtain ⟨hr2, hm2, hf2⟩ := q1
  have hc2 := CIv_fr hc1 (fun j _ a => hf2 j a)
  obtain ⟨hq, hS2⟩ := SB_fresh hz hS2
  refine W.fresh hq ?_
  have er : r1 = r2 := hr1.trans hr2.symm
  subst er
  refine lv_icmp_eq (tgt := 1079) hx hb dL_law_244 (by decide) (fun _ => ?_) (fun z => absurd rfl z)
  exact kk _ _ ⟨_, _, _, _, _, _, _, _, _, _, _, _, _, _, _, _, _, _, _, _, (gp_undo hp hm), hc2, hm2⟩ hP2 hS2
set_option maxHeartbeats 1000000 in
theorem lc_place (S : CallFix p m c cL_law 4 s args wsL_law RL) (hK : va_K D vwCl (tyv cy) s) (hX : va_X b L xs s s.heap) (hbl : b < s.heap.size) (hz : s.heap.size = b0) (hL : L ≤ 2560) (hi : i + 5 ≤ L) (hI : IV b0 cy g) (hP : MM D (bd b0) 145 g H) (hS : va_S (AB b0) s.heap H []) (hl : lv_has ls 4 (LV b0 b i)) (hf : cells ≤ room_1.cells ∧ slots ≤ room_1.slots) (kk : ∀ (g2 : Nat → va_E) (H2 : Heap), IV b0 cy g2 → MM D (bd b0) 145 g2 H2 → va_S (AB b0) s.heap H2 [] → W p l e room_1 s m args below meth c H2 [] cells slots Q (F0 m 1079 ls [])) : W p l e room_1 s m args below meth c H [] cells slots Q (F0 m 249 ls []) := by
  have hx := S.1
  have hb := S.2.1
  obtain ⟨w, Pw, nx0, un, rf, qc, fc, lf, lt, vc, len, T, Fl, FB, Po, Vl, VV, Sh, SK, ps, hp, hc, hm⟩ := hI
  refine lv_aload_n hx hb dL_law_249 rfl (lv_at hl 2 rfl) ?_
  refine lrd (k := 1) (pc5 := 255) S hX hbl hz hL (by omega) hS hl (by decide) (by decide) rfl dL_law_250 dL_law_251 dL_law_252 dL_law_253 dL_law_254 ?_
  refine lrd (k := 2) (pc5 := 260) S hX hbl hz hL (by omega) hS hl (by decide) (by decide) rfl dL_law_255 dL_law_256 dL_law_257 dL_law_258 dL_law_259 ?_
  refine kVi (k := 0) (As := [.int (xs (i + 1)), .int (xs (i + 2))]) (rest := []) S hK hP (kc_place l D cy b0 g w Pw nx0 un rf qc fc lf lt vc len T Fl FB Po Vl VV Sh SK ps hp hc (xs (i + 1)) (xs (i + 2))) cv_L_28 (by decide) hc.1 ⟨_, _, rfl⟩ ⟨rfl, rfl⟩ rfl hl.1 rfl (Nat.le_of_ble_eq_true rfl) hf dL_law_260 (fun r1 hr1 => ?_)
  refine lv_aload_n hx hb dL_law_263 rfl (lv_at hl 1 rfl) ?_
  refine lrd (k := 1) (pc5 := 269) S hX hbl hz hL (by omega) hS hl (by decide) (by decide) rfl dL_law_264 dL_law_265 dL_law_266 dL_law_267 dL_law_268 ?_
  refine lrd (k := 2) (pc5 := 274) S hX hbl hz hL (by omega) hS hl (by decide) (by decide) rfl dL_law_269 dL_law_270 dL_law_271 dL_law_272 dL_law_273 ?_
  obtain ⟨fs, hgm⟩ := gmO_obj hm.1
  refine kVi (k := 114) (As := [.int (xs (i + 1)), .int (xs (i + 2))]) (rest := [.int r1]) S hK hP (km_place l D cy b0 g w Pw nx0 un rf qc fc lf lt vc len T Fl FB Po Vl VV Sh SK ps hp hm (xs (i + 1)) (xs (i + 2))) cv_L_31 (by decide) hgm ⟨_, _, rfl⟩ ⟨rfl, rfl⟩ rfl hl.1 rfl (Nat.le_of_ble_eq_true rfl) hf dL_law_274 (fun r2 hr2 => ?_)
  have er : r1 = r2 := hr1.trans hr2.symm
  subst er
  refine lv_icmp_eq (tgt := 1079) hx hb dL_law_277 (by decide) (fun _ => ?_) (fun z => absurd rfl z)
  exact kk _ _ ⟨_, _, _, _, _, _, _, _, _, _, _, _, _, _, _, _, _, _, _, _, hp, hc, hm⟩ hP hS
set_option maxHeartbeats 1000000 in
theorem lc_blade (S : CallFix p m c cL_law 4 s args wsL_law RL) (hK : va_K D vwCl (tyv cy) s) (hX : va_X b L xs s s.heap) (hbl : b < s.heap.size) (hz : s.heap.size = b0) (hL : L ≤ 2560) (hi : i + 5 ≤ L) (hI : IV b0 cy g) (hP : MM D (bd b0) 145 g H) (hS : va_S (AB b0) s.heap H []) (hl : lv_has ls 4 (LV b0 b i)) (hf : cells ≤ room_1.cells ∧ slots ≤ room_1.slots) (kk : ∀ (g2 : Nat → va_E) (H2 : Heap), IV b0 cy g2 → MM D (bd b0) 145 g2 H2 → va_S (AB b0) s.heap H2 [] → W p l e room_1 s m args below meth c H2 [] cells slots Q (F0 m 1079 ls [])) : W p l e room_1 s m args below meth c H [] cells slots Q (F0 m 282 ls []) := by
  have hx := S.1
  have hb := S.2.1
  obtain ⟨w, Pw, nx0, un, rf, qc, fc, lf, lt, vc, len, T, Fl, FB, Po, Vl, VV, Sh, SK, ps, hp, hc, hm⟩ := hI
  refine lv_aload_n hx hb dL_law_282 rfl (lv_at hl 2 rfl) ?_
  refine lrd (k := 1) (pc5 := 288) S hX hbl hz hL (by omega) hS hl (by decide) (by decide) rfl dL_law_283 dL_law_284 dL_law_285 dL_law_286 dL_law_287 ?_
  refine lrd (k := 2) (pc5 := 293) S hX hbl hz hL (by omega) hS hl (by decide) (by decide) rfl dL_law_288 dL_law_289 dL_law_290 dL_law_291 dL_law_292 ?_
  refine kVi (k := 0) (As := [.int (xs (i + 1)), .int (xs (i + 2))]) (rest := []) S hK hP (kc_blade l D cy b0 g w Pw nx0 un rf qc fc lf lt vc len T Fl FB Po Vl VV Sh SK ps hp hc (xs (i + 1)) (xs (i + 2))) cv_L_32 (by decide) hc.1 ⟨_, _, rfl⟩ ⟨rfl, rfl⟩ rfl hl.1 rfl (Nat.le_of_ble_eq_true rfl) hf dL_law_293 (fun r1 hr1 => ?_)
  refine lv_aload_n hx hb dL_law_296 rfl (lv_at hl 1 rfl) ?_
  refine lrd (k := 1) (pc5 := 302) S hX hbl hz hL (by omega) hS hl (by decide) (by decide) rfl dL_law_297 dL_law_298 dL_law_299 dL_law_300 dL_law_301 ?_
  refine lrd (k := 2) (pc5 := 307) S hX hbl hz hL (by omega) hS hl (by decide) (by decide) rfl dL_law_302 dL_law_303 dL_law_304 dL_law_305 dL_law_306 ?_
  obtain ⟨fs, hgm⟩ := gmO_obj hm.1
  refine kMi (k := 114) (As := [.int (xs (i + 1)), .int (xs (i + 2))]) (rest := [.int r1]) S hK hP hS AA_AB (km_blade l D cy b0 g w Pw nx0 un rf qc fc lf lt vc len T Fl FB Po Vl VV Sh SK ps hp hm (xs (i + 1)) (xs (i + 2))) cv_L_35 (by decide) hgm ⟨_, _, rfl⟩ ⟨rfl, rfl⟩ rfl hl.1 rfl (Nat.le_of_ble_eq_true rfl) hf dL_law_307 (fun r2 g2 H2 locs1 q1 hP2 hS2 => ?_)
  obtain ⟨hr2, hm2, hf2⟩ := q1
  have hc2 := CIv_fr hc (fun j _ a => hf2 j a)
  obtain ⟨hq, hS2⟩ := SB_fresh hz hS2
  refine W.fresh hq ?_
  have er : r1 = r2 := hr1.trans hr2.symm
  subst er
  refine lv_icmp_eq (tgt := 1079) hx hb dL_law_310 (by decide) (fun _ => ?_) (fun z => absurd rfl z)
  exact kk _ _ ⟨_, _, _, _, _, _, _, _, _, _, _, _, _, _, _, _, _, _, _, _, hp, hc2, hm2⟩ hP2 hS2
set_option maxHeartbeats 1000000 in
theorem lc_over (S : CallFix p m c cL_law 4 s args wsL_law RL) (hK : va_K D vwCl (tyv cy) s) (hX : va_X b L xs s s.heap) (hbl : b < s.heap.size) (hz : s.heap.size = b0) (hL : L ≤ 2560) (hi : i + 5 ≤ L) (hI : IV b0 cy g) (hP : MM D (bd b0) 145 g H) (hS : va_S (AB b0) s.heap H []) (hl : lv_has ls 4 (LV b0 b i)) (hf : cells ≤ room_1.cells ∧ slots ≤ room_1.slots) (kk : ∀ (g2 : Nat → va_E) (H2 : Heap), IV b0 cy g2 → MM D (bd b0) 145 g2 H2 → va_S (AB b0) s.heap H2 [] → W p l e room_1 s m args below meth c H2 [] cells slots Q (F0 m 1079 ls [])) : W p l e room_1 s m args below meth c H [] cells slots Q (F0 m 315 ls []) := by
  have hx := S.1
  have hb := S.2.1
  obtain ⟨w, Pw, nx0, un, rf, qc, fc, lf, lt, vc, len, T, Fl, FB, Po, Vl, VV, Sh, SK, ps, hp, hc, hm⟩ := hI
  refine lv_aload_n hx hb dL_law_315 rfl (lv_at hl 2 rfl) ?_
  refine lrd (k := 1) (pc5 := 321) S hX hbl hz hL (by omega) hS hl (by decide) (by decide) rfl dL_law_316 dL_law_317 dL_law_318 dL_law_319 dL_law_320 ?_
  refine lrd (k := 2) (pc5 := 326) S hX hbl hz hL (by omega) hS hl (by decide) (by decide) rfl dL_law_321 dL_law_322 dL_law_323 dL_law_324 dL_law_325 ?_
  refine kVi (k := 0) (As := [.int (xs (i + 1)), .int (xs (i + 2))]) (rest := []) S hK hP (kc_over l D cy b0 g w Pw nx0 un rf qc fc lf lt vc len T Fl FB Po Vl VV Sh SK ps hp hc (xs (i + 1)) (xs (i + 2))) cv_L_36 (by decide) hc.1 ⟨_, _, rfl⟩ ⟨rfl, rfl⟩ rfl hl.1 rfl (Nat.le_of_ble_eq_true rfl) hf dL_law_326 (fun r1 hr1 => ?_)
  refine lv_aload_n hx hb dL_law_329 rfl (lv_at hl 1 rfl) ?_
  refine lrd (k := 1) (pc5 := 335) S hX hbl hz hL (by omega) hS hl (by decide) (by decide) rfl dL_law_330 dL_law_331 dL_law_332 dL_law_333 dL_law_334 ?_
  refine lrd (k := 2) (pc5 := 340) S hX hbl hz hL (by omega) hS hl (by decide) (by decide) rfl dL_law_335 dL_law_336 dL_law_337 dL_law_338 dL_law_339 ?_
  obtain ⟨fs, hgm⟩ := gmO_obj hm.1
  refine kVi (k := 114) (As := [.int (xs (i + 1)), .int (xs (i + 2))]) (rest := [.int r1]) S hK hP (km_over l D cy b0 g w Pw nx0 un rf qc fc lf lt vc len T Fl FB Po Vl VV Sh SK ps hp hm (xs (i + 1)) (xs (i + 2))) cv_L_39 (by decide) hgm ⟨_, _, rfl⟩ ⟨rfl, rfl⟩ rfl hl.1 rfl (Nat.le_of_ble_eq_true rfl) hf dL_law_340 (fun r2 hr2 => ?_)
  have er : r1 = r2 := hr1.trans hr2.symm
  subst er
  refine lv_icmp_eq (tgt := 1079) hx hb dL_law_343 (by decide) (fun _ => ?_) (fun z => absurd rfl z)
  exact kk _ _ ⟨_, _, _, _, _, _, _, _, _, _, _, _, _, _, _, _, _, _, _, _, hp, hc, hm⟩ hP hS
set_option maxHeartbeats 1000000 in
theorem lc_about (S : CallFix p m c cL_law 4 s args wsL_law RL) (hK : va_K D vwCl (tyv cy) s) (hX : va_X b L xs s s.heap) (hbl : b < s.heap.size) (hz : s.heap.size = b0) (hL : L ≤ 2560) (hi : i + 5 ≤ L) (hI : IV b0 cy g) (hP : MM D (bd b0) 145 g H) (hS : va_S (AB b0) s.heap H []) (hl : lv_has ls 4 (LV b0 b i)) (hf : cells ≤ room_1.cells ∧ slots ≤ room_1.slots) (kk : ∀ (g2 : Nat → va_E) (H2 : Heap), IV b0 cy g2 → MM D (bd b0) 145 g2 H2 → va_S (AB b0) s.heap H2 [] → W p l e room_1 s m args below meth c H2 [] cells slots Q (F0 m 1079 ls [])) : W p l e room_1 s m args below meth c H [] cells slots Q (F0 m 348 ls []) := by
  have hx := S.1
  have hb := S.2.1
  obtain ⟨w, Pw, nx0, un, rf, qc, fc, lf, lt, vc, len, T, Fl, FB, Po, Vl, VV, Sh, SK, ps, hp, hc, hm⟩ := hI
  refine lv_aload_n hx hb dL_law_348 rfl (lv_at hl 2 rfl) ?_
  refine lrd (k := 1) (pc5 := 354) S hX hbl hz hL (by omega) hS hl (by decide) (by decide) rfl dL_law_349 dL_law_350 dL_law_351 dL_law_352 dL_law_353 ?_
  refine kVi (k := 0) (As := [.int (xs (i + 1))]) (rest := []) S hK hP (kc_about l D cy b0 g w Pw nx0 un rf qc fc lf lt vc len T Fl FB Po Vl VV Sh SK ps hp hc (xs (i + 1))) cv_L_40 (by decide) hc.1 ⟨_, _, rfl⟩ ⟨rfl, rfl⟩ rfl hl.1 rfl (Nat.le_of_ble_eq_true rfl) hf dL_law_354 (fun r1 hr1 => ?_)
  refine lv_aload_n hx hb dL_law_357 rfl (lv_at hl 1 rfl) ?_
  refine lrd (k := 1) (pc5 := 363) S hX hbl hz hL (by omega) hS hl (by decide) (by decide) rfl dL_law_358 dL_law_359 dL_law_360 dL_law_361 dL_law_362 ?_
  obtain ⟨fs, hgm⟩ := gmO_obj hm.1
  refine kMi (k := 114) (As := [.int (xs (i + 1))]) (rest := [.int r1]) S hK hP hS AA_AB (km_about l D cy b0 g w Pw nx0 un rf qc fc lf lt vc len T Fl FB Po Vl VV Sh SK ps hp hm (xs (i + 1))) cv_L_43 (by decide) hgm ⟨_, _, rfl⟩ ⟨rfl, rfl⟩ rfl hl.1 rfl (Nat.le_of_ble_eq_true rfl) hf dL_law_363 (fun r2 g2 H2 locs1 q1 hP2 hS2 => ?_)
  obtain ⟨hr2, hm2, hf2⟩ := q1
  have hc2 := CIv_fr hc (fun j _ a => hf2 j a)
  obtain ⟨hq, hS2⟩ := SB_fresh hz hS2
  refine W.fresh hq ?_
  have er : r1 = r2 := hr1.trans hr2.symm
  subst er
  refine lv_icmp_eq (tgt := 1079) hx hb dL_law_366 (by decide) (fun _ => ?_) (fun z => absurd rfl z)
  exact kk _ _ ⟨_, _, _, _, _, _, _, _, _, _, _, _, _, _, _, _, _, _, _, _, hp, hc2, hm2⟩ hP2 hS2
set_option maxHeartbeats 1000000 in
theorem lc_can (S : CallFix p m c cL_law 4 s args wsL_law RL) (hK : va_K D vwCl (tyv cy) s) (hX : va_X b L xs s s.heap) (hbl : b < s.heap.size) (hz : s.heap.size = b0) (hL : L ≤ 2560) (hi : i + 5 ≤ L) (hI : IV b0 cy g) (hP : MM D (bd b0) 145 g H) (hS : va_S (AB b0) s.heap H []) (hl : lv_has ls 4 (LV b0 b i)) (hf : cells ≤ room_1.cells ∧ slots ≤ room_1.slots) (kk : ∀ (g2 : Nat → va_E) (H2 : Heap), IV b0 cy g2 → MM D (bd b0) 145 g2 H2 → va_S (AB b0) s.heap H2 [] → W p l e room_1 s m args below meth c H2 [] cells slots Q (F0 m 1079 ls [])) : W p l e room_1 s m args below meth c H [] cells slots Q (F0 m 371 ls []) := by
  have hx := S.1
  have hb := S.2.1
  obtain ⟨w, Pw, nx0, un, rf, qc, fc, lf, lt, vc, len, T, Fl, FB, Po, Vl, VV, Sh, SK, ps, hp, hc, hm⟩ := hI
  refine lv_aload_n hx hb dL_law_371 rfl (lv_at hl 2 rfl) ?_
  refine lrd (k := 1) (pc5 := 377) S hX hbl hz hL (by omega) hS hl (by decide) (by decide) rfl dL_law_372 dL_law_373 dL_law_374 dL_law_375 dL_law_376 ?_
  refine kMi (k := 0) (As := [.int (xs (i + 1))]) (rest := []) S hK hP hS AA_AB (kc_can l D cy b0 g w Pw nx0 un rf qc fc lf lt vc len T Fl FB Po Vl VV Sh SK ps hp hc (xs (i + 1))) cv_L_44 (by decide) hc.1 ⟨_, _, rfl⟩ ⟨rfl, rfl⟩ rfl hl.1 rfl (Nat.le_of_ble_eq_true rfl) hf dL_law_377 (fun r1 g1 H1 locs1 q1 hP1 hS1 => ?_)
  obtain ⟨hr1, hc1, hf1⟩ := q1
  have hm1 := MIv_fr hm (fun j a _ => hf1 j a)
  obtain ⟨hq, hS1⟩ := SB_fresh hz hS1
  refine W.fresh hq ?_
  refine lv_aload_n hx hb dL_law_380 rfl (lv_at hl 1 rfl) ?_
  refine lrd (k := 1) (pc5 := 386) S hX hbl hz hL (by omega) hS1 hl (by decide) (by decide) rfl dL_law_381 dL_law_382 dL_law_383 dL_law_384 dL_law_385 ?_
  obtain ⟨fs, hgm⟩ := gmO_obj hm1.1
  refine kMi (k := 114) (As := [.int (xs (i + 1))]) (rest := [.int r1]) S hK hP1 hS1 AA_AB (km_can l D cy b0 g1 w Pw nx0 un rf qc fc lf lt vc len T Fl FB Po Vl VV Sh SK ps hp hm1 (xs (i + 1))) cv_L_47 (by decide) hgm ⟨_, _, rfl⟩ ⟨rfl, rfl⟩ rfl hl.1 rfl (Nat.le_of_ble_eq_true rfl) hf dL_law_386 (fun r2 g2 H2 locs1 q1 hP2 hS2 => ?_)
  obtain ⟨hr2, hm2, hf2⟩ := q1
  have hc2 := CIv_fr hc1 (fun j _ a => hf2 j a)
  obtain ⟨hq, hS2⟩ := SB_fresh hz hS2
  refine W.fresh hq ?_
  have er : r1 = r2 := hr1.trans hr2.symm
  subst er
  refine lv_icmp_eq (tgt := 1079) hx hb dL_law_389 (by decide) (fun _ => ?_) (fun z => absurd rfl z)
  exact kk _ _ ⟨_, _, _, _, _, _, _, _, _, _, _, _, _, _, _, _, _, _, _, _, hp, hc2, hm2⟩ hP2 hS2
set_option maxHeartbeats 1000000 in
theorem lc_feed (S : CallFix p m c cL_law 4 s args wsL_law RL) (hK : va_K D vwCl (tyv cy) s) (hX : va_X b L xs s s.heap) (hbl : b < s.heap.size) (hz : s.heap.size = b0) (hL : L ≤ 2560) (hi : i + 5 ≤ L) (hI : IV b0 cy g) (hP : MM D (bd b0) 145 g H) (hS : va_S (AB b0) s.heap H []) (hl : lv_has ls 4 (LV b0 b i)) (hf : cells ≤ room_1.cells ∧ slots ≤ room_1.slots) (kk : ∀ (g2 : Nat → va_E) (H2 : Heap), IV b0 cy g2 → MM D (bd b0) 145 g2 H2 → va_S (AB b0) s.heap H2 [] → W p l e room_1 s m args below meth c H2 [] cells slots Q (F0 m 1079 ls [])) : W p l e room_1 s m args below meth c H [] cells slots Q (F0 m 394 ls []) := by
  have hx := S.1
  have hb := S.2.1
  obtain ⟨w, Pw, nx0, un, rf, qc, fc, lf, lt, vc, len, T, Fl, FB, Po, Vl, VV, Sh, SK, ps, hp, hc, hm⟩ := hI
  refine lv_aload_n hx hb dL_law_394 rfl (lv_at hl 2 rfl) ?_
  refine lrd (k := 1) (pc5 := 400) S hX hbl hz hL (by omega) hS hl (by decide) (by decide) rfl dL_law_395 dL_law_396 dL_law_397 dL_law_398 dL_law_399 ?_
  refine lv_i2l (v := (xs (i + 1)).toInt64) hx hb dL_law_400 rfl ?_
  refine lv_bipush (v := nI 32) hx hb dL_law_401 (by decide) ?_
  refine lv_lshl (v := (xs (i + 1)).toInt64 <<< ((nI 32).toInt64 &&& 63)) hx hb dL_law_403 rfl ?_
  refine lrd (k := 2) (pc5 := 409) S hX hbl hz hL (by omega) hS hl (by decide) (by decide) rfl dL_law_404 dL_law_405 dL_law_406 dL_law_407 dL_law_408 ?_
  refine lv_i2l (v := (xs (i + 2)).toInt64) hx hb dL_law_409 rfl ?_
  refine lv_ldc2 hx hb S.2.2.2.1 (S.2.2.2.2 _ m_L_48) dL_law_410 ?_
  refine lv_land hx hb dL_law_413 ?_
  refine lv_lor hx hb dL_law_414 ?_
  obtain ⟨vv, hvv, hv⟩ := lN_sur ((xs (i + 1)).toInt64 <<< ((nI 32).toInt64 &&& 63) ||| (xs (i + 2)).toInt64 &&& 4294967295)
  rw [← hv]
  refine kMi (k := 0) (As := [.long (lN vv)]) (rest := []) S hK hP hS AA_AB (kc_feed l D cy b0 g w Pw nx0 un rf qc fc lf lt vc len T Fl FB Po Vl VV Sh SK ps hp hc vv hvv) cv_L_50 (by decide) hc.1 ⟨_, _, rfl⟩ ⟨rfl, rfl⟩ rfl hl.1 rfl (Nat.le_of_ble_eq_true rfl) hf dL_law_415 (fun r1 g1 H1 locs1 q1 hP1 hS1 => ?_)
  obtain ⟨hr1, hc1, hf1⟩ := q1
  have hm1 := MIv_fr hm (fun j a _ => hf1 j a)
  obtain ⟨hq, hS1⟩ := SB_fresh hz hS1
  refine W.fresh hq ?_
  refine lv_aload_n hx hb dL_law_418 rfl (lv_at hl 1 rfl) ?_
  refine lrd (k := 1) (pc5 := 424) S hX hbl hz hL (by omega) hS1 hl (by decide) (by decide) rfl dL_law_419 dL_law_420 dL_law_421 dL_law_422 dL_law_423 ?_
  refine lv_i2l (v := (xs (i + 1)).toInt64) hx hb dL_law_424 rfl ?_
  refine lv_bipush (v := nI 32) hx hb dL_law_425 (by decide) ?_
  refine lv_lshl (v := (xs (i + 1)).toInt64 <<< ((nI 32).toInt64 &&& 63)) hx hb dL_law_427 rfl ?_
  refine lrd (k := 2) (pc5 := 433) S hX hbl hz hL (by omega) hS1 hl (by decide) (by decide) rfl dL_law_428 dL_law_429 dL_law_430 dL_law_431 dL_law_432 ?_
  refine lv_i2l (v := (xs (i + 2)).toInt64) hx hb dL_law_433 rfl ?_
  refine lv_ldc2 hx hb S.2.2.2.1 (S.2.2.2.2 _ m_L_48) dL_law_434 ?_
  refine lv_land hx hb dL_law_437 ?_
  refine lv_lor hx hb dL_law_438 ?_
  rw [← hv]
  obtain ⟨fs, hgm⟩ := gmO_obj hm1.1
  refine kMi (k := 114) (As := [.long (lN vv)]) (rest := [.int r1]) S hK hP1 hS1 AA_AB (km_feed l D cy b0 g1 w Pw nx0 un rf qc fc lf lt vc len T Fl FB Po Vl VV Sh SK ps hp hm1 vv hvv) cv_L_54 (by decide) hgm ⟨_, _, rfl⟩ ⟨rfl, rfl⟩ rfl hl.1 rfl (Nat.le_of_ble_eq_true rfl) hf dL_law_439 (fun r2 g2 H2 locs1 q1 hP2 hS2 => ?_)
  obtain ⟨hr2, hm2, hf2⟩ := q1
  have hc2 := CIv_fr hc1 (fun j _ a => hf2 j a)
  obtain ⟨hq, hS2⟩ := SB_fresh hz hS2
  refine W.fresh hq ?_
  have er : r1 = r2 := hr1.trans hr2.symm
  subst er
  refine lv_icmp_eq (tgt := 1079) hx hb dL_law_442 (by decide) (fun _ => ?_) (fun z => absurd rfl z)
  exact kk _ _ ⟨_, _, _, _, _, _, _, _, _, _, _, _, _, _, _, _, _, _, _, _, (gp_feed hp hm vv), hc2, hm2⟩ hP2 hS2
set_option maxHeartbeats 1000000 in
theorem lc_end (S : CallFix p m c cL_law 4 s args wsL_law RL) (hK : va_K D vwCl (tyv cy) s) (hX : va_X b L xs s s.heap) (hbl : b < s.heap.size) (hz : s.heap.size = b0) (hL : L ≤ 2560) (hi : i + 5 ≤ L) (hI : IV b0 cy g) (hP : MM D (bd b0) 145 g H) (hS : va_S (AB b0) s.heap H []) (hl : lv_has ls 4 (LV b0 b i)) (hf : cells ≤ room_1.cells ∧ slots ≤ room_1.slots) (kk : ∀ (g2 : Nat → va_E) (H2 : Heap), IV b0 cy g2 → MM D (bd b0) 145 g2 H2 → va_S (AB b0) s.heap H2 [] → W p l e room_1 s m args below meth c H2 [] cells slots Q (F0 m 1079 ls [])) : W p l e room_1 s m args below meth c H [] cells slots Q (F0 m 447 ls []) := by
  have hx := S.1
  have hb := S.2.1
  obtain ⟨w, Pw, nx0, un, rf, qc, fc, lf, lt, vc, len, T, Fl, FB, Po, Vl, VV, Sh, SK, ps, hp, hc, hm⟩ := hI
  refine lv_aload_n hx hb dL_law_447 rfl (lv_at hl 2 rfl) ?_
  refine lrd (k := 1) (pc5 := 453) S hX hbl hz hL (by omega) hS hl (by decide) (by decide) rfl dL_law_448 dL_law_449 dL_law_450 dL_law_451 dL_law_452 ?_
  refine kMi (k := 0) (As := [.int (xs (i + 1))]) (rest := []) S hK hP hS AA_AB (kc_end l D cy b0 g w Pw nx0 un rf qc fc lf lt vc len T Fl FB Po Vl VV Sh SK ps hp hc (xs (i + 1))) cv_L_55 (by decide) hc.1 ⟨_, _, rfl⟩ ⟨rfl, rfl⟩ rfl hl.1 rfl (Nat.le_of_ble_eq_true rfl) hf dL_law_453 (fun r1 g1 H1 locs1 q1 hP1 hS1 => ?_)
  obtain ⟨hr1, hc1, hf1⟩ := q1
  have hm1 := MIv_fr hm (fun j a _ => hf1 j a)
  obtain ⟨hq, hS1⟩ := SB_fresh hz hS1
  refine W.fresh hq ?_
  refine lv_aload_n hx hb dL_law_456 rfl (lv_at hl 1 rfl) ?_
  refine lrd (k := 1) (pc5 := 462) S hX hbl hz hL (by omega) hS1 hl (by decide) (by decide) rfl dL_law_457 dL_law_458 dL_law_459 dL_law_460 dL_law_461 ?_
  obtain ⟨fs, hgm⟩ := gmO_obj hm1.1
  refine kMi (k := 114) (As := [.int (xs (i + 1))]) (rest := [.int r1]) S hK hP1 hS1 AA_AB (km_end l D cy b0 g1 w Pw nx0 un rf qc fc lf lt vc len T Fl FB Po Vl VV Sh SK ps hp hm1 (xs (i + 1))) cv_L_58 (by decide) hgm ⟨_, _, rfl⟩ ⟨rfl, rfl⟩ rfl hl.1 rfl (Nat.le_of_ble_eq_true rfl) hf dL_law_462 (fun r2 g2 H2 locs1 q1 hP2 hS2 => ?_)
  obtain ⟨hr2, hm2, hf2⟩ := q1
  have hc2 := CIv_fr hc1 (fun j _ a => hf2 j a)
  obtain ⟨hq, hS2⟩ := SB_fresh hz hS2
  refine W.fresh hq ?_
  have er : r1 = r2 := hr1.trans hr2.symm
  subst er
  refine lv_icmp_eq (tgt := 1079) hx hb dL_law_465 (by decide) (fun _ => ?_) (fun z => absurd rfl z)
  exact kk _ _ ⟨_, _, _, _, _, _, _, _, _, _, _, _, _, _, _, _, _, _, _, _, (gp_end hp hm (xs (i + 1))), hc2, hm2⟩ hP2 hS2
set_option maxHeartbeats 1000000 in
theorem lc_figure (S : CallFix p m c cL_law 4 s args wsL_law RL) (hK : va_K D vwCl (tyv cy) s) (hX : va_X b L xs s s.heap) (hbl : b < s.heap.size) (hz : s.heap.size = b0) (hL : L ≤ 2560) (hi : i + 5 ≤ L) {sq sv : Nat} (hXF : XF (AA (bd b0) 145) sq sv s s.heap) (hI : IV b0 cy g) (hP : MM D (bd b0) 145 g H) (hS : va_S (AB b0) s.heap H []) (hl : lv_has ls 4 (LV b0 b i)) (hf : cells ≤ room_1.cells ∧ slots ≤ room_1.slots) (kk : ∀ (g2 : Nat → va_E) (H2 : Heap), IV b0 cy g2 → MM D (bd b0) 145 g2 H2 → va_S (AB b0) s.heap H2 [] → W p l e room_1 s m args below meth c H2 [] cells slots Q (F0 m 1079 ls [])) : W p l e room_1 s m args below meth c H [] cells slots Q (F0 m 470 ls []) := by
  have hx := S.1
  have hb := S.2.1
  obtain ⟨w, Pw, nx0, un, rf, qc, fc, lf, lt, vc, len, T, Fl, FB, Po, Vl, VV, Sh, SK, ps, hp, hc, hm⟩ := hI
  refine lv_aload_n hx hb dL_law_470 rfl (lv_at hl 2 rfl) ?_
  refine kLX (k := 0) (As := []) (rest := []) S hK hP hXF hz hS (kc_figure l D cy b0 g w Pw nx0 un rf qc fc lf lt vc len T Fl FB Po Vl VV Sh SK ps _ _ hp hc) cv_L_59 (by decide) hc.1 ⟨_, _, rfl⟩ ⟨rfl, rfl⟩ rfl hl.1 rfl (Nat.le_of_ble_eq_true rfl) hf dL_law_471 (fun r1 g1 H1 locs1 q1 hP1 hS1 => ?_)
  obtain ⟨ps2, hs2, hr1, hc1, hf1⟩ := q1
  have hm1 := MIv_fr hm (fun j a _ => hf1 j a)
  obtain ⟨hq, hS1⟩ := SB_fresh hz hS1
  refine W.fresh hq ?_
  refine lv_aload_n hx hb dL_law_474 rfl (lv_at hl 1 rfl) ?_
  obtain ⟨fs, hgm⟩ := gmO_obj hm1.1
  refine kMi (k := 114) (As := []) (rest := [.int r1]) S hK hP1 hS1 AA_AB (km_figure l D cy b0 g1 w Pw nx0 un rf qc fc lf lt vc len T Fl FB Po Vl VV Sh SK ps hp hm1 ps2) cv_L_62 (by decide) hgm ⟨_, _, rfl⟩ ⟨rfl, rfl⟩ rfl hl.1 rfl (Nat.le_of_ble_eq_true rfl) hf dL_law_475 (fun r2 g2 H2 locs1 q1 hP2 hS2 => ?_)
  obtain ⟨hr2, hm2, hf2⟩ := q1
  have hc2 := CIv_fr hc1 (fun j _ a => hf2 j a)
  obtain ⟨hq, hS2⟩ := SB_fresh hz hS2
  refine W.fresh hq ?_
  have er : r1 = r2 := hr1.trans hr2.symm
  subst er
  refine lv_icmp_eq (tgt := 1079) hx hb dL_law_478 (by decide) (fun _ => ?_) (fun z => absurd rfl z)
  exact kk _ _ ⟨_, _, _, _, _, _, _, _, _, _, _, _, _, _, _, _, _, _, _, _, (gp_figure hp hm ps2 hs2), hc2, hm2⟩ hP2 hS2
set_option maxHeartbeats 1000000 in
theorem lc_fault (S : CallFix p m c cL_law 4 s args wsL_law RL) (hK : va_K D vwCl (tyv cy) s) (hX : va_X b L xs s s.heap) (hbl : b < s.heap.size) (hz : s.heap.size = b0) (hL : L ≤ 2560) (hi : i + 5 ≤ L) (hI : IV b0 cy g) (hP : MM D (bd b0) 145 g H) (hS : va_S (AB b0) s.heap H []) (hl : lv_has ls 4 (LV b0 b i)) (hf : cells ≤ room_1.cells ∧ slots ≤ room_1.slots) (kk : ∀ (g2 : Nat → va_E) (H2 : Heap), IV b0 cy g2 → MM D (bd b0) 145 g2 H2 → va_S (AB b0) s.heap H2 [] → W p l e room_1 s m args below meth c H2 [] cells slots Q (F0 m 1079 ls [])) : W p l e room_1 s m args below meth c H [] cells slots Q (F0 m 483 ls []) := by
  have hx := S.1
  have hb := S.2.1
  obtain ⟨w, Pw, nx0, un, rf, qc, fc, lf, lt, vc, len, T, Fl, FB, Po, Vl, VV, Sh, SK, ps, hp, hc, hm⟩ := hI
  refine lv_aload_n hx hb dL_law_483 rfl (lv_at hl 2 rfl) ?_
  refine kVi (k := 0) (As := []) (rest := []) S hK hP (kc_fault l D cy b0 g w Pw nx0 un rf qc fc lf lt vc len T Fl FB Po Vl VV Sh SK ps hp hc) cv_L_63 (by decide) hc.1 ⟨_, _, rfl⟩ ⟨rfl, rfl⟩ rfl hl.1 rfl (Nat.le_of_ble_eq_true rfl) hf dL_law_484 (fun r1 hr1 => ?_)
  refine lv_aload_n hx hb dL_law_487 rfl (lv_at hl 1 rfl) ?_
  obtain ⟨fs, hgm⟩ := gmO_obj hm.1
  refine kVi (k := 114) (As := []) (rest := [.int r1]) S hK hP (km_fault l D cy b0 g w Pw nx0 un rf qc fc lf lt vc len T Fl FB Po Vl VV Sh SK ps hp hm) cv_L_66 (by decide) hgm ⟨_, _, rfl⟩ ⟨rfl, rfl⟩ rfl hl.1 rfl (Nat.le_of_ble_eq_true rfl) hf dL_law_488 (fun r2 hr2 => ?_)
  have er : r1 = r2 := hr1.trans hr2.symm
  subst er
  refine lv_icmp_eq (tgt := 1079) hx hb dL_law_491 (by decide) (fun _ => ?_) (fun z => absurd rfl z)
  exact kk _ _ ⟨_, _, _, _, _, _, _, _, _, _, _, _, _, _, _, _, _, _, _, _, hp, hc, hm⟩ hP hS
set_option maxHeartbeats 1000000 in
theorem lc_told (S : CallFix p m c cL_law 4 s args wsL_law RL) (hK : va_K D vwCl (tyv cy) s) (hX : va_X b L xs s s.heap) (hbl : b < s.heap.size) (hz : s.heap.size = b0) (hL : L ≤ 2560) (hi : i + 5 ≤ L) (hI : IV b0 cy g) (hP : MM D (bd b0) 145 g H) (hS : va_S (AB b0) s.heap H []) (hl : lv_has ls 4 (LV b0 b i)) (hf : cells ≤ room_1.cells ∧ slots ≤ room_1.slots) (kk : ∀ (g2 : Nat → va_E) (H2 : Heap), IV b0 cy g2 → MM D (bd b0) 145 g2 H2 → va_S (AB b0) s.heap H2 [] → W p l e room_1 s m args below meth c H2 [] cells slots Q (F0 m 1079 ls [])) : W p l e room_1 s m args below meth c H [] cells slots Q (F0 m 496 ls []) := by
  have hx := S.1
  have hb := S.2.1
  obtain ⟨w, Pw, nx0, un, rf, qc, fc, lf, lt, vc, len, T, Fl, FB, Po, Vl, VV, Sh, SK, ps, hp, hc, hm⟩ := hI
  refine lv_aload_n hx hb dL_law_496 rfl (lv_at hl 2 rfl) ?_
  refine lrd (k := 1) (pc5 := 502) S hX hbl hz hL (by omega) hS hl (by decide) (by decide) rfl dL_law_497 dL_law_498 dL_law_499 dL_law_500 dL_law_501 ?_
  refine lrd (k := 2) (pc5 := 507) S hX hbl hz hL (by omega) hS hl (by decide) (by decide) rfl dL_law_502 dL_law_503 dL_law_504 dL_law_505 dL_law_506 ?_
  refine kVi (k := 0) (As := [.int (xs (i + 1)), .int (xs (i + 2))]) (rest := []) S hK hP (kc_told l D cy b0 g w Pw nx0 un rf qc fc lf lt vc len T Fl FB Po Vl VV Sh SK ps hp hc (xs (i + 1)) (xs (i + 2))) cv_L_67 (by decide) hc.1 ⟨_, _, rfl⟩ ⟨rfl, rfl⟩ rfl hl.1 rfl (Nat.le_of_ble_eq_true rfl) hf dL_law_507 (fun r1 hr1 => ?_)
  refine lv_aload_n hx hb dL_law_510 rfl (lv_at hl 1 rfl) ?_
  refine lrd (k := 1) (pc5 := 516) S hX hbl hz hL (by omega) hS hl (by decide) (by decide) rfl dL_law_511 dL_law_512 dL_law_513 dL_law_514 dL_law_515 ?_
  refine lrd (k := 2) (pc5 := 521) S hX hbl hz hL (by omega) hS hl (by decide) (by decide) rfl dL_law_516 dL_law_517 dL_law_518 dL_law_519 dL_law_520 ?_
  obtain ⟨fs, hgm⟩ := gmO_obj hm.1
  refine kVi (k := 114) (As := [.int (xs (i + 1)), .int (xs (i + 2))]) (rest := [.int r1]) S hK hP (km_told l D cy b0 g w Pw nx0 un rf qc fc lf lt vc len T Fl FB Po Vl VV Sh SK ps hp hm (xs (i + 1)) (xs (i + 2))) cv_L_70 (by decide) hgm ⟨_, _, rfl⟩ ⟨rfl, rfl⟩ rfl hl.1 rfl (Nat.le_of_ble_eq_true rfl) hf dL_law_521 (fun r2 hr2 => ?_)
  have er : r1 = r2 := hr1.trans hr2.symm
  subst er
  refine lv_icmp_eq (tgt := 1079) hx hb dL_law_524 (by decide) (fun _ => ?_) (fun z => absurd rfl z)
  exact kk _ _ ⟨_, _, _, _, _, _, _, _, _, _, _, _, _, _, _, _, _, _, _, _, hp, hc, hm⟩ hP hS
set_option maxHeartbeats 1000000 in
theorem lc_dance (S : CallFix p m c cL_law 4 s args wsL_law RL) (hK : va_K D vwCl (tyv cy) s) (hX : va_X b L xs s s.heap) (hbl : b < s.heap.size) (hz : s.heap.size = b0) (hL : L ≤ 2560) (hi : i + 5 ≤ L) (hI : IV b0 cy g) (hP : MM D (bd b0) 145 g H) (hS : va_S (AB b0) s.heap H []) (hl : lv_has ls 4 (LV b0 b i)) (hf : cells ≤ room_1.cells ∧ slots ≤ room_1.slots) (kk : ∀ (g2 : Nat → va_E) (H2 : Heap), IV b0 cy g2 → MM D (bd b0) 145 g2 H2 → va_S (AB b0) s.heap H2 [] → W p l e room_1 s m args below meth c H2 [] cells slots Q (F0 m 1079 ls [])) : W p l e room_1 s m args below meth c H [] cells slots Q (F0 m 529 ls []) := by
  have hx := S.1
  have hb := S.2.1
  obtain ⟨w, Pw, nx0, un, rf, qc, fc, lf, lt, vc, len, T, Fl, FB, Po, Vl, VV, Sh, SK, ps, hp, hc, hm⟩ := hI
  refine lv_aload_n hx hb dL_law_529 rfl (lv_at hl 2 rfl) ?_
  refine lrd (k := 1) (pc5 := 535) S hX hbl hz hL (by omega) hS hl (by decide) (by decide) rfl dL_law_530 dL_law_531 dL_law_532 dL_law_533 dL_law_534 ?_
  refine kMi (k := 0) (As := [.int (xs (i + 1))]) (rest := []) S hK hP hS AA_AB (kc_dance l D cy b0 g w Pw nx0 un rf qc fc lf lt vc len T Fl FB Po Vl VV Sh SK ps hp hc (xs (i + 1))) cv_L_71 (by decide) hc.1 ⟨_, _, rfl⟩ ⟨rfl, rfl⟩ rfl hl.1 rfl (Nat.le_of_ble_eq_true rfl) hf dL_law_535 (fun r1 g1 H1 locs1 q1 hP1 hS1 => ?_)
  obtain ⟨hr1, hc1, hf1⟩ := q1
  have hm1 := MIv_fr hm (fun j a _ => hf1 j a)
  obtain ⟨hq, hS1⟩ := SB_fresh hz hS1
  refine W.fresh hq ?_
  refine lv_aload_n hx hb dL_law_538 rfl (lv_at hl 1 rfl) ?_
  refine lrd (k := 1) (pc5 := 544) S hX hbl hz hL (by omega) hS1 hl (by decide) (by decide) rfl dL_law_539 dL_law_540 dL_law_541 dL_law_542 dL_law_543 ?_
  obtain ⟨fs, hgm⟩ := gmO_obj hm1.1
  refine kMi (k := 114) (As := [.int (xs (i + 1))]) (rest := [.int r1]) S hK hP1 hS1 AA_AB (km_dance l D cy b0 g1 w Pw nx0 un rf qc fc lf lt vc len T Fl FB Po Vl VV Sh SK ps hp hm1 (xs (i + 1))) cv_L_74 (by decide) hgm ⟨_, _, rfl⟩ ⟨rfl, rfl⟩ rfl hl.1 rfl (Nat.le_of_ble_eq_true rfl) hf dL_law_544 (fun r2 g2 H2 locs1 q1 hP2 hS2 => ?_)
  obtain ⟨hr2, hm2, hf2⟩ := q1
  have hc2 := CIv_fr hc1 (fun j _ a => hf2 j a)
  obtain ⟨hq, hS2⟩ := SB_fresh hz hS2
  refine W.fresh hq ?_
  have er : r1 = r2 := hr1.trans hr2.symm
  subst er
  refine lv_icmp_eq (tgt := 1079) hx hb dL_law_547 (by decide) (fun _ => ?_) (fun z => absurd rfl z)
  exact kk _ _ ⟨_, _, _, _, _, _, _, _, _, _, _, _, _, _, _, _, _, _, _, _, (gp_dance hp hm (xs (i + 1))), hc2, hm2⟩ hP2 hS2
set_option maxHeartbeats 1000000 in
theorem lc_why (S : CallFix p m c cL_law 4 s args wsL_law RL) (hK : va_K D vwCl (tyv cy) s) (hX : va_X b L xs s s.heap) (hbl : b < s.heap.size) (hz : s.heap.size = b0) (hL : L ≤ 2560) (hi : i + 5 ≤ L) (hI : IV b0 cy g) (hP : MM D (bd b0) 145 g H) (hS : va_S (AB b0) s.heap H []) (hl : lv_has ls 4 (LV b0 b i)) (hf : cells ≤ room_1.cells ∧ slots ≤ room_1.slots) (kk : ∀ (g2 : Nat → va_E) (H2 : Heap), IV b0 cy g2 → MM D (bd b0) 145 g2 H2 → va_S (AB b0) s.heap H2 [] → W p l e room_1 s m args below meth c H2 [] cells slots Q (F0 m 1079 ls [])) : W p l e room_1 s m args below meth c H [] cells slots Q (F0 m 552 ls []) := by
  have hx := S.1
  have hb := S.2.1
  obtain ⟨w, Pw, nx0, un, rf, qc, fc, lf, lt, vc, len, T, Fl, FB, Po, Vl, VV, Sh, SK, ps, hp, hc, hm⟩ := hI
  refine lv_aload_n hx hb dL_law_552 rfl (lv_at hl 2 rfl) ?_
  refine kVi (k := 0) (As := []) (rest := []) S hK hP (kc_why l D cy b0 g w Pw nx0 un rf qc fc lf lt vc len T Fl FB Po Vl VV Sh SK ps hp hc) cv_L_75 (by decide) hc.1 ⟨_, _, rfl⟩ ⟨rfl, rfl⟩ rfl hl.1 rfl (Nat.le_of_ble_eq_true rfl) hf dL_law_553 (fun r1 hr1 => ?_)
  refine lv_aload_n hx hb dL_law_556 rfl (lv_at hl 1 rfl) ?_
  obtain ⟨fs, hgm⟩ := gmO_obj hm.1
  refine kVi (k := 114) (As := []) (rest := [.int r1]) S hK hP (km_why l D cy b0 g w Pw nx0 un rf qc fc lf lt vc len T Fl FB Po Vl VV Sh SK ps hp hm) cv_L_78 (by decide) hgm ⟨_, _, rfl⟩ ⟨rfl, rfl⟩ rfl hl.1 rfl (Nat.le_of_ble_eq_true rfl) hf dL_law_557 (fun r2 hr2 => ?_)
  have er : r1 = r2 := hr1.trans hr2.symm
  subst er
  refine lv_icmp_eq (tgt := 1079) hx hb dL_law_560 (by decide) (fun _ => ?_) (fun z => absurd rfl z)
  exact kk _ _ ⟨_, _, _, _, _, _, _, _, _, _, _, _, _, _, _, _, _, _, _, _, hp, hc, hm⟩ hP hS
set_option maxHeartbeats 1000000 in
theorem lc_back (S : CallFix p m c cL_law 4 s args wsL_law RL) (hK : va_K D vwCl (tyv cy) s) (hX : va_X b L xs s s.heap) (hbl : b < s.heap.size) (hz : s.heap.size = b0) (hL : L ≤ 2560) (hi : i + 5 ≤ L) (hI : IV b0 cy g) (hP : MM D (bd b0) 145 g H) (hS : va_S (AB b0) s.heap H []) (hl : lv_has ls 4 (LV b0 b i)) (hf : cells ≤ room_1.cells ∧ slots ≤ room_1.slots) (kk : ∀ (g2 : Nat → va_E) (H2 : Heap), IV b0 cy g2 → MM D (bd b0) 145 g2 H2 → va_S (AB b0) s.heap H2 [] → W p l e room_1 s m args below meth c H2 [] cells slots Q (F0 m 1079 ls [])) : W p l e room_1 s m args below meth c H [] cells slots Q (F0 m 565 ls []) := by
  have hx := S.1
  have hb := S.2.1
  obtain ⟨w, Pw, nx0, un, rf, qc, fc, lf, lt, vc, len, T, Fl, FB, Po, Vl, VV, Sh, SK, ps, hp, hc, hm⟩ := hI
  refine lv_aload_n hx hb dL_law_565 rfl (lv_at hl 2 rfl) ?_
  refine lrd (k := 1) (pc5 := 571) S hX hbl hz hL (by omega) hS hl (by decide) (by decide) rfl dL_law_566 dL_law_567 dL_law_568 dL_law_569 dL_law_570 ?_
  refine kMi (k := 0) (As := [.int (xs (i + 1))]) (rest := []) S hK hP hS AA_AB (kc_back l D cy b0 g w Pw nx0 un rf qc fc lf lt vc len T Fl FB Po Vl VV Sh SK ps hp hc (xs (i + 1))) cv_L_79 (by decide) hc.1 ⟨_, _, rfl⟩ ⟨rfl, rfl⟩ rfl hl.1 rfl (Nat.le_of_ble_eq_true rfl) hf dL_law_571 (fun r1 g1 H1 locs1 q1 hP1 hS1 => ?_)
  obtain ⟨hr1, hc1, hf1⟩ := q1
  have hm1 := MIv_fr hm (fun j a _ => hf1 j a)
  obtain ⟨hq, hS1⟩ := SB_fresh hz hS1
  refine W.fresh hq ?_
  refine lv_aload_n hx hb dL_law_574 rfl (lv_at hl 1 rfl) ?_
  refine lrd (k := 1) (pc5 := 580) S hX hbl hz hL (by omega) hS1 hl (by decide) (by decide) rfl dL_law_575 dL_law_576 dL_law_577 dL_law_578 dL_law_579 ?_
  obtain ⟨fs, hgm⟩ := gmO_obj hm1.1
  refine kMi (k := 114) (As := [.int (xs (i + 1))]) (rest := [.int r1]) S hK hP1 hS1 AA_AB (km_back l D cy b0 g1 w Pw nx0 un rf qc fc lf lt vc len T Fl FB Po Vl VV Sh SK ps hp hm1 (xs (i + 1))) cv_L_82 (by decide) hgm ⟨_, _, rfl⟩ ⟨rfl, rfl⟩ rfl hl.1 rfl (Nat.le_of_ble_eq_true rfl) hf dL_law_580 (fun r2 g2 H2 locs1 q1 hP2 hS2 => ?_)
  obtain ⟨hr2, hm2, hf2⟩ := q1
  have hc2 := CIv_fr hc1 (fun j _ a => hf2 j a)
  obtain ⟨hq, hS2⟩ := SB_fresh hz hS2
  refine W.fresh hq ?_
  have er : r1 = r2 := hr1.trans hr2.symm
  subst er
  refine lv_icmp_eq (tgt := 1079) hx hb dL_law_583 (by decide) (fun _ => ?_) (fun z => absurd rfl z)
  exact kk _ _ ⟨_, _, _, _, _, _, _, _, _, _, _, _, _, _, _, _, _, _, _, _, (gp_back hp hm (xs (i + 1))), hc2, hm2⟩ hP2 hS2
set_option maxHeartbeats 1000000 in
theorem lc_order (S : CallFix p m c cL_law 4 s args wsL_law RL) (hK : va_K D vwCl (tyv cy) s) (hX : va_X b L xs s s.heap) (hbl : b < s.heap.size) (hz : s.heap.size = b0) (hL : L ≤ 2560) (hi : i + 5 ≤ L) (hI : IV b0 cy g) (hP : MM D (bd b0) 145 g H) (hS : va_S (AB b0) s.heap H []) (hl : lv_has ls 4 (LV b0 b i)) (hf : cells ≤ room_1.cells ∧ slots ≤ room_1.slots) (kk : ∀ (g2 : Nat → va_E) (H2 : Heap), IV b0 cy g2 → MM D (bd b0) 145 g2 H2 → va_S (AB b0) s.heap H2 [] → W p l e room_1 s m args below meth c H2 [] cells slots Q (F0 m 1079 ls [])) : W p l e room_1 s m args below meth c H [] cells slots Q (F0 m 588 ls []) := by
  have hx := S.1
  have hb := S.2.1
  obtain ⟨w, Pw, nx0, un, rf, qc, fc, lf, lt, vc, len, T, Fl, FB, Po, Vl, VV, Sh, SK, ps, hp, hc, hm⟩ := hI
  refine lv_aload_n hx hb dL_law_588 rfl (lv_at hl 2 rfl) ?_
  refine lrd (k := 1) (pc5 := 594) S hX hbl hz hL (by omega) hS hl (by decide) (by decide) rfl dL_law_589 dL_law_590 dL_law_591 dL_law_592 dL_law_593 ?_
  refine kMi (k := 0) (As := [.int (xs (i + 1))]) (rest := []) S hK hP hS AA_AB (kc_order l D cy b0 g w Pw nx0 un rf qc fc lf lt vc len T Fl FB Po Vl VV Sh SK ps hp hc (xs (i + 1))) cv_L_83 (by decide) hc.1 ⟨_, _, rfl⟩ ⟨rfl, rfl⟩ rfl hl.1 rfl (Nat.le_of_ble_eq_true rfl) hf dL_law_594 (fun r1 g1 H1 locs1 q1 hP1 hS1 => ?_)
  obtain ⟨hr1, hc1, hf1⟩ := q1
  have hm1 := MIv_fr hm (fun j a _ => hf1 j a)
  obtain ⟨hq, hS1⟩ := SB_fresh hz hS1
  refine W.fresh hq ?_
  refine lv_aload_n hx hb dL_law_597 rfl (lv_at hl 1 rfl) ?_
  refine lrd (k := 1) (pc5 := 603) S hX hbl hz hL (by omega) hS1 hl (by decide) (by decide) rfl dL_law_598 dL_law_599 dL_law_600 dL_law_601 dL_law_602 ?_
  obtain ⟨fs, hgm⟩ := gmO_obj hm1.1
  refine kMi (k := 114) (As := [.int (xs (i + 1))]) (rest := [.int r1]) S hK hP1 hS1 AA_AB (km_order l D cy b0 g1 w Pw nx0 un rf qc fc lf lt vc len T Fl FB Po Vl VV Sh SK ps hp hm1 (xs (i + 1))) cv_L_86 (by decide) hgm ⟨_, _, rfl⟩ ⟨rfl, rfl⟩ rfl hl.1 rfl (Nat.le_of_ble_eq_true rfl) hf dL_law_603 (fun r2 g2 H2 locs1 q1 hP2 hS2 => ?_)
  obtain ⟨hr2, hm2, hf2⟩ := q1
  have hc2 := CIv_fr hc1 (fun j _ a => hf2 j a)
  obtain ⟨hq, hS2⟩ := SB_fresh hz hS2
  refine W.fresh hq ?_
  have er : r1 = r2 := hr1.trans hr2.symm
  subst er
  refine lv_icmp_eq (tgt := 1079) hx hb dL_law_606 (by decide) (fun _ => ?_) (fun z => absurd rfl z)
  exact kk _ _ ⟨_, _, _, _, _, _, _, _, _, _, _, _, _, _, _, _, _, _, _, _, hp, hc2, hm2⟩ hP2 hS2
set_option maxHeartbeats 1000000 in
theorem lc_mirrors (S : CallFix p m c cL_law 4 s args wsL_law RL) (hK : va_K D vwCl (tyv cy) s) (hX : va_X b L xs s s.heap) (hbl : b < s.heap.size) (hz : s.heap.size = b0) (hL : L ≤ 2560) (hi : i + 5 ≤ L) (hI : IV b0 cy g) (hP : MM D (bd b0) 145 g H) (hS : va_S (AB b0) s.heap H []) (hl : lv_has ls 4 (LV b0 b i)) (hf : cells ≤ room_1.cells ∧ slots ≤ room_1.slots) (kk : ∀ (g2 : Nat → va_E) (H2 : Heap), IV b0 cy g2 → MM D (bd b0) 145 g2 H2 → va_S (AB b0) s.heap H2 [] → W p l e room_1 s m args below meth c H2 [] cells slots Q (F0 m 1079 ls [])) : W p l e room_1 s m args below meth c H [] cells slots Q (F0 m 611 ls []) := by
  have hx := S.1
  have hb := S.2.1
  obtain ⟨w, Pw, nx0, un, rf, qc, fc, lf, lt, vc, len, T, Fl, FB, Po, Vl, VV, Sh, SK, ps, hp, hc, hm⟩ := hI
  refine lv_aload_n hx hb dL_law_611 rfl (lv_at hl 2 rfl) ?_
  refine lrd (k := 1) (pc5 := 617) S hX hbl hz hL (by omega) hS hl (by decide) (by decide) rfl dL_law_612 dL_law_613 dL_law_614 dL_law_615 dL_law_616 ?_
  refine kMi (k := 0) (As := [.int (xs (i + 1))]) (rest := []) S hK hP hS AA_AB (kc_mirrors l D cy b0 g w Pw nx0 un rf qc fc lf lt vc len T Fl FB Po Vl VV Sh SK ps hp hc (xs (i + 1))) cv_L_87 (by decide) hc.1 ⟨_, _, rfl⟩ ⟨rfl, rfl⟩ rfl hl.1 rfl (Nat.le_of_ble_eq_true rfl) hf dL_law_617 (fun r1 g1 H1 locs1 q1 hP1 hS1 => ?_)
  obtain ⟨hr1, hc1, hf1⟩ := q1
  have hm1 := MIv_fr hm (fun j a _ => hf1 j a)
  obtain ⟨hq, hS1⟩ := SB_fresh hz hS1
  refine W.fresh hq ?_
  refine lv_aload_n hx hb dL_law_620 rfl (lv_at hl 1 rfl) ?_
  refine lrd (k := 1) (pc5 := 626) S hX hbl hz hL (by omega) hS1 hl (by decide) (by decide) rfl dL_law_621 dL_law_622 dL_law_623 dL_law_624 dL_law_625 ?_
  obtain ⟨fs, hgm⟩ := gmO_obj hm1.1
  refine kMi (k := 114) (As := [.int (xs (i + 1))]) (rest := [.int r1]) S hK hP1 hS1 AA_AB (km_mirrors l D cy b0 g1 w Pw nx0 un rf qc fc lf lt vc len T Fl FB Po Vl VV Sh SK ps hp hm1 (xs (i + 1))) cv_L_90 (by decide) hgm ⟨_, _, rfl⟩ ⟨rfl, rfl⟩ rfl hl.1 rfl (Nat.le_of_ble_eq_true rfl) hf dL_law_626 (fun r2 g2 H2 locs1 q1 hP2 hS2 => ?_)
  obtain ⟨hr2, hm2, hf2⟩ := q1
  have hc2 := CIv_fr hc1 (fun j _ a => hf2 j a)
  obtain ⟨hq, hS2⟩ := SB_fresh hz hS2
  refine W.fresh hq ?_
  have er : r1 = r2 := hr1.trans hr2.symm
  subst er
  refine lv_icmp_eq (tgt := 1079) hx hb dL_law_629 (by decide) (fun _ => ?_) (fun z => absurd rfl z)
  exact kk _ _ ⟨_, _, _, _, _, _, _, _, _, _, _, _, _, _, _, _, _, _, _, _, hp, hc2, hm2⟩ hP2 hS2
set_option maxHeartbeats 1000000 in
theorem lc_keep (S : CallFix p m c cL_law 4 s args wsL_law RL) (hK : va_K D vwCl (tyv cy) s) (hX : va_X b L xs s s.heap) (hbl : b < s.heap.size) (hz : s.heap.size = b0) (hL : L ≤ 2560) (hi : i + 5 ≤ L) (hI : IV b0 cy g) (hP : MM D (bd b0) 145 g H) (hS : va_S (AB b0) s.heap H []) (hl : lv_has ls 4 (LV b0 b i)) (hf : cells ≤ room_1.cells ∧ slots ≤ room_1.slots) (kk : ∀ (g2 : Nat → va_E) (H2 : Heap), IV b0 cy g2 → MM D (bd b0) 145 g2 H2 → va_S (AB b0) s.heap H2 [] → W p l e room_1 s m args below meth c H2 [] cells slots Q (F0 m 1079 ls [])) : W p l e room_1 s m args below meth c H [] cells slots Q (F0 m 634 ls []) := by
  have hx := S.1
  have hb := S.2.1
  obtain ⟨w, Pw, nx0, un, rf, qc, fc, lf, lt, vc, len, T, Fl, FB, Po, Vl, VV, Sh, SK, ps, hp, hc, hm⟩ := hI
  refine lv_aload_n hx hb dL_law_634 rfl (lv_at hl 2 rfl) ?_
  refine kMi (k := 0) (As := []) (rest := []) S hK hP hS AA_AB (kc_keep l D cy b0 g w Pw nx0 un rf qc fc lf lt vc len T Fl FB Po Vl VV Sh SK ps hp hc) cv_L_91 (by decide) hc.1 ⟨_, _, rfl⟩ ⟨rfl, rfl⟩ rfl hl.1 rfl (Nat.le_of_ble_eq_true rfl) hf dL_law_635 (fun r1 g1 H1 locs1 q1 hP1 hS1 => ?_)
  obtain ⟨hr1, hc1, hf1⟩ := q1
  have hm1 := MIv_fr hm (fun j a _ => hf1 j a)
  obtain ⟨hq, hS1⟩ := SB_fresh hz hS1
  refine W.fresh hq ?_
  refine lv_aload_n hx hb dL_law_638 rfl (lv_at hl 1 rfl) ?_
  obtain ⟨fs, hgm⟩ := gmO_obj hm1.1
  refine kMi (k := 114) (As := []) (rest := [.int r1]) S hK hP1 hS1 AA_AB (km_keep l D cy b0 g1 w Pw nx0 un rf qc fc lf lt vc len T Fl FB Po Vl VV Sh SK ps hp hm1) cv_L_94 (by decide) hgm ⟨_, _, rfl⟩ ⟨rfl, rfl⟩ rfl hl.1 rfl (Nat.le_of_ble_eq_true rfl) hf dL_law_639 (fun r2 g2 H2 locs1 q1 hP2 hS2 => ?_)
  obtain ⟨hr2, hm2, hf2⟩ := q1
  have hc2 := CIv_fr hc1 (fun j _ a => hf2 j a)
  obtain ⟨hq, hS2⟩ := SB_fresh hz hS2
  refine W.fresh hq ?_
  have er : r1 = r2 := hr1.trans hr2.symm
  subst er
  refine lv_icmp_eq (tgt := 1079) hx hb dL_law_642 (by decide) (fun _ => ?_) (fun z => absurd rfl z)
  exact kk _ _ ⟨_, _, _, _, _, _, _, _, _, _, _, _, _, _, _, _, _, _, _, _, (gp_keep hp hm), hc2, hm2⟩ hP2 hS2
set_option maxHeartbeats 1000000 in
theorem lc_stand (S : CallFix p m c cL_law 4 s args wsL_law RL) (hK : va_K D vwCl (tyv cy) s) (hX : va_X b L xs s s.heap) (hbl : b < s.heap.size) (hz : s.heap.size = b0) (hL : L ≤ 2560) (hi : i + 5 ≤ L) (hI : IV b0 cy g) (hP : MM D (bd b0) 145 g H) (hS : va_S (AB b0) s.heap H []) (hl : lv_has ls 4 (LV b0 b i)) (hf : cells ≤ room_1.cells ∧ slots ≤ room_1.slots) (kk : ∀ (g2 : Nat → va_E) (H2 : Heap), IV b0 cy g2 → MM D (bd b0) 145 g2 H2 → va_S (AB b0) s.heap H2 [] → W p l e room_1 s m args below meth c H2 [] cells slots Q (F0 m 1079 ls [])) : W p l e room_1 s m args below meth c H [] cells slots Q (F0 m 647 ls []) := by
  have hx := S.1
  have hb := S.2.1
  obtain ⟨w, Pw, nx0, un, rf, qc, fc, lf, lt, vc, len, T, Fl, FB, Po, Vl, VV, Sh, SK, ps, hp, hc, hm⟩ := hI
  refine lv_aload_n hx hb dL_law_647 rfl (lv_at hl 2 rfl) ?_
  refine lrd (k := 1) (pc5 := 653) S hX hbl hz hL (by omega) hS hl (by decide) (by decide) rfl dL_law_648 dL_law_649 dL_law_650 dL_law_651 dL_law_652 ?_
  refine kMi (k := 0) (As := [.int (xs (i + 1))]) (rest := []) S hK hP hS AA_AB (kc_stand l D cy b0 g w Pw nx0 un rf qc fc lf lt vc len T Fl FB Po Vl VV Sh SK ps hp hc (xs (i + 1))) cv_L_95 (by decide) hc.1 ⟨_, _, rfl⟩ ⟨rfl, rfl⟩ rfl hl.1 rfl (Nat.le_of_ble_eq_true rfl) hf dL_law_653 (fun r1 g1 H1 locs1 q1 hP1 hS1 => ?_)
  obtain ⟨hr1, hc1, hf1⟩ := q1
  have hm1 := MIv_fr hm (fun j a _ => hf1 j a)
  obtain ⟨hq, hS1⟩ := SB_fresh hz hS1
  refine W.fresh hq ?_
  refine lv_aload_n hx hb dL_law_656 rfl (lv_at hl 1 rfl) ?_
  refine lrd (k := 1) (pc5 := 662) S hX hbl hz hL (by omega) hS1 hl (by decide) (by decide) rfl dL_law_657 dL_law_658 dL_law_659 dL_law_660 dL_law_661 ?_
  obtain ⟨fs, hgm⟩ := gmO_obj hm1.1
  refine kMi (k := 114) (As := [.int (xs (i + 1))]) (rest := [.int r1]) S hK hP1 hS1 AA_AB (km_stand l D cy b0 g1 w Pw nx0 un rf qc fc lf lt vc len T Fl FB Po Vl VV Sh SK ps hp hm1 (xs (i + 1))) cv_L_98 (by decide) hgm ⟨_, _, rfl⟩ ⟨rfl, rfl⟩ rfl hl.1 rfl (Nat.le_of_ble_eq_true rfl) hf dL_law_662 (fun r2 g2 H2 locs1 q1 hP2 hS2 => ?_)
  obtain ⟨hr2, hm2, hf2⟩ := q1
  have hc2 := CIv_fr hc1 (fun j _ a => hf2 j a)
  obtain ⟨hq, hS2⟩ := SB_fresh hz hS2
  refine W.fresh hq ?_
  have er : r1 = r2 := hr1.trans hr2.symm
  subst er
  refine lv_icmp_eq (tgt := 1079) hx hb dL_law_665 (by decide) (fun _ => ?_) (fun z => absurd rfl z)
  exact kk _ _ ⟨_, _, _, _, _, _, _, _, _, _, _, _, _, _, _, _, _, _, _, _, (gp_stand hp hm (xs (i + 1))), hc2, hm2⟩ hP2 hS2
set_option maxHeartbeats 1000000 in
theorem lc_alike (S : CallFix p m c cL_law 4 s args wsL_law RL) (hK : va_K D vwCl (tyv cy) s) (hX : va_X b L xs s s.heap) (hbl : b < s.heap.size) (hz : s.heap.size = b0) (hL : L ≤ 2560) (hi : i + 5 ≤ L) (hI : IV b0 cy g) (hP : MM D (bd b0) 145 g H) (hS : va_S (AB b0) s.heap H []) (hl : lv_has ls 4 (LV b0 b i)) (hf : cells ≤ room_1.cells ∧ slots ≤ room_1.slots) (kk : ∀ (g2 : Nat → va_E) (H2 : Heap), IV b0 cy g2 → MM D (bd b0) 145 g2 H2 → va_S (AB b0) s.heap H2 [] → W p l e room_1 s m args below meth c H2 [] cells slots Q (F0 m 1079 ls [])) : W p l e room_1 s m args below meth c H [] cells slots Q (F0 m 670 ls []) := by
  have hx := S.1
  have hb := S.2.1
  obtain ⟨w, Pw, nx0, un, rf, qc, fc, lf, lt, vc, len, T, Fl, FB, Po, Vl, VV, Sh, SK, ps, hp, hc, hm⟩ := hI
  refine lv_aload_n hx hb dL_law_670 rfl (lv_at hl 2 rfl) ?_
  refine lrd (k := 1) (pc5 := 676) S hX hbl hz hL (by omega) hS hl (by decide) (by decide) rfl dL_law_671 dL_law_672 dL_law_673 dL_law_674 dL_law_675 ?_
  refine kVi (k := 0) (As := [.int (xs (i + 1))]) (rest := []) S hK hP (kc_alike l D cy b0 g w Pw nx0 un rf qc fc lf lt vc len T Fl FB Po Vl VV Sh SK ps hp hc (xs (i + 1))) cv_L_99 (by decide) hc.1 ⟨_, _, rfl⟩ ⟨rfl, rfl⟩ rfl hl.1 rfl (Nat.le_of_ble_eq_true rfl) hf dL_law_676 (fun r1 hr1 => ?_)
  refine lv_aload_n hx hb dL_law_679 rfl (lv_at hl 1 rfl) ?_
  refine lrd (k := 1) (pc5 := 685) S hX hbl hz hL (by omega) hS hl (by decide) (by decide) rfl dL_law_680 dL_law_681 dL_law_682 dL_law_683 dL_law_684 ?_
  obtain ⟨fs, hgm⟩ := gmO_obj hm.1
  refine kVi (k := 114) (As := [.int (xs (i + 1))]) (rest := [.int r1]) S hK hP (km_alike l D cy b0 g w Pw nx0 un rf qc fc lf lt vc len T Fl FB Po Vl VV Sh SK ps hp hm (xs (i + 1))) cv_L_102 (by decide) hgm ⟨_, _, rfl⟩ ⟨rfl, rfl⟩ rfl hl.1 rfl (Nat.le_of_ble_eq_true rfl) hf dL_law_685 (fun r2 hr2 => ?_)
  have er : r1 = r2 := hr1.trans hr2.symm
  subst er
  refine lv_icmp_eq (tgt := 1079) hx hb dL_law_688 (by decide) (fun _ => ?_) (fun z => absurd rfl z)
  exact kk _ _ ⟨_, _, _, _, _, _, _, _, _, _, _, _, _, _, _, _, _, _, _, _, hp, hc, hm⟩ hP hS
set_option maxHeartbeats 1000000 in
theorem lc_way (S : CallFix p m c cL_law 4 s args wsL_law RL) (hK : va_K D vwCl (tyv cy) s) (hX : va_X b L xs s s.heap) (hbl : b < s.heap.size) (hz : s.heap.size = b0) (hL : L ≤ 2560) (hi : i + 5 ≤ L) (hI : IV b0 cy g) (hP : MM D (bd b0) 145 g H) (hS : va_S (AB b0) s.heap H []) (hl : lv_has ls 4 (LV b0 b i)) (hf : cells ≤ room_1.cells ∧ slots ≤ room_1.slots) (kk : ∀ (g2 : Nat → va_E) (H2 : Heap), IV b0 cy g2 → MM D (bd b0) 145 g2 H2 → va_S (AB b0) s.heap H2 [] → W p l e room_1 s m args below meth c H2 [] cells slots Q (F0 m 1079 ls [])) : W p l e room_1 s m args below meth c H [] cells slots Q (F0 m 693 ls []) := by
  have hx := S.1
  have hb := S.2.1
  obtain ⟨w, Pw, nx0, un, rf, qc, fc, lf, lt, vc, len, T, Fl, FB, Po, Vl, VV, Sh, SK, ps, hp, hc, hm⟩ := hI
  refine lv_aload_n hx hb dL_law_693 rfl (lv_at hl 2 rfl) ?_
  refine lrd (k := 1) (pc5 := 699) S hX hbl hz hL (by omega) hS hl (by decide) (by decide) rfl dL_law_694 dL_law_695 dL_law_696 dL_law_697 dL_law_698 ?_
  refine kMi (k := 0) (As := [.int (xs (i + 1))]) (rest := []) S hK hP hS AA_AB (kc_way l D cy b0 g w Pw nx0 un rf qc fc lf lt vc len T Fl FB Po Vl VV Sh SK ps hp hc (xs (i + 1))) cv_L_103 (by decide) hc.1 ⟨_, _, rfl⟩ ⟨rfl, rfl⟩ rfl hl.1 rfl (Nat.le_of_ble_eq_true rfl) hf dL_law_699 (fun r1 g1 H1 locs1 q1 hP1 hS1 => ?_)
  obtain ⟨u2, t2, hw2, hr1, hc1, hf1⟩ := q1
  have hm1 := MIv_fr hm (fun j a _ => hf1 j a)
  obtain ⟨hq, hS1⟩ := SB_fresh hz hS1
  refine W.fresh hq ?_
  refine lv_aload_n hx hb dL_law_702 rfl (lv_at hl 1 rfl) ?_
  refine lrd (k := 1) (pc5 := 708) S hX hbl hz hL (by omega) hS1 hl (by decide) (by decide) rfl dL_law_703 dL_law_704 dL_law_705 dL_law_706 dL_law_707 ?_
  obtain ⟨fs, hgm⟩ := gmO_obj hm1.1
  refine kMi (k := 114) (As := [.int (xs (i + 1))]) (rest := [.int r1]) S hK hP1 hS1 AA_AB (km_way l D cy b0 g1 w Pw nx0 un rf qc fc lf lt vc len T Fl FB Po Vl VV Sh SK ps hp hm1 (xs (i + 1)) u2 t2 hw2) cv_L_106 (by decide) hgm ⟨_, _, rfl⟩ ⟨rfl, rfl⟩ rfl hl.1 rfl (Nat.le_of_ble_eq_true rfl) hf dL_law_708 (fun r2 g2 H2 locs1 q1 hP2 hS2 => ?_)
  obtain ⟨hr2, hm2, hf2⟩ := q1
  have hc2 := CIv_fr hc1 (fun j _ a => hf2 j a)
  obtain ⟨hq, hS2⟩ := SB_fresh hz hS2
  refine W.fresh hq ?_
  have er : r1 = r2 := hr1.trans hr2.symm
  subst er
  refine lv_icmp_eq (tgt := 1079) hx hb dL_law_711 (by decide) (fun _ => ?_) (fun z => absurd rfl z)
  exact kk _ _ ⟨_, _, _, _, _, _, _, _, _, _, _, _, _, _, _, _, _, _, _, _, hp, hc2, hm2⟩ hP2 hS2
set_option maxHeartbeats 1000000 in
theorem lc_wayAt (S : CallFix p m c cL_law 4 s args wsL_law RL) (hK : va_K D vwCl (tyv cy) s) (hX : va_X b L xs s s.heap) (hbl : b < s.heap.size) (hz : s.heap.size = b0) (hL : L ≤ 2560) (hi : i + 5 ≤ L) (hI : IV b0 cy g) (hP : MM D (bd b0) 145 g H) (hS : va_S (AB b0) s.heap H []) (hl : lv_has ls 4 (LV b0 b i)) (hf : cells ≤ room_1.cells ∧ slots ≤ room_1.slots) (kk : ∀ (g2 : Nat → va_E) (H2 : Heap), IV b0 cy g2 → MM D (bd b0) 145 g2 H2 → va_S (AB b0) s.heap H2 [] → W p l e room_1 s m args below meth c H2 [] cells slots Q (F0 m 1079 ls [])) : W p l e room_1 s m args below meth c H [] cells slots Q (F0 m 716 ls []) := by
  have hx := S.1
  have hb := S.2.1
  obtain ⟨w, Pw, nx0, un, rf, qc, fc, lf, lt, vc, len, T, Fl, FB, Po, Vl, VV, Sh, SK, ps, hp, hc, hm⟩ := hI
  refine lv_aload_n hx hb dL_law_716 rfl (lv_at hl 2 rfl) ?_
  refine lrd (k := 1) (pc5 := 722) S hX hbl hz hL (by omega) hS hl (by decide) (by decide) rfl dL_law_717 dL_law_718 dL_law_719 dL_law_720 dL_law_721 ?_
  refine lrd (k := 2) (pc5 := 727) S hX hbl hz hL (by omega) hS hl (by decide) (by decide) rfl dL_law_722 dL_law_723 dL_law_724 dL_law_725 dL_law_726 ?_
  refine kMi (k := 0) (As := [.int (xs (i + 1)), .int (xs (i + 2))]) (rest := []) S hK hP hS AA_AB (kc_wayAt l D cy b0 g w Pw nx0 un rf qc fc lf lt vc len T Fl FB Po Vl VV Sh SK ps hp hc (xs (i + 1)) (xs (i + 2))) cv_L_107 (by decide) hc.1 ⟨_, _, rfl⟩ ⟨rfl, rfl⟩ rfl hl.1 rfl (Nat.le_of_ble_eq_true rfl) hf dL_law_727 (fun r1 g1 H1 locs1 q1 hP1 hS1 => ?_)
  obtain ⟨u2, t2, hw2, hr1, hc1, hf1⟩ := q1
  have hm1 := MIv_fr hm (fun j a _ => hf1 j a)
  obtain ⟨hq, hS1⟩ := SB_fresh hz hS1
  refine W.fresh hq ?_
  refine lv_aload_n hx hb dL_law_730 rfl (lv_at hl 1 rfl) ?_
  refine lrd (k := 1) (pc5 := 736) S hX hbl hz hL (by omega) hS1 hl (by decide) (by decide) rfl dL_law_731 dL_law_732 dL_law_733 dL_law_734 dL_law_735 ?_
  refine lrd (k := 2) (pc5 := 741) S hX hbl hz hL (by omega) hS1 hl (by decide) (by decide) rfl dL_law_736 dL_law_737 dL_law_738 dL_law_739 dL_law_740 ?_
  obtain ⟨fs, hgm⟩ := gmO_obj hm1.1
  refine kMi (k := 114) (As := [.int (xs (i + 1)), .int (xs (i + 2))]) (rest := [.int r1]) S hK hP1 hS1 AA_AB (km_wayAt l D cy b0 g1 w Pw nx0 un rf qc fc lf lt vc len T Fl FB Po Vl VV Sh SK ps hp hm1 (xs (i + 1)) (xs (i + 2)) u2 t2 hw2) cv_L_110 (by decide) hgm ⟨_, _, rfl⟩ ⟨rfl, rfl⟩ rfl hl.1 rfl (Nat.le_of_ble_eq_true rfl) hf dL_law_741 (fun r2 g2 H2 locs1 q1 hP2 hS2 => ?_)
  obtain ⟨hr2, hm2, hf2⟩ := q1
  have hc2 := CIv_fr hc1 (fun j _ a => hf2 j a)
  obtain ⟨hq, hS2⟩ := SB_fresh hz hS2
  refine W.fresh hq ?_
  have er : r1 = r2 := hr1.trans hr2.symm
  subst er
  refine lv_icmp_eq (tgt := 1079) hx hb dL_law_744 (by decide) (fun _ => ?_) (fun z => absurd rfl z)
  exact kk _ _ ⟨_, _, _, _, _, _, _, _, _, _, _, _, _, _, _, _, _, _, _, _, hp, hc2, hm2⟩ hP2 hS2
set_option maxHeartbeats 1000000 in
theorem lc_met (S : CallFix p m c cL_law 4 s args wsL_law RL) (hK : va_K D vwCl (tyv cy) s) (hX : va_X b L xs s s.heap) (hbl : b < s.heap.size) (hz : s.heap.size = b0) (hL : L ≤ 2560) (hi : i + 5 ≤ L) (hI : IV b0 cy g) (hP : MM D (bd b0) 145 g H) (hS : va_S (AB b0) s.heap H []) (hl : lv_has ls 4 (LV b0 b i)) (hf : cells ≤ room_1.cells ∧ slots ≤ room_1.slots) (kk : ∀ (g2 : Nat → va_E) (H2 : Heap), IV b0 cy g2 → MM D (bd b0) 145 g2 H2 → va_S (AB b0) s.heap H2 [] → W p l e room_1 s m args below meth c H2 [] cells slots Q (F0 m 1079 ls [])) : W p l e room_1 s m args below meth c H [] cells slots Q (F0 m 749 ls []) := by
  have hx := S.1
  have hb := S.2.1
  obtain ⟨w, Pw, nx0, un, rf, qc, fc, lf, lt, vc, len, T, Fl, FB, Po, Vl, VV, Sh, SK, ps, hp, hc, hm⟩ := hI
  refine lv_aload_n hx hb dL_law_749 rfl (lv_at hl 2 rfl) ?_
  refine lrd (k := 1) (pc5 := 755) S hX hbl hz hL (by omega) hS hl (by decide) (by decide) rfl dL_law_750 dL_law_751 dL_law_752 dL_law_753 dL_law_754 ?_
  refine kMi (k := 0) (As := [.int (xs (i + 1))]) (rest := []) S hK hP hS AA_AB (kc_met l D cy b0 g w Pw nx0 un rf qc fc lf lt vc len T Fl FB Po Vl VV Sh SK ps hp hc (xs (i + 1))) cv_L_111 (by decide) hc.1 ⟨_, _, rfl⟩ ⟨rfl, rfl⟩ rfl hl.1 rfl (Nat.le_of_ble_eq_true rfl) hf dL_law_755 (fun r1 g1 H1 locs1 q1 hP1 hS1 => ?_)
  obtain ⟨u2, t2, hw2, hr1, hc1, hf1⟩ := q1
  have hm1 := MIv_fr hm (fun j a _ => hf1 j a)
  obtain ⟨hq, hS1⟩ := SB_fresh hz hS1
  refine W.fresh hq ?_
  refine lv_aload_n hx hb dL_law_758 rfl (lv_at hl 1 rfl) ?_
  refine lrd (k := 1) (pc5 := 764) S hX hbl hz hL (by omega) hS1 hl (by decide) (by decide) rfl dL_law_759 dL_law_760 dL_law_761 dL_law_762 dL_law_763 ?_
  obtain ⟨fs, hgm⟩ := gmO_obj hm1.1
  refine kMi (k := 114) (As := [.int (xs (i + 1))]) (rest := [.int r1]) S hK hP1 hS1 AA_AB (km_met l D cy b0 g1 w Pw nx0 un rf qc fc lf lt vc len T Fl FB Po Vl VV Sh SK ps hp hm1 (xs (i + 1)) u2 t2 hw2) cv_L_114 (by decide) hgm ⟨_, _, rfl⟩ ⟨rfl, rfl⟩ rfl hl.1 rfl (Nat.le_of_ble_eq_true rfl) hf dL_law_764 (fun r2 g2 H2 locs1 q1 hP2 hS2 => ?_)
  obtain ⟨hr2, hm2, hf2⟩ := q1
  have hc2 := CIv_fr hc1 (fun j _ a => hf2 j a)
  obtain ⟨hq, hS2⟩ := SB_fresh hz hS2
  refine W.fresh hq ?_
  have er : r1 = r2 := hr1.trans hr2.symm
  subst er
  refine lv_icmp_eq (tgt := 1079) hx hb dL_law_767 (by decide) (fun _ => ?_) (fun z => absurd rfl z)
  exact kk _ _ ⟨_, _, _, _, _, _, _, _, _, _, _, _, _, _, _, _, _, _, _, _, hp, hc2, hm2⟩ hP2 hS2
set_option maxHeartbeats 1000000 in
theorem lc_village (S : CallFix p m c cL_law 4 s args wsL_law RL) (hK : va_K D vwCl (tyv cy) s) (hX : va_X b L xs s s.heap) (hbl : b < s.heap.size) (hz : s.heap.size = b0) (hL : L ≤ 2560) (hi : i + 5 ≤ L) (hI : IV b0 cy g) (hP : MM D (bd b0) 145 g H) (hS : va_S (AB b0) s.heap H []) (hl : lv_has ls 4 (LV b0 b i)) (hf : cells ≤ room_1.cells ∧ slots ≤ room_1.slots) (kk : ∀ (g2 : Nat → va_E) (H2 : Heap), IV b0 cy g2 → MM D (bd b0) 145 g2 H2 → va_S (AB b0) s.heap H2 [] → W p l e room_1 s m args below meth c H2 [] cells slots Q (F0 m 1079 ls [])) : W p l e room_1 s m args below meth c H [] cells slots Q (F0 m 772 ls []) := by
  have hx := S.1
  have hb := S.2.1
  obtain ⟨w, Pw, nx0, un, rf, qc, fc, lf, lt, vc, len, T, Fl, FB, Po, Vl, VV, Sh, SK, ps, hp, hc, hm⟩ := hI
  refine lv_aload_n hx hb dL_law_772 rfl (lv_at hl 2 rfl) ?_
  refine kMi (k := 0) (As := []) (rest := []) S hK hP hS AA_AB (kc_village l D cy b0 g w Pw nx0 un rf qc fc lf lt vc len T Fl FB Po Vl VV Sh SK ps hp hc) cv_L_115 (by decide) hc.1 ⟨_, _, rfl⟩ ⟨rfl, rfl⟩ rfl hl.1 rfl (Nat.le_of_ble_eq_true rfl) hf dL_law_773 (fun r1 g1 H1 locs1 q1 hP1 hS1 => ?_)
  obtain ⟨hr1, hc1, hf1⟩ := q1
  have hm1 := MIv_fr hm (fun j a _ => hf1 j a)
  obtain ⟨hq, hS1⟩ := SB_fresh hz hS1
  refine W.fresh hq ?_
  refine lv_aload_n hx hb dL_law_776 rfl (lv_at hl 1 rfl) ?_
  obtain ⟨fs, hgm⟩ := gmO_obj hm1.1
  refine kMi (k := 114) (As := []) (rest := [.int r1]) S hK hP1 hS1 AA_AB (km_village l D cy b0 g1 w Pw nx0 un rf qc fc lf lt vc len T Fl FB Po Vl VV Sh SK ps hp hm1) cv_L_118 (by decide) hgm ⟨_, _, rfl⟩ ⟨rfl, rfl⟩ rfl hl.1 rfl (Nat.le_of_ble_eq_true rfl) hf dL_law_777 (fun r2 g2 H2 locs1 q1 hP2 hS2 => ?_)
  obtain ⟨hr2, hm2, hf2⟩ := q1
  have hc2 := CIv_fr hc1 (fun j _ a => hf2 j a)
  obtain ⟨hq, hS2⟩ := SB_fresh hz hS2
  refine W.fresh hq ?_
  have er : r1 = r2 := hr1.trans hr2.symm
  subst er
  refine lv_icmp_eq (tgt := 1079) hx hb dL_law_780 (by decide) (fun _ => ?_) (fun z => absurd rfl z)
  exact kk _ _ ⟨_, _, _, _, _, _, _, _, _, _, _, _, _, _, _, _, _, _, _, _, (gp_village hp hm), hc2, hm2⟩ hP2 hS2
set_option maxHeartbeats 1000000 in
theorem lc_add (S : CallFix p m c cL_law 4 s args wsL_law RL) (hK : va_K D vwCl (tyv cy) s) (hX : va_X b L xs s s.heap) (hbl : b < s.heap.size) (hz : s.heap.size = b0) (hL : L ≤ 2560) (hi : i + 5 ≤ L) (hI : IV b0 cy g) (hP : MM D (bd b0) 145 g H) (hS : va_S (AB b0) s.heap H []) (hl : lv_has ls 4 (LV b0 b i)) (hf : cells ≤ room_1.cells ∧ slots ≤ room_1.slots) (kk : ∀ (g2 : Nat → va_E) (H2 : Heap), IV b0 cy g2 → MM D (bd b0) 145 g2 H2 → va_S (AB b0) s.heap H2 [] → W p l e room_1 s m args below meth c H2 [] cells slots Q (F0 m 1079 ls [])) : W p l e room_1 s m args below meth c H [] cells slots Q (F0 m 785 ls []) := by
  have hx := S.1
  have hb := S.2.1
  obtain ⟨w, Pw, nx0, un, rf, qc, fc, lf, lt, vc, len, T, Fl, FB, Po, Vl, VV, Sh, SK, ps, hp, hc, hm⟩ := hI
  refine lv_aload_n hx hb dL_law_785 rfl (lv_at hl 2 rfl) ?_
  refine lrd (k := 1) (pc5 := 791) S hX hbl hz hL (by omega) hS hl (by decide) (by decide) rfl dL_law_786 dL_law_787 dL_law_788 dL_law_789 dL_law_790 ?_
  refine lrd (k := 2) (pc5 := 796) S hX hbl hz hL (by omega) hS hl (by decide) (by decide) rfl dL_law_791 dL_law_792 dL_law_793 dL_law_794 dL_law_795 ?_
  refine kMi (k := 0) (As := [.int (xs (i + 1)), .int (xs (i + 2))]) (rest := []) S hK hP hS AA_AB (kc_add l D cy b0 g w Pw nx0 un rf qc fc lf lt vc len T Fl FB Po Vl VV Sh SK ps hp hc (xs (i + 1)) (xs (i + 2))) cv_L_119 (by decide) hc.1 ⟨_, _, rfl⟩ ⟨rfl, rfl⟩ rfl hl.1 rfl (Nat.le_of_ble_eq_true rfl) hf dL_law_796 (fun r1 g1 H1 locs1 q1 hP1 hS1 => ?_)
  obtain ⟨hr1, hc1, hf1⟩ := q1
  have hm1 := MIv_fr hm (fun j a _ => hf1 j a)
  obtain ⟨hq, hS1⟩ := SB_fresh hz hS1
  refine W.fresh hq ?_
  refine lv_aload_n hx hb dL_law_799 rfl (lv_at hl 1 rfl) ?_
  refine lrd (k := 1) (pc5 := 805) S hX hbl hz hL (by omega) hS1 hl (by decide) (by decide) rfl dL_law_800 dL_law_801 dL_law_802 dL_law_803 dL_law_804 ?_
  refine lrd (k := 2) (pc5 := 810) S hX hbl hz hL (by omega) hS1 hl (by decide) (by decide) rfl dL_law_805 dL_law_806 dL_law_807 dL_law_808 dL_law_809 ?_
  obtain ⟨fs, hgm⟩ := gmO_obj hm1.1
  refine kMi (k := 114) (As := [.int (xs (i + 1)), .int (xs (i + 2))]) (rest := [.int r1]) S hK hP1 hS1 AA_AB (km_add l D cy b0 g1 w Pw nx0 un rf qc fc lf lt vc len T Fl FB Po Vl VV Sh SK ps hp hm1 (xs (i + 1)) (xs (i + 2))) cv_L_122 (by decide) hgm ⟨_, _, rfl⟩ ⟨rfl, rfl⟩ rfl hl.1 rfl (Nat.le_of_ble_eq_true rfl) hf dL_law_810 (fun r2 g2 H2 locs1 q1 hP2 hS2 => ?_)
  obtain ⟨hr2, hm2, hf2⟩ := q1
  have hc2 := CIv_fr hc1 (fun j _ a => hf2 j a)
  obtain ⟨hq, hS2⟩ := SB_fresh hz hS2
  refine W.fresh hq ?_
  have er : r1 = r2 := hr1.trans hr2.symm
  subst er
  refine lv_icmp_eq (tgt := 1079) hx hb dL_law_813 (by decide) (fun _ => ?_) (fun z => absurd rfl z)
  exact kk _ _ ⟨_, _, _, _, _, _, _, _, _, _, _, _, _, _, _, _, _, _, _, _, (gp_add hp hm (xs (i + 1)) (xs (i + 2))), hc2, hm2⟩ hP2 hS2
set_option maxHeartbeats 1000000 in
theorem lc_danceOf (S : CallFix p m c cL_law 4 s args wsL_law RL) (hK : va_K D vwCl (tyv cy) s) (hX : va_X b L xs s s.heap) (hbl : b < s.heap.size) (hz : s.heap.size = b0) (hL : L ≤ 2560) (hi : i + 5 ≤ L) (hI : IV b0 cy g) (hP : MM D (bd b0) 145 g H) (hS : va_S (AB b0) s.heap H []) (hl : lv_has ls 4 (LV b0 b i)) (hf : cells ≤ room_1.cells ∧ slots ≤ room_1.slots) (kk : ∀ (g2 : Nat → va_E) (H2 : Heap), IV b0 cy g2 → MM D (bd b0) 145 g2 H2 → va_S (AB b0) s.heap H2 [] → W p l e room_1 s m args below meth c H2 [] cells slots Q (F0 m 1079 ls [])) : W p l e room_1 s m args below meth c H [] cells slots Q (F0 m 818 ls []) := by
  have hx := S.1
  have hb := S.2.1
  obtain ⟨w, Pw, nx0, un, rf, qc, fc, lf, lt, vc, len, T, Fl, FB, Po, Vl, VV, Sh, SK, ps, hp, hc, hm⟩ := hI
  refine lv_aload_n hx hb dL_law_818 rfl (lv_at hl 2 rfl) ?_
  refine lrd (k := 1) (pc5 := 824) S hX hbl hz hL (by omega) hS hl (by decide) (by decide) rfl dL_law_819 dL_law_820 dL_law_821 dL_law_822 dL_law_823 ?_
  refine lrd (k := 2) (pc5 := 829) S hX hbl hz hL (by omega) hS hl (by decide) (by decide) rfl dL_law_824 dL_law_825 dL_law_826 dL_law_827 dL_law_828 ?_
  refine kVi (k := 0) (As := [.int (xs (i + 1)), .int (xs (i + 2))]) (rest := []) S hK hP (kc_danceOf l D cy b0 g w Pw nx0 un rf qc fc lf lt vc len T Fl FB Po Vl VV Sh SK ps hp hc (xs (i + 1)) (xs (i + 2))) cv_L_123 (by decide) hc.1 ⟨_, _, rfl⟩ ⟨rfl, rfl⟩ rfl hl.1 rfl (Nat.le_of_ble_eq_true rfl) hf dL_law_829 (fun r1 hr1 => ?_)
  refine lv_aload_n hx hb dL_law_832 rfl (lv_at hl 1 rfl) ?_
  refine lrd (k := 1) (pc5 := 838) S hX hbl hz hL (by omega) hS hl (by decide) (by decide) rfl dL_law_833 dL_law_834 dL_law_835 dL_law_836 dL_law_837 ?_
  refine lrd (k := 2) (pc5 := 843) S hX hbl hz hL (by omega) hS hl (by decide) (by decide) rfl dL_law_838 dL_law_839 dL_law_840 dL_law_841 dL_law_842 ?_
  obtain ⟨fs, hgm⟩ := gmO_obj hm.1
  refine kVi (k := 114) (As := [.int (xs (i + 1)), .int (xs (i + 2))]) (rest := [.int r1]) S hK hP (km_danceOf l D cy b0 g w Pw nx0 un rf qc fc lf lt vc len T Fl FB Po Vl VV Sh SK ps hp hm (xs (i + 1)) (xs (i + 2))) cv_L_126 (by decide) hgm ⟨_, _, rfl⟩ ⟨rfl, rfl⟩ rfl hl.1 rfl (Nat.le_of_ble_eq_true rfl) hf dL_law_843 (fun r2 hr2 => ?_)
  have er : r1 = r2 := hr1.trans hr2.symm
  subst er
  refine lv_icmp_eq (tgt := 1079) hx hb dL_law_846 (by decide) (fun _ => ?_) (fun z => absurd rfl z)
  exact kk _ _ ⟨_, _, _, _, _, _, _, _, _, _, _, _, _, _, _, _, _, _, _, _, hp, hc, hm⟩ hP hS
set_option maxHeartbeats 1000000 in
theorem lc_shared (S : CallFix p m c cL_law 4 s args wsL_law RL) (hK : va_K D vwCl (tyv cy) s) (hX : va_X b L xs s s.heap) (hbl : b < s.heap.size) (hz : s.heap.size = b0) (hL : L ≤ 2560) (hi : i + 5 ≤ L) (hI : IV b0 cy g) (hP : MM D (bd b0) 145 g H) (hS : va_S (AB b0) s.heap H []) (hl : lv_has ls 4 (LV b0 b i)) (hf : cells ≤ room_1.cells ∧ slots ≤ room_1.slots) (kk : ∀ (g2 : Nat → va_E) (H2 : Heap), IV b0 cy g2 → MM D (bd b0) 145 g2 H2 → va_S (AB b0) s.heap H2 [] → W p l e room_1 s m args below meth c H2 [] cells slots Q (F0 m 1079 ls [])) : W p l e room_1 s m args below meth c H [] cells slots Q (F0 m 851 ls []) := by
  have hx := S.1
  have hb := S.2.1
  obtain ⟨w, Pw, nx0, un, rf, qc, fc, lf, lt, vc, len, T, Fl, FB, Po, Vl, VV, Sh, SK, ps, hp, hc, hm⟩ := hI
  refine lv_aload_n hx hb dL_law_851 rfl (lv_at hl 2 rfl) ?_
  refine lrd (k := 1) (pc5 := 857) S hX hbl hz hL (by omega) hS hl (by decide) (by decide) rfl dL_law_852 dL_law_853 dL_law_854 dL_law_855 dL_law_856 ?_
  refine lrd (k := 2) (pc5 := 862) S hX hbl hz hL (by omega) hS hl (by decide) (by decide) rfl dL_law_857 dL_law_858 dL_law_859 dL_law_860 dL_law_861 ?_
  refine lrd (k := 3) (pc5 := 867) S hX hbl hz hL (by omega) hS hl (by decide) (by decide) rfl dL_law_862 dL_law_863 dL_law_864 dL_law_865 dL_law_866 ?_
  refine kMi (k := 0) (As := [.int (xs (i + 1)), .int (xs (i + 2)), .int (xs (i + 3))]) (rest := []) S hK hP hS AA_AB (kc_shared l D cy b0 g w Pw nx0 un rf qc fc lf lt vc len T Fl FB Po Vl VV Sh SK ps hp hc (xs (i + 1)) (xs (i + 2)) (xs (i + 3))) cv_L_127 (by decide) hc.1 ⟨_, _, rfl⟩ ⟨rfl, rfl⟩ rfl hl.1 rfl (Nat.le_of_ble_eq_true rfl) hf dL_law_867 (fun r1 g1 H1 locs1 q1 hP1 hS1 => ?_)
  obtain ⟨hr1, hc1, hf1⟩ := q1
  have hm1 := MIv_fr hm (fun j a _ => hf1 j a)
  obtain ⟨hq, hS1⟩ := SB_fresh hz hS1
  refine W.fresh hq ?_
  refine lv_aload_n hx hb dL_law_870 rfl (lv_at hl 1 rfl) ?_
  refine lrd (k := 1) (pc5 := 876) S hX hbl hz hL (by omega) hS1 hl (by decide) (by decide) rfl dL_law_871 dL_law_872 dL_law_873 dL_law_874 dL_law_875 ?_
  refine lrd (k := 2) (pc5 := 881) S hX hbl hz hL (by omega) hS1 hl (by decide) (by decide) rfl dL_law_876 dL_law_877 dL_law_878 dL_law_879 dL_law_880 ?_
  refine lrd (k := 3) (pc5 := 886) S hX hbl hz hL (by omega) hS1 hl (by decide) (by decide) rfl dL_law_881 dL_law_882 dL_law_883 dL_law_884 dL_law_885 ?_
  obtain ⟨fs, hgm⟩ := gmO_obj hm1.1
  refine kMi (k := 114) (As := [.int (xs (i + 1)), .int (xs (i + 2)), .int (xs (i + 3))]) (rest := [.int r1]) S hK hP1 hS1 AA_AB (km_shared l D cy b0 g1 w Pw nx0 un rf qc fc lf lt vc len T Fl FB Po Vl VV Sh SK ps hp hm1 (xs (i + 1)) (xs (i + 2)) (xs (i + 3))) cv_L_131 (by decide) hgm ⟨_, _, rfl⟩ ⟨rfl, rfl⟩ rfl hl.1 rfl (Nat.le_of_ble_eq_true rfl) hf dL_law_886 (fun r2 g2 H2 locs1 q1 hP2 hS2 => ?_)
  obtain ⟨hr2, hm2, hf2⟩ := q1
  have hc2 := CIv_fr hc1 (fun j _ a => hf2 j a)
  obtain ⟨hq, hS2⟩ := SB_fresh hz hS2
  refine W.fresh hq ?_
  have er : r1 = r2 := hr1.trans hr2.symm
  subst er
  refine lv_icmp_eq (tgt := 1079) hx hb dL_law_889 (by decide) (fun _ => ?_) (fun z => absurd rfl z)
  exact kk _ _ ⟨_, _, _, _, _, _, _, _, _, _, _, _, _, _, _, _, _, _, _, _, hp, hc2, hm2⟩ hP2 hS2
set_option maxHeartbeats 1000000 in
theorem lc_perform (S : CallFix p m c cL_law 4 s args wsL_law RL) (hK : va_K D vwCl (tyv cy) s) (hX : va_X b L xs s s.heap) (hbl : b < s.heap.size) (hz : s.heap.size = b0) (hL : L ≤ 2560) (hi : i + 5 ≤ L) (hI : IV b0 cy g) (hP : MM D (bd b0) 145 g H) (hS : va_S (AB b0) s.heap H []) (hl : lv_has ls 4 (LV b0 b i)) (hf : cells ≤ room_1.cells ∧ slots ≤ room_1.slots) (kk : ∀ (g2 : Nat → va_E) (H2 : Heap), IV b0 cy g2 → MM D (bd b0) 145 g2 H2 → va_S (AB b0) s.heap H2 [] → W p l e room_1 s m args below meth c H2 [] cells slots Q (F0 m 1079 ls [])) : W p l e room_1 s m args below meth c H [] cells slots Q (F0 m 894 ls []) := by
  have hx := S.1
  have hb := S.2.1
  obtain ⟨w, Pw, nx0, un, rf, qc, fc, lf, lt, vc, len, T, Fl, FB, Po, Vl, VV, Sh, SK, ps, hp, hc, hm⟩ := hI
  refine lv_aload_n hx hb dL_law_894 rfl (lv_at hl 2 rfl) ?_
  refine lrd (k := 1) (pc5 := 900) S hX hbl hz hL (by omega) hS hl (by decide) (by decide) rfl dL_law_895 dL_law_896 dL_law_897 dL_law_898 dL_law_899 ?_
  refine kMi (k := 0) (As := [.int (xs (i + 1))]) (rest := []) S hK hP hS AA_AB (kc_perform l D cy b0 g w Pw nx0 un rf qc fc lf lt vc len T Fl FB Po Vl VV Sh SK ps hp hc (xs (i + 1))) cv_L_132 (by decide) hc.1 ⟨_, _, rfl⟩ ⟨rfl, rfl⟩ rfl hl.1 rfl (Nat.le_of_ble_eq_true rfl) hf dL_law_900 (fun r1 g1 H1 locs1 q1 hP1 hS1 => ?_)
  obtain ⟨hr1, hc1, hf1⟩ := q1
  have hm1 := MIv_fr hm (fun j a _ => hf1 j a)
  obtain ⟨hq, hS1⟩ := SB_fresh hz hS1
  refine W.fresh hq ?_
  refine lv_aload_n hx hb dL_law_903 rfl (lv_at hl 1 rfl) ?_
  refine lrd (k := 1) (pc5 := 909) S hX hbl hz hL (by omega) hS1 hl (by decide) (by decide) rfl dL_law_904 dL_law_905 dL_law_906 dL_law_907 dL_law_908 ?_
  obtain ⟨fs, hgm⟩ := gmO_obj hm1.1
  refine kMi (k := 114) (As := [.int (xs (i + 1))]) (rest := [.int r1]) S hK hP1 hS1 AA_AB (km_perform l D cy b0 g1 w Pw nx0 un rf qc fc lf lt vc len T Fl FB Po Vl VV Sh SK ps hp hm1 (xs (i + 1))) cv_L_135 (by decide) hgm ⟨_, _, rfl⟩ ⟨rfl, rfl⟩ rfl hl.1 rfl (Nat.le_of_ble_eq_true rfl) hf dL_law_909 (fun r2 g2 H2 locs1 q1 hP2 hS2 => ?_)
  obtain ⟨hr2, hm2, hf2⟩ := q1
  have hc2 := CIv_fr hc1 (fun j _ a => hf2 j a)
  obtain ⟨hq, hS2⟩ := SB_fresh hz hS2
  refine W.fresh hq ?_
  have er : r1 = r2 := hr1.trans hr2.symm
  subst er
  refine lv_icmp_eq (tgt := 1079) hx hb dL_law_912 (by decide) (fun _ => ?_) (fun z => absurd rfl z)
  exact kk _ _ ⟨_, _, _, _, _, _, _, _, _, _, _, _, _, _, _, _, _, _, _, _, (gp_perform hp hm (xs (i + 1))), hc2, hm2⟩ hP2 hS2
set_option maxHeartbeats 1000000 in
theorem lc_sheet (S : CallFix p m c cL_law 4 s args wsL_law RL) (hK : va_K D vwCl (tyv cy) s) (hX : va_X b L xs s s.heap) (hbl : b < s.heap.size) (hz : s.heap.size = b0) (hL : L ≤ 2560) (hi : i + 5 ≤ L) (hI : IV b0 cy g) (hP : MM D (bd b0) 145 g H) (hS : va_S (AB b0) s.heap H []) (hl : lv_has ls 4 (LV b0 b i)) (hf : cells ≤ room_1.cells ∧ slots ≤ room_1.slots) (kk : ∀ (g2 : Nat → va_E) (H2 : Heap), IV b0 cy g2 → MM D (bd b0) 145 g2 H2 → va_S (AB b0) s.heap H2 [] → W p l e room_1 s m args below meth c H2 [] cells slots Q (F0 m 1079 ls [])) : W p l e room_1 s m args below meth c H [] cells slots Q (F0 m 917 ls []) := by
  have hx := S.1
  have hb := S.2.1
  obtain ⟨w, Pw, nx0, un, rf, qc, fc, lf, lt, vc, len, T, Fl, FB, Po, Vl, VV, Sh, SK, ps, hp, hc, hm⟩ := hI
  refine lv_aload_n hx hb dL_law_917 rfl (lv_at hl 2 rfl) ?_
  refine lrd (k := 1) (pc5 := 923) S hX hbl hz hL (by omega) hS hl (by decide) (by decide) rfl dL_law_918 dL_law_919 dL_law_920 dL_law_921 dL_law_922 ?_
  refine lrd (k := 2) (pc5 := 928) S hX hbl hz hL (by omega) hS hl (by decide) (by decide) rfl dL_law_923 dL_law_924 dL_law_925 dL_law_926 dL_law_927 ?_
  refine lrd (k := 3) (pc5 := 933) S hX hbl hz hL (by omega) hS hl (by decide) (by decide) rfl dL_law_928 dL_law_929 dL_law_930 dL_law_931 dL_law_932 ?_
  refine kMi (k := 0) (As := [.int (xs (i + 1)), .int (xs (i + 2)), .int (xs (i + 3))]) (rest := []) S hK hP hS AA_AB (kc_sheet l D cy b0 g w Pw nx0 un rf qc fc lf lt vc len T Fl FB Po Vl VV Sh SK ps hp hc (xs (i + 1)) (xs (i + 2)) (xs (i + 3))) cv_L_136 (by decide) hc.1 ⟨_, _, rfl⟩ ⟨rfl, rfl⟩ rfl hl.1 rfl (Nat.le_of_ble_eq_true rfl) hf dL_law_933 (fun r1 g1 H1 locs1 q1 hP1 hS1 => ?_)
  obtain ⟨hr1, hc1, hf1⟩ := q1
  have hm1 := MIv_fr hm (fun j a _ => hf1 j a)
  obtain ⟨hq, hS1⟩ := SB_fresh hz hS1
  refine W.fresh hq ?_
  refine lv_aload_n hx hb dL_law_936 rfl (lv_at hl 1 rfl) ?_
  refine lrd (k := 1) (pc5 := 942) S hX hbl hz hL (by omega) hS1 hl (by decide) (by decide) rfl dL_law_937 dL_law_938 dL_law_939 dL_law_940 dL_law_941 ?_
  refine lrd (k := 2) (pc5 := 947) S hX hbl hz hL (by omega) hS1 hl (by decide) (by decide) rfl dL_law_942 dL_law_943 dL_law_944 dL_law_945 dL_law_946 ?_
  refine lrd (k := 3) (pc5 := 952) S hX hbl hz hL (by omega) hS1 hl (by decide) (by decide) rfl dL_law_947 dL_law_948 dL_law_949 dL_law_950 dL_law_951 ?_
  obtain ⟨fs, hgm⟩ := gmO_obj hm1.1
  refine kMi (k := 114) (As := [.int (xs (i + 1)), .int (xs (i + 2)), .int (xs (i + 3))]) (rest := [.int r1]) S hK hP1 hS1 AA_AB (km_sheet l D cy b0 g1 w Pw nx0 un rf qc fc lf lt vc len T Fl FB Po Vl VV Sh SK ps hp hm1 (xs (i + 1)) (xs (i + 2)) (xs (i + 3))) cv_L_139 (by decide) hgm ⟨_, _, rfl⟩ ⟨rfl, rfl⟩ rfl hl.1 rfl (Nat.le_of_ble_eq_true rfl) hf dL_law_952 (fun r2 g2 H2 locs1 q1 hP2 hS2 => ?_)
  obtain ⟨hr2, hm2, hf2⟩ := q1
  have hc2 := CIv_fr hc1 (fun j _ a => hf2 j a)
  obtain ⟨hq, hS2⟩ := SB_fresh hz hS2
  refine W.fresh hq ?_
  have er : r1 = r2 := hr1.trans hr2.symm
  subst er
  refine lv_icmp_eq (tgt := 1079) hx hb dL_law_955 (by decide) (fun _ => ?_) (fun z => absurd rfl z)
  exact kk _ _ ⟨_, _, _, _, _, _, _, _, _, _, _, _, _, _, _, _, _, _, _, _, (gp_sheet hp hm (xs (i + 1)) (xs (i + 2)) (xs (i + 3))), hc2, hm2⟩ hP2 hS2
set_option maxHeartbeats 1000000 in
theorem lc_lay (S : CallFix p m c cL_law 4 s args wsL_law RL) (hK : va_K D vwCl (tyv cy) s) (hX : va_X b L xs s s.heap) (hbl : b < s.heap.size) (hz : s.heap.size = b0) (hL : L ≤ 2560) (hi : i + 5 ≤ L) (hI : IV b0 cy g) (hP : MM D (bd b0) 145 g H) (hS : va_S (AB b0) s.heap H []) (hl : lv_has ls 4 (LV b0 b i)) (hf : cells ≤ room_1.cells ∧ slots ≤ room_1.slots) (kk : ∀ (g2 : Nat → va_E) (H2 : Heap), IV b0 cy g2 → MM D (bd b0) 145 g2 H2 → va_S (AB b0) s.heap H2 [] → W p l e room_1 s m args below meth c H2 [] cells slots Q (F0 m 1079 ls [])) : W p l e room_1 s m args below meth c H [] cells slots Q (F0 m 960 ls []) := by
  have hx := S.1
  have hb := S.2.1
  obtain ⟨w, Pw, nx0, un, rf, qc, fc, lf, lt, vc, len, T, Fl, FB, Po, Vl, VV, Sh, SK, ps, hp, hc, hm⟩ := hI
  refine lv_aload_n hx hb dL_law_960 rfl (lv_at hl 2 rfl) ?_
  refine lrd (k := 1) (pc5 := 966) S hX hbl hz hL (by omega) hS hl (by decide) (by decide) rfl dL_law_961 dL_law_962 dL_law_963 dL_law_964 dL_law_965 ?_
  refine lrd (k := 2) (pc5 := 971) S hX hbl hz hL (by omega) hS hl (by decide) (by decide) rfl dL_law_966 dL_law_967 dL_law_968 dL_law_969 dL_law_970 ?_
  refine lrd (k := 3) (pc5 := 976) S hX hbl hz hL (by omega) hS hl (by decide) (by decide) rfl dL_law_971 dL_law_972 dL_law_973 dL_law_974 dL_law_975 ?_
  refine kMi (k := 0) (As := [.int (xs (i + 1)), .int (xs (i + 2)), .int (xs (i + 3))]) (rest := []) S hK hP hS AA_AB (kc_lay l D cy b0 g w Pw nx0 un rf qc fc lf lt vc len T Fl FB Po Vl VV Sh SK ps hp hc (xs (i + 1)) (xs (i + 2)) (xs (i + 3))) cv_L_140 (by decide) hc.1 ⟨_, _, rfl⟩ ⟨rfl, rfl⟩ rfl hl.1 rfl (Nat.le_of_ble_eq_true rfl) hf dL_law_976 (fun r1 g1 H1 locs1 q1 hP1 hS1 => ?_)
  obtain ⟨hr1, hc1, hf1⟩ := q1
  have hm1 := MIv_fr hm (fun j a _ => hf1 j a)
  obtain ⟨hq, hS1⟩ := SB_fresh hz hS1
  refine W.fresh hq ?_
  refine lv_aload_n hx hb dL_law_979 rfl (lv_at hl 1 rfl) ?_
  refine lrd (k := 1) (pc5 := 985) S hX hbl hz hL (by omega) hS1 hl (by decide) (by decide) rfl dL_law_980 dL_law_981 dL_law_982 dL_law_983 dL_law_984 ?_
  refine lrd (k := 2) (pc5 := 990) S hX hbl hz hL (by omega) hS1 hl (by decide) (by decide) rfl dL_law_985 dL_law_986 dL_law_987 dL_law_988 dL_law_989 ?_
  refine lrd (k := 3) (pc5 := 995) S hX hbl hz hL (by omega) hS1 hl (by decide) (by decide) rfl dL_law_990 dL_law_991 dL_law_992 dL_law_993 dL_law_994 ?_
  obtain ⟨fs, hgm⟩ := gmO_obj hm1.1
  refine kMi (k := 114) (As := [.int (xs (i + 1)), .int (xs (i + 2)), .int (xs (i + 3))]) (rest := [.int r1]) S hK hP1 hS1 AA_AB (km_lay l D cy b0 g1 w Pw nx0 un rf qc fc lf lt vc len T Fl FB Po Vl VV Sh SK ps hp hm1 (xs (i + 1)) (xs (i + 2)) (xs (i + 3))) cv_L_143 (by decide) hgm ⟨_, _, rfl⟩ ⟨rfl, rfl⟩ rfl hl.1 rfl (Nat.le_of_ble_eq_true rfl) hf dL_law_995 (fun r2 g2 H2 locs1 q1 hP2 hS2 => ?_)
  obtain ⟨hr2, hm2, hf2⟩ := q1
  have hc2 := CIv_fr hc1 (fun j _ a => hf2 j a)
  obtain ⟨hq, hS2⟩ := SB_fresh hz hS2
  refine W.fresh hq ?_
  have er : r1 = r2 := hr1.trans hr2.symm
  subst er
  refine lv_icmp_eq (tgt := 1079) hx hb dL_law_998 (by decide) (fun _ => ?_) (fun z => absurd rfl z)
  exact kk _ _ ⟨_, _, _, _, _, _, _, _, _, _, _, _, _, _, _, _, _, _, _, _, (gp_lay hp hm (xs (i + 1)) (xs (i + 2)) (xs (i + 3))), hc2, hm2⟩ hP2 hS2
set_option maxHeartbeats 1000000 in
theorem lc_scan (S : CallFix p m c cL_law 4 s args wsL_law RL) (hK : va_K D vwCl (tyv cy) s) (hX : va_X b L xs s s.heap) (hbl : b < s.heap.size) (hz : s.heap.size = b0) (hL : L ≤ 2560) (hi : i + 5 ≤ L) (hI : IV b0 cy g) (hP : MM D (bd b0) 145 g H) (hS : va_S (AB b0) s.heap H []) (hl : lv_has ls 4 (LV b0 b i)) (hf : cells ≤ room_1.cells ∧ slots ≤ room_1.slots) (kk : ∀ (g2 : Nat → va_E) (H2 : Heap), IV b0 cy g2 → MM D (bd b0) 145 g2 H2 → va_S (AB b0) s.heap H2 [] → W p l e room_1 s m args below meth c H2 [] cells slots Q (F0 m 1079 ls [])) : W p l e room_1 s m args below meth c H [] cells slots Q (F0 m 1003 ls []) := by
  have hx := S.1
  have hb := S.2.1
  obtain ⟨w, Pw, nx0, un, rf, qc, fc, lf, lt, vc, len, T, Fl, FB, Po, Vl, VV, Sh, SK, ps, hp, hc, hm⟩ := hI
  refine lv_aload_n hx hb dL_law_1003 rfl (lv_at hl 2 rfl) ?_
  refine lrd (k := 1) (pc5 := 1009) S hX hbl hz hL (by omega) hS hl (by decide) (by decide) rfl dL_law_1004 dL_law_1005 dL_law_1006 dL_law_1007 dL_law_1008 ?_
  refine lrd (k := 2) (pc5 := 1014) S hX hbl hz hL (by omega) hS hl (by decide) (by decide) rfl dL_law_1009 dL_law_1010 dL_law_1011 dL_law_1012 dL_law_1013 ?_
  refine lrd (k := 3) (pc5 := 1019) S hX hbl hz hL (by omega) hS hl (by decide) (by decide) rfl dL_law_1014 dL_law_1015 dL_law_1016 dL_law_1017 dL_law_1018 ?_
  refine lrd (k := 4) (pc5 := 1024) S hX hbl hz hL (by omega) hS hl (by decide) (by decide) rfl dL_law_1019 dL_law_1020 dL_law_1021 dL_law_1022 dL_law_1023 ?_
  refine kMi (k := 0) (As := [.int (xs (i + 1)), .int (xs (i + 2)), .int (xs (i + 3)), .int (xs (i + 4))]) (rest := []) S hK hP hS AA_AB (kc_scan l D cy b0 g w Pw nx0 un rf qc fc lf lt vc len T Fl FB Po Vl VV Sh SK ps hp hc (xs (i + 1)) (xs (i + 2)) (xs (i + 3)) (xs (i + 4))) cv_L_144 (by decide) hc.1 ⟨_, _, rfl⟩ ⟨rfl, rfl⟩ rfl hl.1 rfl (Nat.le_of_ble_eq_true rfl) hf dL_law_1024 (fun r1 g1 H1 locs1 q1 hP1 hS1 => ?_)
  obtain ⟨hr1, hc1, hf1⟩ := q1
  have hm1 := MIv_fr hm (fun j a _ => hf1 j a)
  obtain ⟨hq, hS1⟩ := SB_fresh hz hS1
  refine W.fresh hq ?_
  refine lv_aload_n hx hb dL_law_1027 rfl (lv_at hl 1 rfl) ?_
  refine lrd (k := 1) (pc5 := 1033) S hX hbl hz hL (by omega) hS1 hl (by decide) (by decide) rfl dL_law_1028 dL_law_1029 dL_law_1030 dL_law_1031 dL_law_1032 ?_
  refine lrd (k := 2) (pc5 := 1038) S hX hbl hz hL (by omega) hS1 hl (by decide) (by decide) rfl dL_law_1033 dL_law_1034 dL_law_1035 dL_law_1036 dL_law_1037 ?_
  refine lrd (k := 3) (pc5 := 1043) S hX hbl hz hL (by omega) hS1 hl (by decide) (by decide) rfl dL_law_1038 dL_law_1039 dL_law_1040 dL_law_1041 dL_law_1042 ?_
  refine lrd (k := 4) (pc5 := 1048) S hX hbl hz hL (by omega) hS1 hl (by decide) (by decide) rfl dL_law_1043 dL_law_1044 dL_law_1045 dL_law_1046 dL_law_1047 ?_
  obtain ⟨fs, hgm⟩ := gmO_obj hm1.1
  refine kMi (k := 114) (As := [.int (xs (i + 1)), .int (xs (i + 2)), .int (xs (i + 3)), .int (xs (i + 4))]) (rest := [.int r1]) S hK hP1 hS1 AA_AB (km_scan l D cy b0 g1 w Pw nx0 un rf qc fc lf lt vc len T Fl FB Po Vl VV Sh SK ps hp hm1 (xs (i + 1)) (xs (i + 2)) (xs (i + 3)) (xs (i + 4))) cv_L_148 (by decide) hgm ⟨_, _, rfl⟩ ⟨rfl, rfl⟩ rfl hl.1 rfl (Nat.le_of_ble_eq_true rfl) hf dL_law_1048 (fun r2 g2 H2 locs1 q1 hP2 hS2 => ?_)
  obtain ⟨hr2, hm2, hf2⟩ := q1
  have hc2 := CIv_fr hc1 (fun j _ a => hf2 j a)
  obtain ⟨hq, hS2⟩ := SB_fresh hz hS2
  refine W.fresh hq ?_
  have er : r1 = r2 := hr1.trans hr2.symm
  subst er
  refine lv_icmp_eq (tgt := 1079) hx hb dL_law_1051 (by decide) (fun _ => ?_) (fun z => absurd rfl z)
  exact kk _ _ ⟨_, _, _, _, _, _, _, _, _, _, _, _, _, _, _, _, _, _, _, _, (gp_scan hp hm (xs (i + 1)) (xs (i + 2)) (xs (i + 3)) (xs (i + 4))), hc2, hm2⟩ hP2 hS2
set_option maxHeartbeats 1000000 in
theorem lc_count (S : CallFix p m c cL_law 4 s args wsL_law RL) (hK : va_K D vwCl (tyv cy) s) (hX : va_X b L xs s s.heap) (hbl : b < s.heap.size) (hz : s.heap.size = b0) (hL : L ≤ 2560) (hi : i + 5 ≤ L) (hI : IV b0 cy g) (hP : MM D (bd b0) 145 g H) (hS : va_S (AB b0) s.heap H []) (hl : lv_has ls 4 (LV b0 b i)) (hf : cells ≤ room_1.cells ∧ slots ≤ room_1.slots) (kk : ∀ (g2 : Nat → va_E) (H2 : Heap), IV b0 cy g2 → MM D (bd b0) 145 g2 H2 → va_S (AB b0) s.heap H2 [] → W p l e room_1 s m args below meth c H2 [] cells slots Q (F0 m 1079 ls [])) : W p l e room_1 s m args below meth c H [] cells slots Q (F0 m 1056 ls []) := by
  have hx := S.1
  have hb := S.2.1
  obtain ⟨w, Pw, nx0, un, rf, qc, fc, lf, lt, vc, len, T, Fl, FB, Po, Vl, VV, Sh, SK, ps, hp, hc, hm⟩ := hI
  refine lv_aload_n hx hb dL_law_1056 rfl (lv_at hl 2 rfl) ?_
  refine lrd (k := 1) (pc5 := 1062) S hX hbl hz hL (by omega) hS hl (by decide) (by decide) rfl dL_law_1057 dL_law_1058 dL_law_1059 dL_law_1060 dL_law_1061 ?_
  refine kVi (k := 0) (As := [.int (xs (i + 1))]) (rest := []) S hK hP (kc_count l D cy b0 g w Pw nx0 un rf qc fc lf lt vc len T Fl FB Po Vl VV Sh SK ps hp hc (xs (i + 1))) cv_L_149 (by decide) hc.1 ⟨_, _, rfl⟩ ⟨rfl, rfl⟩ rfl hl.1 rfl (Nat.le_of_ble_eq_true rfl) hf dL_law_1062 (fun r1 hr1 => ?_)
  refine lv_aload_n hx hb dL_law_1065 rfl (lv_at hl 1 rfl) ?_
  refine lrd (k := 1) (pc5 := 1071) S hX hbl hz hL (by omega) hS hl (by decide) (by decide) rfl dL_law_1066 dL_law_1067 dL_law_1068 dL_law_1069 dL_law_1070 ?_
  obtain ⟨fs, hgm⟩ := gmO_obj hm.1
  refine kVi (k := 114) (As := [.int (xs (i + 1))]) (rest := [.int r1]) S hK hP (km_count l D cy b0 g w Pw nx0 un rf qc fc lf lt vc len T Fl FB Po Vl VV Sh SK ps hp hm (xs (i + 1))) cv_L_152 (by decide) hgm ⟨_, _, rfl⟩ ⟨rfl, rfl⟩ rfl hl.1 rfl (Nat.le_of_ble_eq_true rfl) hf dL_law_1071 (fun r2 hr2 => ?_)
  have er : r1 = r2 := hr1.trans hr2.symm
  subst er
  refine lv_icmp_eq (tgt := 1079) hx hb dL_law_1074 (by decide) (fun _ => ?_) (fun z => absurd rfl z)
  exact kk _ _ ⟨_, _, _, _, _, _, _, _, _, _, _, _, _, _, _, _, _, _, _, _, hp, hc, hm⟩ hP hS
end CASES

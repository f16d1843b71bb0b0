theorem fam_up {α : Type} {B x : Nat} {g2 : Nat → va_E} {id : Nat → Nat} {cell : Nat → α → va_E} {W : Nat → α} {v : α} (h1 : ∀ j, j < B → j ≠ x → g2 (id j) = cell j (W j)) (h2 : g2 (id x) = cell x v) : ∀ j, j < B → g2 (id j) = cell j (va_up W x v j) := fun j hj => by
  by_cases e : j = x
  · subst e; rw [va_up_self]; exact h2
  · rw [va_up_ne _ _ e]; exact h1 j hj e
theorem fa_b8 {n : Nat} (h : n < 128) : (nI n).toInt8.toInt32 = nI n := by
  have key : ∀ n, n < 128 → (nI n).toInt8.toInt32 = nI n := by decide +kernel
  exact key n h
theorem fit_b8 {n : Nat} (h : n < 128) : fits .byte (.int (nI n)) = true := by
  have key : ∀ n, n < 128 → fits .byte (.int (nI n)) = true := by decide +kernel
  exact key n h
theorem arrB_up {c : ClassId} {n a v : Nat} {F : Nat → Nat} (h : a < 2 ^ 31) (hv : v < 128) : (Sum.inl (c, n, Sum.inl (upd (fun i => nI (F i)) (nI a).toNatClampNeg (nI v).toInt8.toInt32)) : va_E) = .inl (c, n, .inl (fun i => nI (va_up F a v i))) := by
  rw [fa_b8 hv]; exact arrN_up h
/-- a figure's beats -/
def bt8 (B : Nat → Nat) (len i : Nat) : Nat := if i < len then B i else 48
def apB (B : Nat → Nat) (len v : Nat) : Nat → Nat := if len < 200 then va_up B len v else B
def apL (len : Nat) : Nat := if len < 200 then len + 1 else len
def cpB (B2 B : Nat → Nat) : Nat → Nat := fun i => if i < 200 then B2 i else B i
def acB (B : Nat → Nat) : Nat → Nat
  | 0 => 0
  | m + 1 => acB B m + (if B m / 8 = 6 then 0 else 1)
def grB (B : Nat → Nat) : Nat → Int32
  | 0 => -4
  | m + 1 => if B m / 8 = 6 ∨ B m / 8 = 3 then grB B m else (if grB B m < nI (B m % 8) then nI (B m % 8) else grB B m)
theorem bt8_lt {B : Nat → Nat} {len i : Nat} (h : ∀ i, B i < 64) : bt8 B len i < 64 := by unfold bt8; split; exact h i; omega
theorem bt8_in {B : Nat → Nat} {len i : Nat} (h : i < len) : bt8 B len i = B i := if_pos h
theorem an7 (a : Nat) : a &&& 7 = a % 8 := Nat.and_two_pow_sub_one_eq_mod a 3
theorem apB_lt {B : Nat → Nat} {len v : Nat} (h : ∀ i, B i < 64) (hv : v < 64) : ∀ i, apB B len v i < 64 := fun i => by
  unfold apB va_up; split
  · dsimp only; split; exact hv; exact h i
  · exact h i
theorem cpB_lt {B2 B : Nat → Nat} (h2 : ∀ i, B2 i < 64) (h : ∀ i, B i < 64) : ∀ i, cpB B2 B i < 64 := fun i => by
  unfold cpB; split; exact h2 i; exact h i
section CPY
variable {p : Program} {l : Launch} {e : Env} {R : Room} {s : State} {m : MethodId} {args : Array Value} {below : List Frame} {meth : Method} {c : Code} {H : Heap} {locs : List Loc} {cells slots : Nat} {Q : State → Prop}
variable {cc : ByteArray} {pc nL : Nat} {ls : Array Slot} {rest st0 : List Value} {D : va_G} {cy : Nat → ClassId} {A : Nat → Prop} {H0 : Heap} {ad : Nat → Nat} {N : Nat} {g : Nat → va_E} {own : String}
theorem mcpyB (S : CallFix p m c cc nL s args wsL_law own) (hsz : ls.size = nL) (hK : va_K D vwCl (tyv cy) s) (hP : MM D ad N g H) (hI : MD A ad N) (hS : va_S A H0 H locs) {k k2 idx : Nat} {B B2 : Nat → Nat} (hk : k < N) (hk2 : k2 < N) (hg : g k = .inl (cy 0, 200, .inl (fun i => nI (B i)))) (hg2 : g k2 = .inl (cy 0, 200, .inl (fun i => nI (B2 i)))) (hB2 : ∀ i, B2 i < 64)
    (hl : Cond.methodLink own idx arraycopyName ∈ wsL_law) (hR : 1 ≤ R.frames) (hlo : (rest.map fun v => v.category).sum + (nativeFrameWords "java/lang/System" "arraycopy" 5 + 11) ≤ R.locals) (hdg : decode cc pc = .ok (.invokestatic idx, 3))
    (kk : ∀ (g1 : Nat → va_E) (H1 : Heap) (locs1 : List Loc), g1 = va_up g k (.inl (cy 0, 200, .inl (fun i => nI (cpB B2 B i)))) → MM D ad N g1 H1 → va_S A H0 H1 locs1 → W p l e R s m args below meth c H1 locs1 cells slots Q (F0 m (pc + 3) ls rest)) : W p l e R s m args below meth c H locs cells slots Q (F0 m pc ls (.int (nI 200) :: .int (nI 0) :: .ref (ad k) :: .int (nI 0) :: .ref (ad k2) :: rest)) := by
  have e0 : (nI 0).toNatClampNeg = 0 := nI_clamp (by omega)
  have e2 : (nI 200).toNatClampNeg = 200 := nI_clamp (by omega)
  refine va_copyi (f := fun i => nI (B2 i)) (g := fun i => nI (B i)) (n0 := 200) (n1 := 200) S.1 S.2.1 (S.2.2.1.trans hsz.symm) S.2.2.2.1 (S.2.2.2.2 _ hl) (S.2.2.2.2 _ mv_arraycopyName) (S.2.2.2.2 _ mt_arraycopyName) (S.2.2.2.2 _ mn_java_lang_System) hK hP (hI.D g) hS k2 k 0 0 (by rw [wl_get hk2, hg2]) (by rw [wl_get hk, hg]) rfl rfl rfl (nI_pos (by omega)) (nI_pos (by omega)) (nI_pos (by omega)) (by rw [e0, e2]; omega) (by rw [e0, e2]; omega) (fun i _ => fit_b8 (by have := hB2 ((nI 0).toNatClampNeg + i); omega)) hR hlo hdg (fun H1 locs1 hP1 _ hS1 => kk _ H1 locs1 rfl ?_ hS1)
  rw [wl_set hk, e0, e2] at hP1
  have ef : va_cpy (fun i => nI (B2 i)) (fun i => nI (B i)) 0 0 200 = fun i => nI (cpB B2 B i) := by
    funext j
    unfold va_cpy cpB
    by_cases h : j < 200
    · rw [if_pos ⟨Nat.zero_le _, by omega⟩, if_pos h]; simp
    · rw [if_neg (by omega), if_neg h]
  rw [ef] at hP1
  exact hP1
end CPY
theorem grB_s1 {B : Nat → Nat} {len j : Nat} {m0 : Int32} (hb : bt8 B len j = B j) (hm : m0 = grB B j) (h : bt8 B len j / 8 = 6) : m0 = grB B (j + 1) := by
  rw [hb] at h; rw [grB, if_pos (Or.inl h)]; exact hm
theorem grB_s2 {B : Nat → Nat} {len j : Nat} {m0 : Int32} (hb : bt8 B len j = B j) (hm : m0 = grB B j) (h : bt8 B len j / 8 = 3) : m0 = grB B (j + 1) := by
  rw [hb] at h; rw [grB, if_pos (Or.inr h)]; exact hm
theorem grB_s3 {B : Nat → Nat} {len j : Nat} {m0 : Int32} (hb : bt8 B len j = B j) (hm : m0 = grB B j) (h : ¬ bt8 B len j / 8 = 6) (h2 : ¬ bt8 B len j / 8 = 3) : (if m0 < nI (bt8 B len j % 8) then nI (bt8 B len j % 8) else m0) = grB B (j + 1) := by
  rw [hb] at h h2 ⊢
  have e : grB B (j + 1) = if B j / 8 = 6 ∨ B j / 8 = 3 then grB B j else (if grB B j < nI (B j % 8) then nI (B j % 8) else grB B j) := rfl
  rw [e, if_neg (not_or.mpr ⟨h, h2⟩), hm]
theorem min12 {u : Nat} (hu : u < 2 ^ 30) : (if nI 12 < nI u then nI 12 else nI u) = nI (if u < 12 then u else 12) := by
  by_cases h : u < 12
  · rw [if_pos h, if_neg (nI_nlt (by omega) (by omega))]
  · rw [if_neg h]
    by_cases h2 : u = 12
    · rw [h2, if_neg (nI_nlt (by omega) (by omega))]
    · rw [if_pos (nI_lt (by omega) (by omega))]
def sbk (S : Nat) : Nat := if S = 0 then 1 else if S = 1 then 0 else S
def nbk (n S K : Nat) : Nat := if S = 3 then wr n (n - wr n K) else K
/-- a floor: the weaving, those before, where the next goes, how many can be undone -/
abbrev FS : Type := WT × (Nat → WT) × Nat × Nat
noncomputable def attF (s k : Int32) (F : FS) : Int32 × FS := ((chg F.1 s k).1, ((chg F.1 s k).2, va_up F.2.1 F.2.2.1 F.1, if (chg F.1 s k).1 = 1 then (if F.2.2.1 + 1 < 13 then F.2.2.1 + 1 else 0) else F.2.2.1, if (chg F.1 s k).1 = 1 then (if F.2.2.2 + 1 < 12 then F.2.2.2 + 1 else 12) else F.2.2.2))
noncomputable def beatF (b0 bt : Nat) (F : FS) : Int32 × FS :=
  if b0 = 0 then (if bt / 8 = 6 then (1, F) else attF (nI (bt / 8)) (nI (bt % 8)) F)
  else if bt / 8 = 4 ∨ bt / 8 = 5 then (-2, F) else if bt / 8 = 6 then (1, F) else attF (nI (sbk (bt / 8))) (nI (nbk (wn F.1) (bt / 8) (bt % 8))) F
def bix (len b0 j : Nat) : Nat := if b0 = 0 then j else len - 1 - j
noncomputable def rn (B : Nat → Nat) (len b0 : Nat) (F0 : FS) : Nat → Nat × Int32 × FS
  | 0 => (0, 0, F0)
  | j + 1 => if (rn B len b0 F0 j).2.1 = 0 then (if (beatF b0 (B (bix len b0 j)) (rn B len b0 F0 j).2.2).1 = 1 then ((rn B len b0 F0 j).1 + 1, 0, (beatF b0 (B (bix len b0 j)) (rn B len b0 F0 j).2.2).2) else ((rn B len b0 F0 j).1, (beatF b0 (B (bix len b0 j)) (rn B len b0 F0 j).2.2).1, (beatF b0 (B (bix len b0 j)) (rn B len b0 F0 j).2.2).2)) else rn B len b0 F0 j
theorem rn_go {B : Nat → Nat} {len b0 j : Nat} {F0 F F1 : FS} {a : Int32} (h : rn B len b0 F0 j = (j, 0, F)) (hb : beatF b0 (B (bix len b0 j)) F = (a, F1)) (ha : a = 1) : rn B len b0 F0 (j + 1) = (j + 1, 0, F1) := by
  rw [rn, h]; dsimp only
  rw [if_pos rfl, hb]; dsimp only; rw [if_pos ha]
theorem rn_stop {B : Nat → Nat} {len b0 j : Nat} {F0 F F1 : FS} {a : Int32} (h : rn B len b0 F0 j = (j, 0, F)) (hb : beatF b0 (B (bix len b0 j)) F = (a, F1)) (ha : ¬ a = 1) (ha0 : ¬ a = 0) : ∀ d, rn B len b0 F0 (j + 1 + d) = (j, a, F1)
  | 0 => by
    show rn B len b0 F0 (j + 1) = _
    rw [rn, h]; dsimp only
    rw [if_pos rfl, hb]; dsimp only; rw [if_neg ha]
  | d + 1 => by
    have q := rn_stop h hb ha ha0 d
    show rn B len b0 F0 (j + 1 + d + 1) = _
    rw [rn, q]; dsimp only; rw [if_neg ha0]
theorem pR_ne (x : Option Nat) : ¬ pR x = 0 := by
  cases x
  · show ¬ (-5 : Int32) = 0; decide
  · show ¬ (1 : Int32) = 0; decide
theorem nx13 {q : Prop} [Decidable q] {a : Nat} (h : a < 13) : (if q then (if a + 1 < 13 then a + 1 else 0) else a) < 13 := by
  split
  · split <;> omega
  · exact h
theorem un12 {q : Prop} [Decidable q] {a : Nat} (h : a ≤ 12) : (if q then (if a + 1 < 12 then a + 1 else 12) else a) ≤ 12 := by
  split
  · split <;> omega
  · exact h
theorem chgN_ne {w : WT} {S K : Nat} : ¬ (chgN w S K).1 = 0 := by
  unfold chgN
  split
  · exact pR_ne _
  · split
    · show ¬ (1 : Int32) = 0; decide
    · split
      · show ¬ (1 : Int32) = 0; decide
      · split
        · split
          · show ¬ (1 : Int32) = 0; decide
          · show ¬ (-2 : Int32) = 0; decide
        · split
          · show ¬ (1 : Int32) = 0; decide
          · show ¬ (-2 : Int32) = 0; decide
theorem chg_ne {w : WT} {s k : Int32} : ¬ (chg w s k).1 = 0 := by
  by_cases h : isA (wn w) s k
  · have : chg w s k = chgN w s.toNatClampNeg k.toNatClampNeg := by unfold chg; exact if_pos h
    rw [this]; exact chgN_ne
  · rw [chg_no h]; show ¬ (-1 : Int32) = 0; decide
theorem bt_f6 {bt : Nat} {F : FS} (h : bt / 8 = 6) : beatF 0 bt F = (1, F) := by unfold beatF; rw [if_pos rfl, if_pos h]
theorem bt_fa {bt : Nat} {F : FS} (h : ¬ bt / 8 = 6) : beatF 0 bt F = attF (nI (bt / 8)) (nI (bt % 8)) F := by unfold beatF; rw [if_pos rfl, if_neg h]
theorem bt_b4 {b0 bt : Nat} {F : FS} (h0 : ¬ b0 = 0) (h : bt / 8 = 4 ∨ bt / 8 = 5) : beatF b0 bt F = (-2, F) := by unfold beatF; rw [if_neg h0, if_pos h]
theorem bt_b6 {b0 bt : Nat} {F : FS} (h0 : ¬ b0 = 0) (h : bt / 8 = 6) : beatF b0 bt F = (1, F) := by unfold beatF; rw [if_neg h0, if_neg (by omega), if_pos h]
theorem bt_ba {b0 bt : Nat} {F : FS} (h0 : ¬ b0 = 0) (h1 : ¬ bt / 8 = 4) (h2 : ¬ bt / 8 = 5) (h : ¬ bt / 8 = 6) : beatF b0 bt F = attF (nI (sbk (bt / 8))) (nI (nbk (wn F.1) (bt / 8) (bt % 8))) F := by unfold beatF; rw [if_neg h0, if_neg (by omega), if_neg h]
def FOK (F : FS) : Prop := WOK F.1 ∧ (∀ j, j < 13 → WOK (F.2.1 j)) ∧ F.2.2.1 < 13 ∧ F.2.2.2 ≤ 12
theorem attF_ok {F : FS} {s k : Int32} (h : FOK F) : FOK (attF s k F).2 ∧ wn (attF s k F).2.1 = wn F.1 := by
  obtain ⟨h1, h2, h3, h4⟩ := h
  have hc := chg_ok (s := s) (k := k) h1
  refine ⟨⟨hc.1, fun j hj => ?_, ?_, ?_⟩, hc.2⟩
  · show WOK (va_up F.2.1 F.2.2.1 F.1 j)
    unfold va_up; split
    · exact h1
    · exact h2 j hj
  · exact nx13 h3
  · exact un12 h4


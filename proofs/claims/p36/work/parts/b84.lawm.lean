-- the law's own walk: lemmas of its stretches
section SXI
variable {p : Program} {l : Launch} {e : Env} {R : Room} {s : State} {m : MethodId} {args : Array Value} {below : List Frame} {meth : Method} {c : Code} {H : Heap} {locs : List Loc} {cells slots : Nat} {Q : State → Prop}
variable {cc : ByteArray} {pc nL : Nat} {ls : Array Slot} {rest st0 : List Value} {D : va_G} {cy : Nat → ClassId} {ad : Nat → Nat} {N : Nat} {g : Nat → va_E} {own : String} {sq sv : Nat} {A : Nat → Prop}
variable {y : MethodName} {bb : ByteArray} {maxL f lo n idx : Nat} {ret : Option FieldType} {As : List Value}
/-- a static call that reaches the constant and changes the memory, int -/
theorem kSXi {post : Int32 → (Nat → va_E) → Prop} (S : CallFix p m c cc nL s args wsL_law own) (hK : va_K D vwCl (tyv cy) s) (hP : MM D ad N g H) (hX : XF A sq sv s s.heap) (hA : ∀ q, AA ad N q → A q) (hS : va_S A s.heap H locs) (hM : Met l y (WS y bb maxL ret) (rmF f lo) (PPX As D cy ad N g sq sv) (QI post D ad N) 0 0 (AA ad N)) (hl : CS own idx y bb maxL ret n) (hR : CR R f lo maxL) (hn : As.length = n) (hsz : ls.size = nL) (hst : st0 = As.reverse ++ rest) (hW : (rest.map fun v => v.category).sum ≤ 8) (hf : cells ≤ R.cells ∧ slots ≤ R.slots) (hdg : decode cc pc = .ok (.invokestatic idx, 3))
    (kk : ∀ (r : Int32) (g1 : Nat → va_E) (H1 : Heap) (locs1 : List Loc), post r g1 → MM D ad N g1 H1 → va_S A s.heap H1 locs1 → W p l e R s m args below meth c H1 locs1 cells slots Q (F0 m (pc + 3) ls (.int r :: rest))) : W p l e R s m args below meth c H locs cells slots Q (F0 m pc ls st0) := by
  have hXH : XF A sq sv s H := ⟨hX.1.kept hS.2.1, hX.2⟩
  have hX2 := hXH.mono hA
  have hpre : PreS s H (PPX As D cy ad N g sq sv) As := ⟨PPX.blind, fun U hU hW => ⟨rfl, by rw [hU]; exact hP, va_K.moved hW.alike hK, by show SF (AA ad N) sq sv U U.heap; rw [hU]; exact SF.moved hW.alike hX2.1, vk_R.warm hW hX2.2⟩⟩
  exact va_calli (va_runS S hM (csB S hl hR) hpre rfl hn hsz hst (lv_room hW) hdg hf) hS (fun q _ h => hA q h) hA (fun r u t H1 locs1 ht _ hp hB _ _ hS1 => kk r u H1 locs1 hp (by rw [← ht]; exact hB) hS1)
end SXI
theorem dI_sub (a : Nat) : nI a - nI 1 = dI a := by
  cases a with
  | zero => decide
  | succ a => rw [pk_sub (by omega), dI_s, Nat.add_sub_cancel]
theorem fig_le {xs : Nat → Int32} {L fr n : Nat} : (fgR xs L fr n (fgI xs L fr)).1 ≤ 36 := by
  have h1 := fgR_1 (xs := xs) (L := L) (fr := fr) (n := n) (fgI xs L fr)
  have h2 := fgI_b (xs := xs) (L := L) (fr := fr)
  omega
theorem perf_all {FB FBq : Nat → Nat → Nat} {Fl Flq O : Nat → Nat} {Vl : Nat → Nat} {VV : Nat → Nat → Nat} {a : Nat} {w : WT} {S : FS × Int32 × Int32} (hVO : VV 0 = O) (hVa : Vl 0 = a) (hw : WOK w) (hFl : ∀ j, Fl j ≤ 200) (hO : ∀ k, O k < 4) (hco : ∀ f, f < 4 → Fl f = Flq f ∧ ∀ i, i < Fl f → FB f i = FBq f i) (hok : ∀ i, i < a → (dnR FBq Flq O w i).2.1 = 0) (h1 : S.1.1 = w) (h2 : S.2.2 = 0) : (pfA FB Fl 4 (VV 0) (Vl 0) (Vl 0) S 0).1 = nI a ∧ (pfA FB Fl 4 (VV 0) (Vl 0) (Vl 0) S 0).2.1.1 = wsq FBq Flq O w a ∧ (pfA FB Fl 4 (VV 0) (Vl 0) (Vl 0) S 0).2.2.2 = 0 := by
  subst hVO hVa
  have hc : ∀ k, k < Vl 0 → Fl (VV 0 k) = Flq (VV 0 k) ∧ ∀ i, i < Fl (VV 0 k) → FB (VV 0 k) i = FBq (VV 0 k) i := fun k _ => hco _ (hO k)
  have q := pfA_all (FB := FB) (Fl := Fl) (V := VV 0) (fc := 4) (len := Vl 0) hw hFl (fun k _ => hO k) (Vl 0) 0 S (Nat.zero_add _) h1 (fun i _ hi => by rw [dnR_co hc hi]; exact hok i hi) (Or.inr h2)
  rw [← wsq_co hc (Vl 0) (Nat.le_refl _)]
  exact q
theorem perf_one {FB FBq : Nat → Nat → Nat} {Fl Flq O : Nat → Nat} {Vl : Nat → Nat} {VV : Nat → Nat → Nat} {a j : Nat} {w : WT} {S : FS × Int32 × Int32} (hVO : VV 0 = O) (hVa : Vl 0 = a) (hw : WOK w) (hFl : ∀ j, Fl j ≤ 200) (hO : ∀ k, O k < 4) (hco : ∀ f, f < 4 → Fl f = Flq f ∧ ∀ i, i < Fl f → FB f i = FBq f i) (hj : j < a) (hok : ∀ i, i < j → (dnR FBq Flq O w i).2.1 = 0) (hno : ¬ (dnR FBq Flq O w j).2.1 = 0) (h1 : S.1.1 = w) : (pfA FB Fl 4 (VV 0) (Vl 0) (Vl 0) S 0).1 = -100 - nI j ∧ (pfA FB Fl 4 (VV 0) (Vl 0) (Vl 0) S 0).2.1.1 = wsq FBq Flq O w (j + 1) ∧ (pfA FB Fl 4 (VV 0) (Vl 0) (Vl 0) S 0).2.2.2 = (dnR FBq Flq O w j).2.1 := by
  subst hVO hVa
  have hc : ∀ k, k < Vl 0 → Fl (VV 0 k) = Flq (VV 0 k) ∧ ∀ i, i < Fl (VV 0 k) → FB (VV 0 k) i = FBq (VV 0 k) i := fun k _ => hco _ (hO k)
  have q := pfA_one (FB := FB) (Fl := Fl) (V := VV 0) (fc := 4) (len := Vl 0) hw hFl (fun k _ => hO k) hj (by rw [dnR_co hc hj]; exact hno) j 0 S (Nat.zero_add _) h1 (fun i _ hi => by rw [dnR_co hc (by omega)]; exact hok i hi)
  rw [← wsq_co hc (j + 1) (by omega), ← dnR_co hc hj]
  exact q
theorem dn_gy {R : Nat × Int32 × FS} (h : R.1 ≤ 200) (c : 0 ≤ dnF R) : R.2.1 = 0 := Decidable.byContradiction fun q => by
  have := (dnF_neg h).mpr q
  exact absurd c (Int32.not_le.mpr this)
theorem dn_ly {R : Nat × Int32 × FS} (h : R.1 ≤ 200) (c : ¬ 0 ≤ dnF R) : ¬ R.2.1 = 0 := (dnF_neg h).mp (Int32.not_le.mp c)
theorem kyr_lt {r : Nat → Nat} : ∀ m, (∀ c, c < m → r c < 4) → kyr r m < 4 ^ m
  | 0, _ => by show 0 < 1; omega
  | m + 1, h => p4_s (kyr_lt m (fun c hc => h c (by omega))) (h m (by omega))
theorem ky_31 {r : Nat → Nat} {m : Nat} (hm : m ≤ 7) (h : ∀ c, c < m → r c < 4) : kyr r m < 2 ^ 31 := by
  have := p4_16 (kyr_lt m h) hm
  omega
theorem ky_m {r : Nat → Nat} {i : Nat} (h : r i < 4) : kyr r (i + 1) % 4 = r i := by
  show (4 * kyr r i + r i) % 4 = r i
  omega
theorem ky_d {r : Nat → Nat} {i : Nat} (h : r i < 4) : kyr r (i + 1) / 4 = kyr r i := by
  show (4 * kyr r i + r i) / 4 = kyr r i
  omega
theorem lc_le1 {V1 V2 : Nat → Nat} {n1 n2 : Nat} (h8 : ∀ k, V1 k < 8) : lc V1 V2 n1 n2 0 0 ≤ n1 := by
  have h := (sfg_ebd (V2 := V2) (n1 := n1) (n2 := n2) h8).1
  have key : ∀ c, c ≤ lc V1 V2 n1 n2 0 0 → c ≤ psn V1 n1 (sfg V1 V2 n1 n2) c := by
    intro c
    induction c with
    | zero => intro _; exact Nat.zero_le _
    | succ c ih =>
      intro hc
      have i1 := ih (by omega)
      have i2 := (pfr_at (psn_le h c (by omega)) (h c (by omega))).2
      show c + 1 ≤ pfr V1 n1 _ (psn V1 n1 _ c) + 1
      omega
  exact Nat.le_trans (key _ (Nat.le_refl _)) (psn_le h _ (Nat.le_refl _))
/-- what the calls of shared answer in the law -/
theorem sh_a {Vl : Nat → Nat} {VV : Nat → Nat → Nat} {O PA : Nat → Nat} {a c : Nat} (h0 : VV 0 = O) (h1 : VV 1 = PA) (h2 : Vl 0 = a) (h3 : Vl 1 = c) : shA 2 Vl VV (nI 0) (nI 1) (-4) = nI (lc O PA a c 0 0) ∧ shA 2 Vl VV (nI 1) (nI 0) (-4) = nI (lc O PA a c 0 0) ∧ shA 2 Vl VV (nI 0) (nI 0) (-4) = nI a := by
  subst h0 h1 h2 h3
  refine ⟨shA_4 (by omega) (by omega) (by omega), ?_, ?_⟩
  · rw [shA_4 (by omega) (by omega) (by omega), lc_sym]
  · rw [shA_4 (by omega) (by omega) (by omega), lc_self _ 0 (Nat.zero_add _)]
theorem sh_b {Vl : Nat → Nat} {VV : Nat → Nat → Nat} {O PA : Nat → Nat} {a c k : Nat} (h0 : VV 0 = O) (h1 : VV 1 = PA) (h2 : Vl 0 = a) (h3 : Vl 1 = c) (hO : ∀ k, O k < 4) (ha : a ≤ 7) (hk : k < lc O PA a c 0 0) : shA 2 Vl VV (nI 0) (nI 1) (nI k) = nI (sfg O PA a c k) ∧ shA 2 Vl VV (nI 1) (nI 0) (nI k) = nI (sfg O PA a c k) := by
  have hle := lc_le1 (V1 := O) (V2 := PA) (n1 := a) (n2 := c) (fun k => Nat.lt_of_lt_of_le (hO k) (by omega))
  subst h0 h1 h2 h3
  refine ⟨?_, ?_⟩
  · rw [shA_n (by omega) (by omega) (by omega) (by omega) (by omega), if_pos hk]
  · rw [shA_n (by omega) (by omega) (by omega) (by omega) (by rw [lc_sym]; omega), if_pos (by rw [lc_sym]; exact hk), sfg_sym]
theorem sh_c {Vl : Nat → Nat} {VV : Nat → Nat → Nat} {O PA : Nat → Nat} {a c : Nat} (h0 : VV 0 = O) (h1 : VV 1 = PA) (h2 : Vl 0 = a) (h3 : Vl 1 = c) (hO : ∀ k, O k < 4) (ha : a ≤ 7) : shA 2 Vl VV (nI 0) (nI 1) (nI (lc O PA a c 0 0)) = -4 := by
  have hle := lc_le1 (V1 := O) (V2 := PA) (n1 := a) (n2 := c) (fun k => Nat.lt_of_lt_of_le (hO k) (by omega))
  subst h0 h1 h2 h3
  rw [shA_n (by omega) (by omega) (by omega) (by omega) (by omega), if_neg (Nat.lt_irrefl _)]
theorem sh_d {Vl : Nat → Nat} {VV : Nat → Nat → Nat} : shA 2 Vl VV (nI 0) (nI 2) (nI 0) = -1 := shA_no (Nat.le_refl _) (by omega)
theorem sh_e {Vl : Nat → Nat} {VV : Nat → Nat → Nat} {O : Nat → Nat} {a k : Nat} (h0 : VV 0 = O) (h2 : Vl 0 = a) (hO : ∀ k, O k < 4) (ha : a ≤ 7) (hk : k < a) : shA 2 Vl VV (nI 0) (nI 0) (nI k) = nI (O k) := by
  subst h0 h2
  have e := lc_self (V := VV 0) (n := Vl 0) (Vl 0) 0 (Nat.zero_add _)
  rw [shA_n (by omega) (by omega) (by omega) (by omega) (by omega), e, if_pos hk, sfg_self (fun k => Nat.lt_of_lt_of_le (hO k) (by omega)) hk]
theorem da_0 {Vl : Nat → Nat} {VV : Nat → Nat → Nat} {Fl : Nat → Nat} {a : Nat} (h : Vl 0 = a) : dnA Vl VV Fl 4 2 (nI 0) (nI 0) = nI a := by
  rw [dnA_0 (by omega) (by omega), h]
theorem da_1 {Vl : Nat → Nat} {VV : Nat → Nat → Nat} {Fl O : Nat → Nat} {a sm : Nat} (h0 : VV 0 = O) (h : Vl 0 = a) (hs : sm = bts Fl 4 O a) : dnA Vl VV Fl 4 2 (nI 0) (nI 1) = nI sm := by
  rw [dnA_1 (by omega) (by omega), h0, h, hs]
theorem da_n {Vl : Nat → Nat} {VV : Nat → Nat → Nat} {Fl : Nat → Nat} {a : Nat} (h : Vl 0 = a) (ha : a ≤ 7) : dnA Vl VV Fl 4 2 (nI 0) (nI (10 + a)) = -1 :=
  dnA_n (by omega) (by omega) (fun q => by have := nI_jn (by omega) (by omega) q; omega) (fun q => by have := nI_jn (by omega) (by omega) q; omega) (Or.inr ⟨10 + a, by omega, rfl, by omega, by omega⟩) (by omega)
theorem da_y {Vl : Nat → Nat} {VV : Nat → Nat → Nat} {Fl O : Nat → Nat} {a k : Nat} (h0 : VV 0 = O) (h : Vl 0 = a) (ha : a ≤ 7) (hk : k < a) : dnA Vl VV Fl 4 2 (nI 0) (nI (10 + k)) = nI (O k) := by
  rw [Nat.add_comm 10 k, dnA_y (by omega) (by omega) (by omega) (by omega), h0]
theorem up_4 {O : Nat → Nat} {k v : Nat} (h : ∀ j, O j < 4) (hv : v < 4) : ∀ j, va_up O k v j < 4 := fun j => by
  by_cases e : j = k
  · subst e; rw [va_up_self]; exact hv
  · rw [va_up_ne _ _ e]; exact h j
theorem bts_up {Fl O : Nat → Nat} {k v sm : Nat} (hs : sm = bts Fl 4 O k) (hv : v < 4) : sm + Fl v = bts Fl 4 (va_up O k v) (k + 1) := by
  rw [bts, va_up_self, if_pos hv, hs, bts_co k (fun j hj => (va_up_ne O v (show j ≠ k by omega)))]
theorem ci_L_36 : CI RL 36 yX9_init cX9_init 2 0 := CI.of m_L_36 mi_yX9_init mn_RX9 mc_yX9_init rfl (by decide +kernel)

-- what the law's own walk wants besides
section CTOR2
variable {p : Program} {l : Launch} {e : Env} {R : Room} {s : State} {m : MethodId} {args : Array Value} {below : List Frame} {meth : Method} {c : Code} {H : Heap} {locs : List Loc} {cells slots : Nat} {Q : State → Prop}
variable {cc : ByteArray} {pc nL : Nat} {ls : Array Slot} {rest st0 : List Value} {D : va_G} {cy : Nat → ClassId} {b0 N : Nat} {g : Nat → va_E} {own : String}
/-- a constructor at the memory's end -/
theorem kGIs {y : MethodName} {b : ByteArray} {maxL f lo n k idx mc ms M : Nat} {As : List Value} {post : (Nat → va_E) → Prop} (S : CallFix p m c cc nL s args wsL_law own) (hK : va_K D vwCl (tyv cy) s) (hN : NX s) (hz : H.size = b0 + (k + 1)) (hP : MM D (bd b0) (k + 1) g H) (hS : va_S (AB b0) s.heap H locs) (hM : Met l y (WS y b maxL none) (rmG f mc ms lo) (PG (.ref (bd (b0 + k) 0) :: As) D cy (b0 + k) 1 (fun i => g (k + i))) (QG post D (b0 + k) M) mc ms (AB (b0 + k))) (hM1 : 1 ≤ M) (hl : CI own idx y b maxL n) (hR : CR R f lo maxL) (hn : As.length = n) (hsz : ls.size = nL) (hst : st0 = As.reverse ++ .ref (bd b0 k) :: rest) (hW : (rest.map fun v => v.category).sum ≤ 8) (hf : cells + mc ≤ R.cells ∧ slots + ms ≤ R.slots) (hdg : decode cc pc = .ok (.invokespecial idx, 3))
    (kk : ∀ (u g1 : Nat → va_E) (H1 : Heap) (locs1 : List Loc), post u → (∀ i, i < M → g1 (k + i) = u i) → (∀ j, j < k → g1 j = g j) → H1.size = b0 + (k + M) → MM D (bd b0) (k + M) g1 H1 → va_S (AB b0) s.heap H1 locs1 → W p l e R s m args below meth c H1 locs1 (cells + mc) (slots + ms) Q (F0 m (pc + 3) ls rest)) : W p l e R s m args below meth c H locs cells slots Q (F0 m pc ls st0) := by
  have ok : ∀ w ∈ ([Cond.methodLink own idx y, Cond.instanceMethod y, Cond.initialized y.cls] ++ WS y b maxL none), w.before args s = true := fun w hw => S.2.2.2.2 w (hl.1 w hw).1
  have cw : CallB R s args own idx y b maxL none (WS y b maxL none) (rmG f mc ms lo) mc ms n := callB_of n S.2.2.2.2 (fun w hw => hl.1 w (List.mem_append_right _ hw)) rfl rfl rfl (ok _ (by simp)) (ok _ (by simp)) hl.2.2 ⟨Nat.le_of_ble_eq_true hR.1, Nat.le_of_ble_eq_true hR.2⟩
  have hz2 : H.size = b0 + k + 1 := by rw [hz, Nat.add_assoc]
  have hP2 : MM D (bd (b0 + k)) 1 (fun i => g (k + i)) H := MM_sub hP (Nat.le_refl _)
  have hAB : ∀ q, AB (b0 + k) q → AB b0 q := fun q h => Nat.le_trans (Nat.le_add_right _ _) h
  refine va_callv (va_runI S hM ⟨cw, hl.2.1, ok _ (by simp)⟩ (⟨PG.blind, fun U hU hW => ⟨rfl, by rw [hU]; exact hz2, by rw [hU]; exact hP2, va_K.moved hW.alike hK, NX.warm hW hN⟩⟩ : PreS s H (PG (.ref (bd (b0 + k) 0) :: As) D cy (b0 + k) 1 (fun i => g (k + i))) (.ref (bd (b0 + k) 0) :: As)) rfl hn hsz hst (lv_room hW) hdg hf) hS (fun q _ h => hAB q h) hAB (fun u t H1 locs1 ht _ hp hB _ hq hS1 => ?_)
  have hB2 : MM D (bd (b0 + k)) M u H1 := by rw [← ht]; exact hB.2
  refine kk u (mrg k M u g) H1 locs1 hp mrg_in (fun j hj => mrg_out j (Or.inl hj)) (by rw [← ht]; exact hB.1.trans (Nat.add_assoc _ _ _)) (fun j q hj => ?_) hS1
  obtain ⟨h1, rfl⟩ := wl_inv hj
  by_cases z : k ≤ j
  · have := hB2.at (k := j - k) (by omega)
    have e : bd (b0 + k) (j - k) = bd b0 j := by unfold bd; omega
    rw [e] at this
    have e2 : mrg k M u g j = u (j - k) := if_pos ⟨z, h1⟩
    rw [e2]
    exact this
  · have := hP.at (k := j) (by omega)
    have e2 : mrg k M u g j = g j := if_neg (fun q => z q.1)
    rw [e2]
    exact this.kept (hq _ this.lt (fun q => by unfold AB bd at q; omega))
end CTOR2
theorem ldiv4 {a : Nat} (h : a < 2 ^ 31) : lN a / lN 4 = lN (a / 4) := by
  apply Int64.toInt_inj.mp
  rw [lg_ldiv_nonneg (by rw [lN_toInt h]; omega) (by rw [lN_toInt (by omega)]; omega), lN_toInt h, lN_toInt (by omega), lN_toInt (by omega)]
  omega
theorem lrem4 {a : Nat} (h : a < 2 ^ 31) : lN a - lN a / lN 4 * lN 4 = lN (a % 4) := by
  rw [ldiv4 h, lN_mul, lN_sub (by omega)]
  congr 1
  omega
theorem lgN_lt {a b : Nat} (ha : a < 2 ^ 31) (hb : b < 2 ^ 31) : lg_cmp (lN a) (lN b) < 0 ↔ a < b := (lg_cmp_lt _ _).trans (lN_lt ha hb)
theorem lkey (a b : Nat) : lN 4 * lN a + lN b = lN (4 * a + b) := by rw [lN_mul, lN_add]
theorem bit_1 {x k : Nat} : (x / 2 ^ k &&& 1 = 0) ↔ ¬ x.testBit k = true := by
  rw [Nat.testBit, Nat.shiftRight_eq_div_pow, Nat.and_comm]
  simp
-- the choices' search, step by step
theorem inn_0 {V1 V2 : Nat → Nat} {n2 code : Nat} : inn V1 V2 n2 code 0 = (0, 0, 0, true) := rfl
theorem inn_n {V1 V2 : Nat → Nat} {n2 code k sz at9 ky : Nat} {z : Bool} (h : inn V1 V2 n2 code k = (sz, at9, ky, z)) (hb : ¬ code.testBit k = true) : inn V1 V2 n2 code (k + 1) = (sz, at9, ky, z) := by
  rw [inn, h, if_neg (fun q => hb q.2)]
theorem inn_y {V1 V2 : Nat → Nat} {n2 code k sz at9 ky : Nat} (h : inn V1 V2 n2 code k = (sz, at9, ky, true)) (hb : code.testBit k = true) {a9 : Nat} (ha : a9 = pfr V2 n2 (V1 k) at9) {z : Bool} (hz : z = decide (a9 < n2)) : inn V1 V2 n2 code (k + 1) = (sz + 1, a9 + 1, 4 * ky + V1 k, z) := by
  subst ha hz
  rw [inn, h, if_pos ⟨rfl, hb⟩]
theorem inn_f {V1 V2 : Nat → Nat} {n2 code k sz at9 ky : Nat} (h : inn V1 V2 n2 code k = (sz, at9, ky, false)) : ∀ d, (inn V1 V2 n2 code (k + d)).2.2.2 = false
  | 0 => by rw [Nat.add_zero, h]
  | d + 1 => by
    have ih := inn_f h d
    show (inn V1 V2 n2 code (k + d + 1)).2.2.2 = false
    rw [inn, if_neg (fun q => by rw [ih] at q; exact absurd q.1 (by decide))]
    exact ih
theorem out_f {V1 V2 : Nat → Nat} {n1 n2 c bs bk : Nat} (h : outK V1 V2 n1 n2 c = (bs, bk)) (hf : (inn V1 V2 n2 c n1).2.2.2 = false) : outK V1 V2 n1 n2 (c + 1) = (bs, bk) := by
  rw [outK, if_pos (Or.inl hf), h]
theorem out_s {V1 V2 : Nat → Nat} {n1 n2 c bs bk sz at9 ky : Nat} {z : Bool} (h : outK V1 V2 n1 n2 c = (bs, bk)) (hi : inn V1 V2 n2 c n1 = (sz, at9, ky, z)) (hs : sz < bs ∨ (sz = bs ∧ bk ≤ ky ∧ 0 < sz)) : outK V1 V2 n1 n2 (c + 1) = (bs, bk) := by
  rw [outK, hi, h, if_pos (Or.inr hs)]
theorem out_t {V1 V2 : Nat → Nat} {n1 n2 c bs bk sz at9 ky : Nat} (h : outK V1 V2 n1 n2 c = (bs, bk)) (hi : inn V1 V2 n2 c n1 = (sz, at9, ky, true)) (h1 : ¬ sz < bs) (h2 : ¬ (sz = bs ∧ bk ≤ ky ∧ 0 < sz)) : outK V1 V2 n1 n2 (c + 1) = (sz, ky) := by
  rw [outK, hi, h, if_neg (fun q => by rcases q with q | q | q; · exact absurd (show true = false from q) (by decide)
                                       · exact h1 q
                                       · exact h2 q)]
theorem pfr_n {V : Nat → Nat} {n f i : Nat} (hi : i < n) (h : ¬ V i = f) : pfr V n f i = pfr V n f (i + 1) := by
  unfold pfr
  obtain ⟨d, hd⟩ : ∃ d, n - i = d + 1 := ⟨n - i - 1, by omega⟩
  rw [hd, fsr, if_neg (by rw [decide_eq_false h]; decide), show n - (i + 1) = d by omega]
theorem pfr_y {V : Nat → Nat} {n f i : Nat} (hi : i < n) (h : V i = f) : pfr V n f i = i := by
  unfold pfr
  obtain ⟨d, hd⟩ : ∃ d, n - i = d + 1 := ⟨n - i - 1, by omega⟩
  rw [hd, fsr, if_pos (by rw [decide_eq_true h])]
theorem pfr_z {V : Nat → Nat} {n f i : Nat} (hi : i = n) : pfr V n f i = i := by
  unfold pfr
  rw [hi, Nat.sub_self]
  rfl
theorem p4_16 {k y : Nat} (h : y < 4 ^ k) (hk : k ≤ 7) : y < 16384 := by
  have : 4 ^ k ≤ 4 ^ 7 := Nat.pow_le_pow_right (by omega) hk
  have e : (4 : Nat) ^ 7 = 16384 := by decide
  omega
theorem p4_s {k y v : Nat} (h : y < 4 ^ k) (hv : v < 4) : 4 * y + v < 4 ^ (k + 1) := by
  rw [Nat.pow_succ]
  omega
-- what is asked at the end
theorem pl_0 {u v : WT} {n i : Nat} (h : QW u v) (hv : v = bgW n) (hn : n ≤ 8) (hi : i < n) : plA u (nI i) (nI 0) = nI i := by
  subst hv
  have e : wn u = n := h.1
  rw [show nI 0 = 0 from rfl, plA_0 (by omega) (by omega), h.2.1 i (by omega)]
  rfl
theorem tb_1 : ∀ n, n < 9 → ∀ i, i < n → (2 ^ n - 1) / 2 ^ i &&& 1 = 1 := by decide +kernel
theorem pl_1 {u v : WT} {n i : Nat} (h : QW u v) (hv : v = bgW n) (hn : n ≤ 8) (hi : i < n) : plA u (nI i) (nI 1) = nI 1 := by
  subst hv
  have e : wn u = n := h.1
  rw [show nI 1 = 1 from rfl, plA_1 (by omega) (by omega), h.2.1 i (by omega), h.2.2.2.1]
  show nI ((2 ^ n - 1) / 2 ^ i &&& 1) = _
  rw [tb_1 n (by omega) i hi]
  rfl
theorem mk_0 : ∀ n, mk (fun _ => false) n = 0
  | 0 => rfl
  | n + 1 => by
    apply Nat.eq_of_testBit_eq
    intro k
    rw [mk_tb, Bool.and_false, Nat.zero_testBit]
theorem bl_3 {u v : WT} {n i : Nat} (h : QW u v) (hv : v = bgW n) (hn : n ≤ 8) (hi : i < n) : (if isI (nI i) (wn u) then blN u (nI i).toNatClampNeg (nI 3) else -1) = nI 0 := by
  subst hv
  have e : wn u = n := h.1
  have eo : wo u = 0 := h.2.2.2.2.2
  rw [if_pos ((isI_nI (by omega) (by omega)).mpr (by omega)), nI_clamp (by omega)]
  unfold blN
  rw [if_neg (by decide), if_neg (by decide), if_neg (by decide), if_pos rfl, eo]
  have e2 : tab (wn u) 0 i = 0 := by
    unfold tab
    rw [show (fun j => (0 : Nat).testBit (8 * j + i)) = fun _ => false from funext fun j => Nat.zero_testBit _]
    exact mk_0 _
  rw [e2, Nat.zero_div]
  rfl
theorem wsq_co {FB FB2 : Nat → Nat → Nat} {Fl Fl2 V : Nat → Nat} {w : WT} {a : Nat} (h : ∀ k, k < a → Fl (V k) = Fl2 (V k) ∧ ∀ i, i < Fl (V k) → FB (V k) i = FB2 (V k) i) : ∀ k, k ≤ a → wsq FB Fl V w k = wsq FB2 Fl2 V w k
  | 0, _ => rfl
  | k + 1, hk => by
    have ih := wsq_co (w := w) h k (by omega)
    obtain ⟨h1, h2⟩ := h k (by omega)
    show (rn (FB (V k)) (Fl (V k)) 0 (F0s (wsq FB Fl V w k)) (Fl (V k))).2.2.1 = (rn (FB2 (V k)) (Fl2 (V k)) 0 (F0s (wsq FB2 Fl2 V w k)) (Fl2 (V k))).2.2.1
    rw [ih, rn_B h2 _ (Nat.le_refl _), h1]
theorem dnR_co {FB FB2 : Nat → Nat → Nat} {Fl Fl2 V : Nat → Nat} {w : WT} {a : Nat} (h : ∀ k, k < a → Fl (V k) = Fl2 (V k) ∧ ∀ i, i < Fl (V k) → FB (V k) i = FB2 (V k) i) {k : Nat} (hk : k < a) : dnR FB Fl V w k = dnR FB2 Fl2 V w k := by
  obtain ⟨h1, h2⟩ := h k hk
  show rn (FB (V k)) (Fl (V k)) 0 (F0s (wsq FB Fl V w k)) (Fl (V k)) = rn (FB2 (V k)) (Fl2 (V k)) 0 (F0s (wsq FB2 Fl2 V w k)) (Fl2 (V k))
  rw [wsq_co h k (by omega), rn_B h2 _ (Nat.le_refl _), h1]
theorem bts_co {Fl V V2 : Nat → Nat} {fc : Nat} : ∀ n, (∀ k, k < n → V k = V2 k) → bts Fl fc V n = bts Fl fc V2 n
  | 0, _ => rfl
  | n + 1, h => by
    rw [bts, bts, bts_co n (fun k hk => h k (by omega)), h n (by omega)]
/-- the rows that both objects hold -/
def FGS (xs : Nat → Int32) (L n m : Nat) (Fl : Nat → Nat) (FB : Nat → Nat → Nat) : Prop := ∀ f, f < m → Fl f = (fgR xs L (1 + 20 * f) n (fgI xs L (1 + 20 * f))).1 ∧ ∀ i, i < Fl f → FB f i = rw8 (fgR xs L (1 + 20 * f) n (fgI xs L (1 + 20 * f))) i
theorem FGS.le {xs : Nat → Int32} {L n m : Nat} {Fl : Nat → Nat} {FB : Nat → Nat → Nat} (h : FGS xs L n m Fl FB) {f : Nat} (hf : f < m) : Fl f ≤ 36 := by
  rw [(h f hf).1]
  have h1 := fgR_1 (xs := xs) (L := L) (fr := 1 + 20 * f) (n := n) (fgI xs L (1 + 20 * f))
  have h2 := fgI_b (xs := xs) (L := L) (fr := 1 + 20 * f)
  omega
theorem FGS.up {xs : Nat → Int32} {L n m : Nat} {Fl B1 : Nat → Nat} {FB : Nat → Nat → Nat} (h : FGS xs L n m Fl FB) (hB : ∀ i, i < (fgR xs L (1 + 20 * m) n (fgI xs L (1 + 20 * m))).1 → B1 i = rw8 (fgR xs L (1 + 20 * m) n (fgI xs L (1 + 20 * m))) i) : FGS xs L n (m + 1) (va_up Fl m (fgR xs L (1 + 20 * m) n (fgI xs L (1 + 20 * m))).1) (va_up FB m B1) := fun f hf => by
  by_cases e : f = m
  · subst e
    rw [va_up_self, va_up_self]
    exact ⟨rfl, hB⟩
  · rw [va_up_ne _ _ e, va_up_ne _ _ e]
    exact h f (by omega)
theorem FGS.co {xs : Nat → Int32} {L n m : Nat} {Fl Fl2 : Nat → Nat} {FB FB2 : Nat → Nat → Nat} (h : FGS xs L n m Fl FB) (h2 : FGS xs L n m Fl2 FB2) {f : Nat} (hf : f < m) : Fl f = Fl2 f ∧ ∀ i, i < Fl f → FB f i = FB2 f i := by
  have e := (h f hf).1.trans (h2 f hf).1.symm
  exact ⟨e, fun i hi => ((h f hf).2 i hi).trans ((h2 f hf).2 i (by omega)).symm⟩
theorem FGS.s {xs : Nat → Int32} {L n m : Nat} {Fl : Nat → Nat} {FB : Nat → Nat → Nat} (h : FGS xs L n m Fl FB) (hn : 0 < n) (h8 : n ≤ 8) {f : Nat} (hf : f < m) {i : Nat} (hi : i < Fl f) : FB f i / 8 ≤ 3 ∨ FB f i / 8 = 6 := by
  rw [(h f hf).2 i hi]
  exact rw8_s h8 (fgR_o hn _) (by rw [← (h f hf).1]; exact hi)
/-- back, of a figure that was done -/
theorem bk_ok {B : Nat → Nat} {len : Nat} {u w : WT} (hu : WOK u) (hw : WOK w) (hB : ∀ i, i < len → B i / 8 ≤ 3 ∨ B i / 8 = 6) (h : (dnW B len w).2.1 = 0) (hq : QW u (dnW B len w).2.2.1) : dnF (bkW B len u) = nI len ∧ QW (bkW B len u).2.2.1 w := by
  have q := back_ok hw (F0s_ok hu) hB h hq
  exact ⟨(dnF_yy q.2.1).trans (congrArg nI q.1), q.2.2⟩

-- figures danced one behind another, and a village performed
noncomputable def F0s (w : WT) : FS := (w, fun _ => w, 0, 0)
theorem F0s_ok {w : WT} (h : WOK w) : FOK (F0s w) := ⟨h, fun _ _ => h, by show 0 < 13; omega, by show 0 ≤ 12; omega⟩
noncomputable def dnW (B : Nat → Nat) (len : Nat) (w : WT) : Nat × Int32 × FS := rn B len 0 (F0s w) len
theorem dnW_p {B : Nat → Nat} {len : Nat} {F : FS} : rnQ (rn B len 0 F len) (dnW B len F.1) := rn_pool (F := F) (G := F0s F.1) rfl len
noncomputable def wsq (FB : Nat → Nat → Nat) (Fl V : Nat → Nat) (w : WT) : Nat → WT
  | 0 => w
  | k + 1 => (dnW (FB (V k)) (Fl (V k)) (wsq FB Fl V w k)).2.2.1
noncomputable def dnR (FB : Nat → Nat → Nat) (Fl V : Nat → Nat) (w : WT) (k : Nat) : Nat × Int32 × FS := dnW (FB (V k)) (Fl (V k)) (wsq FB Fl V w k)
theorem wsq_ok {FB : Nat → Nat → Nat} {Fl V : Nat → Nat} {w : WT} (h : WOK w) : ∀ k, WOK (wsq FB Fl V w k) ∧ wn (wsq FB Fl V w k) = wn w
  | 0 => ⟨h, rfl⟩
  | k + 1 => by
    have ih := wsq_ok (FB := FB) (Fl := Fl) (V := V) h k
    have := rn_ok (B := FB (V k)) (len := Fl (V k)) (b0 := 0) (F0s_ok ih.1) (Fl (V k))
    exact ⟨this.1.1, this.2.1.trans ih.2⟩
theorem m100 : ∀ k, k ≤ 200 → ¬ (0 : Int32) ≤ -100 - nI k := by decide +kernel
theorem m100_lt {k : Nat} (h : k ≤ 200) : -100 - nI k < 0 := Int32.not_le.mp (m100 k h)
theorem dnF_yy {R : Nat × Int32 × FS} (h : R.2.1 = 0) : dnF R = nI R.1 := if_pos h
theorem dnF_oo {R : Nat × Int32 × FS} (h : ¬ R.2.1 = 0) : dnF R = -100 - nI R.1 := if_neg h
theorem dnF_neg {R : Nat × Int32 × FS} (h : R.1 ≤ 200) : dnF R < 0 ↔ ¬ R.2.1 = 0 := by
  by_cases q : R.2.1 = 0
  · rw [dnF_yy q]
    exact ⟨fun z => absurd z (nI_pos (by omega)), fun z => absurd q z⟩
  · rw [dnF_oo q]
    exact ⟨fun _ => q, fun _ => m100_lt h⟩
theorem rnQ_dn {X Y : Nat × Int32 × FS} (h : rnQ X Y) : dnF X = dnF Y := by
  unfold dnF
  rw [h.1, h.2.1]
theorem dnW_le {B : Nat → Nat} {len : Nat} {w : WT} (h : WOK w) : (dnW B len w).1 ≤ len := (rn_ok (F0s_ok h) len).2.2
/-- the floor's part of what perform leaves: all done -/
theorem pfA_all {FB : Nat → Nat → Nat} {Fl V : Nat → Nat} {fc len : Nat} {w : WT} (hw : WOK w) (hFl : ∀ j, Fl j ≤ 200) (hV : ∀ k, k < len → V k < fc) : ∀ d c (S : FS × Int32 × Int32), c + d = len → S.1.1 = wsq FB Fl V w c → (∀ i, c ≤ i → i < len → (dnR FB Fl V w i).2.1 = 0) → (0 < d ∨ S.2.2 = 0) → (pfA FB Fl fc V len (len - c) S c).1 = nI len ∧ (pfA FB Fl fc V len (len - c) S c).2.1.1 = wsq FB Fl V w len ∧ (pfA FB Fl fc V len (len - c) S c).2.2.2 = 0
  | 0, c, S, e, hS, h, h0 => by
    obtain rfl : c = len := by omega
    rw [pfA_0 rfl]
    exact ⟨rfl, hS, by rcases h0 with q | q; · omega
                       · exact q⟩
  | d + 1, c, S, e, hS, h, h0 => by
    have hc : c < len := by omega
    have hp := dnW_p (B := FB (V c)) (len := Fl (V c)) (F := S.1)
    rw [hS] at hp
    have hok := h c (Nat.le_refl _) hc
    have hle := dnW_le (B := FB (V c)) (len := Fl (V c)) (wsq_ok (FB := FB) (Fl := Fl) (V := V) hw c).1
    have hf := hFl (V c)
    have hn : ¬ dnF (rn (FB (V c)) (Fl (V c)) 0 S.1 (Fl (V c))) < 0 := by
      rw [rnQ_dn hp, dnF_neg (by omega)]
      exact fun z => z hok
    rw [pfA_g hc (hV c hc) hn]
    exact pfA_all hw hFl hV d (c + 1) _ (by omega) hp.2.2 (fun i a b => h i (by omega) b) (Or.inr (hp.2.1.trans hok))
/-- one refused -/
theorem pfA_one {FB : Nat → Nat → Nat} {Fl V : Nat → Nat} {fc len k : Nat} {w : WT} (hw : WOK w) (hFl : ∀ j, Fl j ≤ 200) (hV : ∀ k, k < len → V k < fc) (hk : k < len) (hno : ¬ (dnR FB Fl V w k).2.1 = 0) : ∀ d c (S : FS × Int32 × Int32), c + d = k → S.1.1 = wsq FB Fl V w c → (∀ i, c ≤ i → i < k → (dnR FB Fl V w i).2.1 = 0) → (pfA FB Fl fc V len (len - c) S c).1 = -100 - nI k ∧ (pfA FB Fl fc V len (len - c) S c).2.1.1 = wsq FB Fl V w (k + 1) ∧ (pfA FB Fl fc V len (len - c) S c).2.2.2 = (dnR FB Fl V w k).2.1
  | 0, c, S, e, hS, h => by
    obtain rfl : c = k := by omega
    have hp := dnW_p (B := FB (V c)) (len := Fl (V c)) (F := S.1)
    rw [hS] at hp
    have hle := dnW_le (B := FB (V c)) (len := Fl (V c)) (wsq_ok (FB := FB) (Fl := Fl) (V := V) hw c).1
    have hf := hFl (V c)
    have hn : dnF (rn (FB (V c)) (Fl (V c)) 0 S.1 (Fl (V c))) < 0 := by
      rw [rnQ_dn hp, dnF_neg (by omega)]
      exact hno
    rw [pfA_s hk (hV c hk) hn]
    exact ⟨rfl, hp.2.2, hp.2.1⟩
  | d + 1, c, S, e, hS, h => by
    have hc : c < len := by omega
    have hp := dnW_p (B := FB (V c)) (len := Fl (V c)) (F := S.1)
    rw [hS] at hp
    have hok := h c (Nat.le_refl _) (by omega)
    have hle := dnW_le (B := FB (V c)) (len := Fl (V c)) (wsq_ok (FB := FB) (Fl := Fl) (V := V) hw c).1
    have hf := hFl (V c)
    have hn : ¬ dnF (rn (FB (V c)) (Fl (V c)) 0 S.1 (Fl (V c))) < 0 := by
      rw [rnQ_dn hp, dnF_neg (by omega)]
      exact fun z => z hok
    rw [pfA_g hc (hV c hc) hn]
    exact pfA_one hw hFl hV hk hno d (c + 1) _ (by omega) hp.2.2 (fun i a b => h i (by omega) b)
/-- one figure back again -/
theorem back_ok {B : Nat → Nat} {len : Nat} {w : WT} {G : FS} (hw : WOK w) (hG : FOK G) (hB : ∀ i, i < len → B i / 8 ≤ 3 ∨ B i / 8 = 6) (h : (dnW B len w).2.1 = 0) (hq : QW G.1 (dnW B len w).2.2.1) : (rn B len 1 G len).1 = len ∧ (rn B len 1 G len).2.1 = 0 ∧ QW (rn B len 1 G len).2.2.1 w := by
  have q := rn_inv (F0s_ok hw) hG hB h hq len (Nat.le_refl _)
  rw [Nat.sub_self] at q
  exact ⟨rn_cnt len q.1, q.1, q.2⟩

-- tokens, as a function of the tape
def ixL (c : Nat) : Nat := if c = 117 then 0 else if c = 111 then 1 else if c = 116 then 2 else if c = 114 then 3 else if c = 100 then 4 else if c = 107 then 5 else if c = 102 then 6 else 7
def lxP (T : Nat → Nat) (len q : Nat) : Nat := blE T len q
def lxK (T : Nat → Nat) (len q : Nat) : Nat := if lxP T len q < len then (if dg (T (lxP T len q)) = true then (if dgE T len (lxP T len q) - lxP T len q ≤ 2 then 1 else 6) else if ixL (T (lxP T len q)) < 7 then 0 else if T (lxP T len q) = 40 then 2 else if T (lxP T len q) = 41 then 3 else if T (lxP T len q) = 46 then 4 else 6) else 5
def lxV (T : Nat → Nat) (len q : Nat) : Nat := if dg (T (lxP T len q)) = true then nuV T (lxP T len q) (dgE T len (lxP T len q) - lxP T len q) else ixL (T (lxP T len q))
def lxN (T : Nat → Nat) (len q : Nat) : Nat := if lxP T len q < len then (if dg (T (lxP T len q)) = true then dgE T len (lxP T len q) else lxP T len q + 1) else lxP T len q
theorem lxP_bd {T : Nat → Nat} {len q : Nat} (h : q ≤ len) : q ≤ lxP T len q ∧ lxP T len q ≤ len := fsr_bd _ h
theorem dgE_bd {T : Nat → Nat} {len q : Nat} (h : q < len) (hd : dg (T q) = true) : q < dgE T len q ∧ dgE T len q ≤ len := by
  have h1 := fsr_bd (fun i => !dg (T i)) (m := len) (i := q) (by omega)
  refine ⟨?_, h1.2⟩
  rcases Nat.lt_or_ge q (dgE T len q) with z | z
  · exact z
  · have e : dgE T len q = q := Nat.le_antisymm z h1.1
    have h2 := fsr_yes (P := fun i => !dg (T i)) (m := len) (i := q) (by omega) (by show dgE T len q < len; omega)
    have h2 : (!dg (T (dgE T len q))) = true := h2
    rw [e, hd] at h2
    cases h2
theorem lxN_bd {T : Nat → Nat} {len q : Nat} (h : q ≤ len) : lxP T len q ≤ lxN T len q ∧ lxN T len q ≤ len ∧ (¬ lxK T len q = 5 → q < lxN T len q) := by
  have h1 := lxP_bd (T := T) h
  unfold lxN lxK
  by_cases a : lxP T len q < len
  · rw [if_pos a, if_pos a]
    by_cases b : dg (T (lxP T len q)) = true
    · rw [if_pos b, if_pos b]
      have := dgE_bd a b
      exact ⟨by omega, this.2, fun _ => by omega⟩
    · rw [if_neg b, if_neg b]
      exact ⟨by omega, by omega, fun _ => by omega⟩
  · rw [if_neg a, if_neg a]
    exact ⟨Nat.le_refl _, h1.2, fun z => absurd rfl z⟩
theorem lxV_lt {T : Nat → Nat} {len q : Nat} (hT : ∀ i, T i < 256) : lxV T len q < 3000 ∧ (lxK T len q = 0 → lxV T len q < 7) := by
  unfold lxV lxK
  by_cases b : dg (T (lxP T len q)) = true
  · rw [if_pos b, if_pos b]
    refine ⟨nuV_lt hT _, fun h => ?_⟩
    by_cases a : lxP T len q < len
    · rw [if_pos a] at h
      by_cases c : dgE T len (lxP T len q) - lxP T len q ≤ 2
      · rw [if_pos c] at h; exact absurd h (by decide)
      · rw [if_neg c] at h; exact absurd h (by decide)
    · rw [if_neg a] at h; exact absurd h (by decide)
  · rw [if_neg b, if_neg b]
    refine ⟨?_, fun h => ?_⟩
    · unfold ixL; repeat' split
      all_goals omega
    · by_cases a : lxP T len q < len
      · rw [if_pos a] at h
        by_cases c : ixL (T (lxP T len q)) < 7
        · exact c
        · rw [if_neg c] at h
          by_cases d1 : T (lxP T len q) = 40
          · rw [if_pos d1] at h; exact absurd h (by decide)
          · rw [if_neg d1] at h
            by_cases d2 : T (lxP T len q) = 41
            · rw [if_pos d2] at h; exact absurd h (by decide)
            · rw [if_neg d2] at h
              by_cases d3 : T (lxP T len q) = 46
              · rw [if_pos d3] at h; exact absurd h (by decide)
              · rw [if_neg d3] at h; exact absurd h (by decide)
      · rw [if_neg a] at h; exact absurd h (by decide)
theorem lxK_lt (T : Nat → Nat) (len q : Nat) : lxK T len q < 7 := by
  unfold lxK; repeat' split
  all_goals omega
/-- the reference's byte -/
def byM (TP : Nat → Nat) (tp p0 : Nat) : Int32 := if p0 < tp then nI (TP p0) else -4
theorem nI_n4 {a : Nat} (h : a < 2 ^ 31) : ¬ nI a = -4 := nI_m4 h
theorem byM_4 {TP : Nat → Nat} {tp p0 : Nat} (h : ∀ i, i < tp → TP i < 256) : byM TP tp p0 = -4 ↔ tp ≤ p0 := by
  unfold byM
  by_cases a : p0 < tp
  · rw [if_pos a]
    have := h p0 a
    exact ⟨fun q => absurd q (nI_n4 (by omega)), fun q => by omega⟩
  · rw [if_neg a]; exact ⟨fun _ => by omega, fun _ => rfl⟩
theorem byM_32 {TP : Nat → Nat} {tp p0 : Nat} (h : ∀ i, i < tp → TP i < 256) : byM TP tp p0 = nI 32 ↔ (p0 < tp ∧ TP p0 = 32) := by
  unfold byM
  by_cases a : p0 < tp
  · rw [if_pos a]
    have := h p0 a
    rw [nI_eq (by omega) (by omega)]
    exact ⟨fun q => ⟨a, q⟩, fun q => q.2⟩
  · rw [if_neg a]; exact ⟨fun q => absurd q (by decide), fun q => absurd q.1 a⟩
theorem byM_dg {TP : Nat → Nat} {tp p0 : Nat} (h : ∀ i, i < tp → TP i < 256) : (lN 48 ≤ (byM TP tp p0).toInt64 ∧ (byM TP tp p0).toInt64 ≤ lN 57) ↔ (p0 < tp ∧ dg (TP p0) = true) := by
  unfold byM
  by_cases a : p0 < tp
  · rw [if_pos a]
    have := h p0 a
    rw [nI_l (by omega), in_nn (by omega) (by omega) (by omega)]
    unfold dg
    simp [a]
  · rw [if_neg a]
    exact ⟨fun q => absurd q.1 (by decide), fun q => absurd q.1 a⟩
/-- the reference's token as read -/
def LXR (T : Nat → Nat) (len q at2 sp tk : Nat) (vl : Int32) (wr2 wa : Nat) : Prop :=
  at2 = lxN T len q ∧ sp = lxP T len q ∧ (lxK T len q = 5 → tk = 0) ∧ (lxK T len q = 0 → tk = 1 ∧ vl = nI (lxV T len q)) ∧ (lxK T len q = 1 → tk = 2 ∧ vl = nI (lxV T len q)) ∧ (lxK T len q = 2 → tk = 3) ∧ (lxK T len q = 3 → tk = 4) ∧ (lxK T len q = 4 → tk = 5) ∧ wr2 = (if lxK T len q = 6 then 1 else 0) ∧ (lxK T len q = 6 → wa = lxP T len q) ∧ tk ≤ 5
theorem LXR_end {T : Nat → Nat} {len q wa : Nat} {vl : Int32} (h : ¬ lxP T len q < len) : LXR T len q (lxP T len q) (lxP T len q) 0 vl 0 wa := by
  have e : lxK T len q = 5 := if_neg h
  have en : lxN T len q = lxP T len q := if_neg h
  unfold LXR
  rw [e, en]
  exact ⟨rfl, rfl, fun _ => rfl, fun q => absurd q (by decide), fun q => absurd q (by decide), fun q => absurd q (by decide), fun q => absurd q (by decide), fun q => absurd q (by decide), rfl, fun q => absurd q (by decide), by omega⟩
theorem LXR_num {T : Nat → Nat} {len q e j wa : Nat} (h : lxP T len q < len) (hd : dg (T (lxP T len q)) = true) (he : dgE T len (lxP T len q) = e) (hj : e = lxP T len q + j) (hw : ¬ j ≤ 2 → wa = lxP T len q) : LXR T len q e (lxP T len q) 2 (nI (nuV T (lxP T len q) j)) (if j ≤ 2 then 0 else 1) wa := by
  have en : lxN T len q = e := by unfold lxN; rw [if_pos h, if_pos hd, he]
  have ej : dgE T len (lxP T len q) - lxP T len q = j := by omega
  have ev : lxV T len q = nuV T (lxP T len q) j := by unfold lxV; rw [if_pos hd, ej]
  have ek : lxK T len q = if j ≤ 2 then 1 else 6 := by unfold lxK; rw [if_pos h, if_pos hd, ej]
  unfold LXR
  rw [en, ev, ek]
  by_cases c : j ≤ 2
  · rw [if_pos c, if_pos c]
    exact ⟨rfl, rfl, fun q => absurd q (by decide), fun q => absurd q (by decide), fun _ => ⟨rfl, rfl⟩, fun q => absurd q (by decide), fun q => absurd q (by decide), fun q => absurd q (by decide), rfl, fun q => absurd q (by decide), by omega⟩
  · rw [if_neg c, if_neg c]
    exact ⟨rfl, rfl, fun q => absurd q (by decide), fun q => absurd q (by decide), fun q => absurd q (by decide), fun q => absurd q (by decide), fun q => absurd q (by decide), fun q => absurd q (by decide), rfl, fun _ => hw c, by omega⟩
def tkM (c : Nat) : Nat := if c = 40 then 3 else if c = 41 then 4 else if c = 46 then 5 else 1
theorem ix_r : ∀ c, c < 256 → (ixL c < 7 → tkM c = 1) ∧ (tkM c = 1 → ¬ c = 40 ∧ ¬ c = 41 ∧ ¬ c = 46) ∧ (c = 40 → ixL c = 7) ∧ (c = 41 → ixL c = 7) ∧ (c = 46 → ixL c = 7) := by decide +kernel
theorem LXR_chr {T : Nat → Nat} {len q wa c : Nat} (h : lxP T len q < len) (hd : ¬ dg (T (lxP T len q)) = true) (hc : c = T (lxP T len q)) (hc2 : c < 256) (hw : (tkM c = 1 ∧ ¬ ixL c < 7) → wa = lxP T len q) : LXR T len q (lxP T len q + 1) (lxP T len q) (tkM c) (if ixL c < 7 then nI (ixL c) else -4) (if tkM c = 1 ∧ ¬ ixL c < 7 then 1 else 0) wa := by
  have en : lxN T len q = lxP T len q + 1 := by unfold lxN; rw [if_pos h, if_neg hd]
  have ev : lxV T len q = ixL c := by unfold lxV; rw [if_neg hd, hc]
  have ek : lxK T len q = if ixL c < 7 then 0 else if c = 40 then 2 else if c = 41 then 3 else if c = 46 then 4 else 6 := by unfold lxK; rw [if_pos h, if_neg hd, hc]
  obtain ⟨r1, r2, r3, r4, r5⟩ := ix_r c hc2
  unfold LXR
  rw [en, ev, ek]
  by_cases a : ixL c < 7
  · rw [if_pos a, if_pos a, r1 a, if_neg (fun z => z.2 a)]
    exact ⟨rfl, rfl, fun q => absurd q (by decide), fun _ => ⟨rfl, rfl⟩, fun q => absurd q (by decide), fun q => absurd q (by decide), fun q => absurd q (by decide), fun q => absurd q (by decide), rfl, fun q => absurd q (by decide), by omega⟩
  · rw [if_neg a, if_neg a]
    by_cases b : c = 40
    · have et : tkM c = 3 := by rw [b]; rfl
      rw [if_pos b, et, if_neg (fun z => absurd z.1 (by decide))]
      exact ⟨rfl, rfl, fun q => absurd q (by decide), fun q => absurd q (by decide), fun q => absurd q (by decide), fun _ => rfl, fun q => absurd q (by decide), fun q => absurd q (by decide), rfl, fun q => absurd q (by decide), by omega⟩
    · rw [if_neg b]
      by_cases b2 : c = 41
      · have et : tkM c = 4 := by rw [b2]; rfl
        rw [if_pos b2, et, if_neg (fun z => absurd z.1 (by decide))]
        exact ⟨rfl, rfl, fun q => absurd q (by decide), fun q => absurd q (by decide), fun q => absurd q (by decide), fun q => absurd q (by decide), fun _ => rfl, fun q => absurd q (by decide), rfl, fun q => absurd q (by decide), by omega⟩
      · rw [if_neg b2]
        by_cases b3 : c = 46
        · have et : tkM c = 5 := by rw [b3]; rfl
          rw [if_pos b3, et, if_neg (fun z => absurd z.1 (by decide))]
          exact ⟨rfl, rfl, fun q => absurd q (by decide), fun q => absurd q (by decide), fun q => absurd q (by decide), fun q => absurd q (by decide), fun q => absurd q (by decide), fun _ => rfl, rfl, fun q => absurd q (by decide), by omega⟩
        · have et : tkM c = 1 := by unfold tkM; rw [if_neg b, if_neg b2, if_neg b3]
          rw [if_neg b3, et, if_pos ⟨rfl, a⟩]
          exact ⟨rfl, rfl, fun q => absurd q (by decide), fun q => absurd q (by decide), fun q => absurd q (by decide), fun q => absurd q (by decide), fun q => absurd q (by decide), fun q => absurd q (by decide), rfl, fun _ => hw ⟨et, a⟩, by omega⟩
theorem nuV_s1 {T : Nat → Nat} {q j : Nat} (h : j < 2) : nuV T q (j + 1) = 10 * nuV T q j + T (q + j) - 48 := if_pos h
theorem nuV_s2 {T : Nat → Nat} {q j : Nat} (h : ¬ j < 2) : nuV T q (j + 1) = nuV T q j := if_neg h
theorem dg_48 {c : Nat} (h : dg c = true) : 48 ≤ c ∧ c ≤ 57 := by unfold dg at h; simpa using h


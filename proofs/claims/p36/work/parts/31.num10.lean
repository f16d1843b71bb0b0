-- the search: what it meets
def kyW (w : WT) : Int64 := lN (sea (rot (wn w) ((wn w - wp w 0) % wn w) (wd w)) (wn w))
noncomputable def mtB (SL : Nat → Nat) (KY OV : Nat → Int64) (w : WT) (mc : Nat) : Bool := decide (SL (slt SL KY OV (kyW w) (lN (wo w))) = 0) && decide (mc < 1500)
def gB (w t : WT) (gk : Int64) : Bool := decide (kyW w = gk) && (decide (wo w = wo t) && decide (wh w = wh t))
theorem mtB_e {SL : Nat → Nat} {KY OV : Nat → Int64} {w : WT} {mc s9 : Nat} (h : slt SL KY OV (kyW w) (lN (wo w)) = s9) : mtB SL KY OV w mc = (decide (SL s9 = 0) && decide (mc < 1500)) := by
  unfold mtB; rw [h]
theorem mtB_t {SL : Nat → Nat} {KY OV : Nat → Int64} {w : WT} {mc s9 : Nat} (h : slt SL KY OV (kyW w) (lN (wo w)) = s9) (h1 : SL s9 = 0) (h2 : mc < 1500) : mtB SL KY OV w mc = true := by
  rw [mtB_e h, decide_eq_true h1, decide_eq_true h2]; rfl
theorem mtB_a {SL : Nat → Nat} {KY OV : Nat → Int64} {w : WT} {mc s9 : Nat} (h : slt SL KY OV (kyW w) (lN (wo w)) = s9) (h1 : ¬ SL s9 = 0) : mtB SL KY OV w mc = false := by
  rw [mtB_e h, decide_eq_false h1]; rfl
theorem mtB_b {SL : Nat → Nat} {KY OV : Nat → Int64} {w : WT} {mc s9 : Nat} (h : slt SL KY OV (kyW w) (lN (wo w)) = s9) (h2 : ¬ mc < 1500) : mtB SL KY OV w mc = false := by
  rw [mtB_e h, decide_eq_false h2]; cases decide (SL s9 = 0) <;> rfl
theorem gB_t {w t : WT} {gk : Int64} (h1 : kyW w = gk) (h2 : wo w = wo t) (h3 : wh w = wh t) : gB w t gk = true := by
  unfold gB; rw [decide_eq_true h1, decide_eq_true h2, decide_eq_true h3]; rfl
theorem gB_a {w t : WT} {gk : Int64} (h1 : ¬ kyW w = gk) : gB w t gk = false := by
  unfold gB; rw [decide_eq_false h1]; rfl
theorem gB_b {w t : WT} {gk : Int64} (h1 : ¬ wo w = wo t) : gB w t gk = false := by
  unfold gB; rw [decide_eq_false h1]; cases decide (kyW w = gk) <;> rfl
theorem gB_c {w t : WT} {gk : Int64} (h1 : ¬ wh w = wh t) : gB w t gk = false := by
  unfold gB; rw [decide_eq_false h1]; cases decide (kyW w = gk) <;> cases decide (wo w = wo t) <;> rfl


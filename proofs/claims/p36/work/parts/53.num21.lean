-- the class's own calls: sheets
def cnA (fc qc vc len : Nat) (Sh : Int32 × Nat) (what : Int32) : Int32 :=
  if what = nI 0 then nI fc else if what = nI 1 then nI qc else if what = nI 2 then nI vc else if what = nI 3 then nI len else if what = nI 4 then (if Sh.1 = -1 then -4 else nI Sh.2) else -1
theorem va_up_id {α : Type} (f : Nat → α) (i : Nat) {v : α} (h : v = f i) : va_up f i v = f := by
  subst h
  funext j
  unfold va_up
  split
  · rename_i e; rw [e]
  · rfl
theorem inC_isI {sz : Nat} {i : Int32} (h : sz < 2 ^ 31) : inC sz i ↔ isI i sz := by
  unfold inC
  exact ⟨fun q => ⟨Int32.not_lt.mpr q.1, q.2⟩, fun q => ⟨Int32.not_lt.mp q.1, q.2⟩⟩


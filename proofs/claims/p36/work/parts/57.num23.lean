-- the class's own calls: likeness of poses
def alA (w v : WT) : Int32 := if (wn w = wn v ∧ (∀ p, p < wn w → wd w p = wd v p) ∧ wf w = wf v ∧ wh w = wh v ∧ wo w = wo v) then 2 else if ((∀ p, p < wn w → rot (wn w) ((wn w - wp w 0) % wn w) (wd w) p = rot (wn w) ((wn w - wp v 0) % wn w) (wd v) p) ∧ wh w = wh v ∧ wo w = wo v) then 1 else 0


-- the class's own calls: what is about
def lkA (w : WT) : Int32 := if (wh w = 2 ^ wn w - 1 ∧ ∀ i, i < wn w → wo w / 2 ^ (8 * i) % 256 ≠ 0 ∧ tab (wn w) (wo w) i ≠ 0) then nI 1 else nI 0
def stA (w : WT) : Int32 := if (2 ≤ su (wn w) (wp w 0) (wp w 1) ∧ su (wn w) (wp w 0) (wp w 1) ≤ wn w - 2 ∧ ∀ i, i < wn w → su (wn w) (wp w i) (wp w (nx (wn w) i)) = su (wn w) (wp w 0) (wp w 1)) then nI (su (wn w) (wp w 0) (wp w 1)) else -4
def abA (w : WT) (un : Nat) (what : Int32) : Int32 := if what = nI 0 then nI (wn w) else if what = nI 1 then nI (bcL (wo w)) else if what = nI 2 then lkA w else if what = nI 3 then nI (fs (fun L => decide (fre (wn w) (wo w) (lef (wn w) (wo w) (wh w) L) = 0)) (wn w)) else if what = nI 4 then nI (bcN (lef (wn w) (wo w) (wh w) (wn w))) else if what = nI 5 then stA w else if what = nI 6 then tOut (wn w) (wp w) (wo w) (wn w) else if what = nI 7 then nI (bcN (wf w)) else if what = nI 8 then nI (bcN (wh w)) else if what = nI 9 then nI un else -1


-- the class's own calls: blades
def lyr (w : WT) (i : Nat) : Int32 := if fs (fun L => (fre (wn w) (wo w) (lef (wn w) (wo w) (wh w) L)).testBit i) (wn w) < wn w then nI (fs (fun L => (fre (wn w) (wo w) (lef (wn w) (wo w) (wh w) L)).testBit i) (wn w)) else -4
def blN (w : WT) (i : Nat) (what : Int32) : Int32 := if what = nI 0 then nI (wh w / 2 ^ i &&& 1) else if what = nI 1 then nI (bcN (wo w / 2 ^ (8 * i) % 256)) else if what = nI 2 then nI (bcN (tab (wn w) (wo w) i)) else if what = nI 3 then nI (wo w / 2 ^ (8 * i) % 256 ||| tab (wn w) (wo w) i) else if what = nI 4 then lyr w i else -1


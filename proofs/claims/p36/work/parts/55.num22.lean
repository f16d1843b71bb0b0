-- the class's own calls: figures on the floor
def dnF (R : Nat × Int32 × FS) : Int32 := if R.2.1 = 0 then nI R.1 else -100 - nI R.1


/-! THE FACE: lines -/
def a_wtC (tx : List Nat) (x : Int32) : Int32 := if p_in x tx.length then nI (tx.getD (ixI x) 0) else -1

set_option maxRecDepth 100000 in
theorem tst1 {n a0 : Nat} {x2 x3 x4 : Int32} {h : AH} : FI_X7_runDrawn 134 [.int x2] h = p_X7_nextSeed x2 h := rfl

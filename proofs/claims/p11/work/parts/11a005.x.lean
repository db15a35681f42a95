def liM (m x : Int32) : Int32 := if x < m then -1 else m

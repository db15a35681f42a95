def ceF (t : QT) (x : Int32) : Int32 := match t with
  | (_, _, _, rp, rl, _, _) => if x < rl - rp then rp + x else x - (rl - rp)

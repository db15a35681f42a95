def lyF (t : QT) : Int32 := match t with
  | (wp, _, _, rp, rl, _, ar) => rl - rp + (if ar = 0 then 0 else wp)

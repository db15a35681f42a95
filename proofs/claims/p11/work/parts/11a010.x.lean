def frF (ring : Int32) (t : QT) : Int32 := match t with
  | (wp, wl, _, rp, _, rm, ar) => wl - wp + (if ring = 0 then 0 else if ar = 0 then (if rm < 0 then rp else rm) else 0)

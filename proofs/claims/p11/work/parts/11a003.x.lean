/-- first part of settling a ring -/
def arF (sz : Int32) (t : QT) : QT := match t with
  | (wp, wl, wm, rp, rl, rm, ar) => if wp = sz then (0, wl, -1, rp, rl, rm, 1) else if ar = 0 then (wp, wl, wm, rp, rl, rm, ar) else if rp = sz then (wp, wl, wm, 0, rl, -1, 0) else (wp, wl, wm, rp, rl, rm, ar)

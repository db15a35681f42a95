def enF (sz : Int32) (t : QT) : QT := match t with
  | (wp, wl, wm, rp, rl, rm, ar) => let x := if ar = 0 then wp else sz; let rp2 := liP rp x; let rm2 := liM rm x; let y := if ar = 0 then sz else (if rm2 < 0 then rp2 else rm2); (liP wp y, y, liM wm y, rp2, x, rm2, ar)

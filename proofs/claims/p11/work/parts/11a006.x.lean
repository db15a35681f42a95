def olF (t : QT) : Int32 := match t with
  | (_, _, _, rp, _, rm, _) => if rm < 0 then rp else rm

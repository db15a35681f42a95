def seF (ring sz : Int32) (t : QT) : QT := if ring = 0 then enF sz t else enF sz (arF sz t)

def cW (h : MH) (q w r : Nat) (t : QT) : MH := p_i (p_i (p_i (p_i (p_i (p_i (p_i h w 4 t.1) w 5 t.2.1) w 6 t.2.2.1) r 4 t.2.2.2.1) r 5 t.2.2.2.2.1) r 6 t.2.2.2.2.2.1) q 3 t.2.2.2.2.2.2

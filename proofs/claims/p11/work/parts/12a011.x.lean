def mW (h : MH) (a k w r : Nat) (t : QT) : MH := p_i (p_i (p_i (p_i (p_i (p_i (p_i h w 3 t.1) w 4 t.2.1) w 5 t.2.2.1) r 3 t.2.2.2.1) r 4 t.2.2.2.2.1) r 5 t.2.2.2.2.2.1) a k t.2.2.2.2.2.2

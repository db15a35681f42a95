def cT (h : MH) (q w r : Nat) : QT := (g_i h w 4, g_i h w 5, g_i h w 6, g_i h r 4, g_i h r 5, g_i h r 6, g_i h q 3)

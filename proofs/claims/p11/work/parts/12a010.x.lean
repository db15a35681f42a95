def mT (h : MH) (a k w r : Nat) : QT := (g_i h w 3, g_i h w 4, g_i h w 5, g_i h r 3, g_i h r 4, g_i h r 5, g_i h a k)

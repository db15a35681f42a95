section
variable {h : MH} {a k w r : Nat} {t : QT} (n4 : ¬ w = a) (n6 : ¬ r = a)
theorem i_mW_w0 (n0 : ¬ w = a) : g_i (mW h a k w r t) w 0 = g_i h w 0 := by simp only [mW, mi_pi, n0, Nat.reduceEqDiff, and_false, false_and, if_false]
theorem i_mW_w1 (n0 : ¬ w = a) : g_i (mW h a k w r t) w 1 = g_i h w 1 := by simp only [mW, mi_pi, n0, Nat.reduceEqDiff, and_false, false_and, if_false]
theorem i_mW_w2 (n0 : ¬ w = a) : g_i (mW h a k w r t) w 2 = g_i h w 2 := by simp only [mW, mi_pi, n0, Nat.reduceEqDiff, and_false, false_and, if_false]
theorem i_mW_r0 (n0 : ¬ r = a) : g_i (mW h a k w r t) r 0 = g_i h r 0 := by simp only [mW, mi_pi, n0, Nat.reduceEqDiff, and_false, false_and, if_false]
theorem i_mW_r1 (n0 : ¬ r = a) : g_i (mW h a k w r t) r 1 = g_i h r 1 := by simp only [mW, mi_pi, n0, Nat.reduceEqDiff, and_false, false_and, if_false]
theorem i_mW_r2 (n0 : ¬ r = a) : g_i (mW h a k w r t) r 2 = g_i h r 2 := by simp only [mW, mi_pi, n0, Nat.reduceEqDiff, and_false, false_and, if_false]
end

section
variable {h : MH} {q w r : Nat} {t : QT}
theorem i_cW_q2 : g_i (cW h q w r t) q 2 = g_i h q 2 := by simp only [cW, mi_pi, Nat.reduceEqDiff, and_false, if_false]
theorem i_cW_w1 : g_i (cW h q w r t) w 1 = g_i h w 1 := by simp only [cW, mi_pi, Nat.reduceEqDiff, and_false, if_false]
theorem i_cW_w2 : g_i (cW h q w r t) w 2 = g_i h w 2 := by simp only [cW, mi_pi, Nat.reduceEqDiff, and_false, if_false]
theorem i_cW_w3 (n4 : ¬ w = q) : g_i (cW h q w r t) w 3 = g_i h w 3 := by simp only [cW, mi_pi, Nat.reduceEqDiff, and_false, if_false, false_and, n4]
theorem i_cW_r1 : g_i (cW h q w r t) r 1 = g_i h r 1 := by simp only [cW, mi_pi, Nat.reduceEqDiff, and_false, if_false]
theorem i_cW_r2 : g_i (cW h q w r t) r 2 = g_i h r 2 := by simp only [cW, mi_pi, Nat.reduceEqDiff, and_false, if_false]
theorem i_cW_r3 (n6 : ¬ r = q) : g_i (cW h q w r t) r 3 = g_i h r 3 := by simp only [cW, mi_pi, Nat.reduceEqDiff, and_false, if_false, false_and, n6]
end

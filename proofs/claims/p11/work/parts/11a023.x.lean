theorem cW_cT {h : MH} {q w r : Nat} (n1 : ¬ w = r) (n3 : ¬ q = w) (n5 : ¬ q = r) (n2 : ¬ r = w) (n4 : ¬ w = q) (n6 : ¬ r = q) (t : QT) : cT (cW h q w r t) q w r = t := by
  obtain ⟨a1, a2, a3, a4, a5, a6, a7⟩ := t
  simp only [cT, cW, mi_pi, n1, n2, n3, n4, n5, n6, and_true, and_false, false_and, true_and, if_true, if_false, Nat.reduceEqDiff]

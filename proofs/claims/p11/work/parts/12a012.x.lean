theorem mW_mT {h : MH} {a k w r : Nat} (n1 : ¬ w = r) (n3 : ¬ a = w) (n5 : ¬ a = r) (n2 : ¬ r = w) (n4 : ¬ w = a) (n6 : ¬ r = a) (t : QT) : mT (mW h a k w r t) a k w r = t := by
  obtain ⟨a1, a2, a3, a4, a5, a6, a7⟩ := t
  simp only [mT, mW, mi_pi, n1, n2, n3, n4, n5, n6, and_true, and_false, false_and, true_and, if_true, if_false, Nat.reduceEqDiff]

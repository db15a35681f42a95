/-- what a queue's method wrote is a whole row of seven -/
theorem cW_of {h h' : MH} {q w r : Nat} {t : QT} (n1 : ¬ w = r) (n3 : ¬ q = w) (n5 : ¬ q = r) (n2 : ¬ r = w) (n4 : ¬ w = q) (n6 : ¬ r = q) (e : cT h' q w r = t) (e1 : cW h' q w r t = cW h q w r t) : h' = cW h q w r t := by
  rw [← e1, ← e, cW_self]


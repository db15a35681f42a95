theorem mW_of {h h' : MH} {a k w r : Nat} {t : QT} (n1 : ¬ w = r) (n3 : ¬ a = w) (n5 : ¬ a = r) (n2 : ¬ r = w) (n4 : ¬ w = a) (n6 : ¬ r = a) (e : mT h' a k w r = t) (e1 : mW h' a k w r t = mW h a k w r t) : h' = mW h a k w r t := by
  rw [← e1, ← e, mW_self]

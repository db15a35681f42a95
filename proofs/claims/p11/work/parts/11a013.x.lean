theorem ite_s {p : Prop} [Decidable p] {a b c : Int32} (f : p → a = c) (g : ¬ p → b = c) : (if p then a else b) = c := by
  by_cases z : p
  · rw [if_pos z]
    exact f z
  · rw [if_neg z]
    exact g z

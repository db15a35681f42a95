theorem ite_r {p : Prop} [Decidable p] {a b c : Int32} (f : ¬ p → b = c) : (if p then a else b) = (if p then a else c) := by
  by_cases z : p
  · rw [if_pos z, if_pos z]
  · rw [if_neg z, if_neg z]
    exact f z

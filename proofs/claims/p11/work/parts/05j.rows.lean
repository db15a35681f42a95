section OkRows
variable {Y pc pc' len idx : Nat} {ins : Instr} {loc loc' stk stk' : List Value} {h h' : MH} {bc bs : Nat} {Q : MR → MH → Prop} {c : Prop}
theorem kok_4 {v : Int32} : kok 4 v ↔ (-128 ≤ v ∧ v ≤ 127) := by simp [kok]
theorem kok_5 {v : Int32} : kok 5 v ↔ (0 ≤ v ∧ v ≤ 65535) := by simp [kok]
theorem kok_6 {v : Int32} : kok 6 v ↔ (-32768 ≤ v ∧ v ≤ 32767) := by simp [kok]
end OkRows

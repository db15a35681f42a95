section OkRows
variable {Y pc pc' len idx : Nat} {ins : Instr} {loc loc' stk stk' : List Value} {h h' : MH} {bc bs : Nat} {Q : MR → MH → Prop} {c : Prop}
theorem kok_3 {v : Int32} : kok 3 v ↔ (v = 0 ∨ v = 1) := by simp [kok]
end OkRows

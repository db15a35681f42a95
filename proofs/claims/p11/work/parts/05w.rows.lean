section OkRows
variable {Y pc pc' len idx : Nat} {ins : Instr} {loc loc' stk stk' : List Value} {h h' : MH} {bc bs : Nat} {Q : MR → MH → Prop} {c : Prop}
theorem kok_of0 {kd : Nat} {x : Int32} (hk : kd = 0) : kok kd x := by subst hk; exact kok_0
theorem kok_to {kd k2 : Nat} {x : Int32} (hk : kd = k2) (k : kok kd x) : kok k2 x := hk ▸ k
theorem kok_fr {kd k2 : Nat} {x : Int32} (hk : kd = k2) (k : kok k2 x) : kok kd x := hk ▸ k
end OkRows

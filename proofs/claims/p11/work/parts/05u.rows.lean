section OkRows
variable {Y pc pc' len idx : Nat} {ins : Instr} {loc loc' stk stk' : List Value} {h h' : MH} {bc bs : Nat} {Q : MR → MH → Prop} {c : Prop}
theorem st_th {E : Nat} (he : tE (Y * 65536 + pc) = some E) : stp Y pc (.new idx) 3 loc [] h = s_th (3 = 3) E := by
  rw [stp_nw]; unfold s_nw; rw [he] <;> rfl
end OkRows

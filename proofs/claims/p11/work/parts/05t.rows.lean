section OkRows
variable {Y pc pc' len idx : Nat} {ins : Instr} {loc loc' stk stk' : List Value} {h h' : MH} {bc bs : Nat} {Q : MR → MH → Prop} {c : Prop}
theorem si_O {Z n tag a : Nat} {st : List Value} (hm : tI (tb_o Y * 65536 + idx) = some (Z, 6, n, tag)) : stp Y pc (.invokespecial idx) 3 loc (.ref a :: st) h = s_nx (3 = 3 ∧ csum st ≤ 8) (pc + 3) loc st h := by
  rw [stp_sp]; unfold s_spe; rw [hm]; dsimp only
  rw [if_pos rfl] <;> rfl
end OkRows

section OkRows
variable {Y pc pc' len idx : Nat} {ins : Instr} {loc loc' stk stk' : List Value} {h h' : MH} {bc bs : Nat} {Q : MR → MH → Prop} {c : Prop}
theorem si_11 {Z n tag : Nat} {x : Int32} {st : List Value} (hm : tM (tb_o Y * 65536 + idx) = some (Z, 11, n, tag)) : stp Y pc (.invokestatic idx) 3 loc (.int x :: st) h = s_nx (3 = 3 ∧ true = true ∧ csum st ≤ 8) (pc + 3) loc (.int (if 0 ≤ x then x else 0 - x) :: st) h := by
  rw [stp_iS]; unfold s_inv; rw [hm]; dsimp only
  rw [if_neg (show ¬ (11 : Nat) = 7 by decide), if_neg (show ¬ (11 : Nat) = 9 by decide), if_neg (show ¬ (11 : Nat) = 10 by decide), if_pos rfl] <;> rfl
end OkRows

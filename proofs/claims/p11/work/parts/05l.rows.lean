section OkRows
variable {Y pc pc' len idx : Nat} {ins : Instr} {loc loc' stk stk' : List Value} {h h' : MH} {bc bs : Nat} {Q : MR → MH → Prop} {c : Prop}
/-- calls: static; virtual; special -/
theorem si_S {Z n tag : Nat} {as st : List Value} {mc ms : Nat} (hm : tM (tb_o Y * 65536 + idx) = some (Z, 0, n, tag)) (hk : tb_k Z = (mc, ms)) (ht : s_tk n stk = some (as, st)) : stp Y pc (.invokestatic idx) 3 loc stk h = s_ca (3 = 3 ∧ true = true) Z mc ms as (pc + 3) st := by
  rw [stp_iS]; unfold s_inv; rw [hm]; dsimp only
  rw [if_neg (show ¬ (0 : Nat) = 7 by decide), if_neg (show ¬ (0 : Nat) = 9 by decide), if_neg (show ¬ (0 : Nat) = 10 by decide), if_neg (show ¬ (0 : Nat) = 11 by decide), if_neg (show ¬ (0 : Nat) = 8 by decide), if_pos rfl, ht, hk] <;> rfl
end OkRows

section OkRows
variable {Y pc pc' len idx : Nat} {ins : Instr} {loc loc' stk stk' : List Value} {h h' : MH} {bc bs : Nat} {Q : MR → MH → Prop} {c : Prop}
/-- calls: static; virtual; special -/
theorem si_S {Z n tag : Nat} {as st : List Value} {mc ms : Nat} (hm : tM (tb_o Y * 65536 + idx) = some (Z, 0, n, tag)) (hk : tb_k Z = (mc, ms)) (ht : s_tk n stk = some (as, st)) : stp Y pc (.invokestatic idx) 3 loc stk h = s_ca (3 = 3 ∧ true = true) Z mc ms as (pc + 3) st := by
  rw [stp_iS, hm]; dsimp only [s_inv2]
  rw [if_neg (show ¬ (0 : Nat) = 7 by decide), if_neg (show ¬ (0 : Nat) = 9 by decide), if_neg (show ¬ (0 : Nat) = 10 by decide), if_neg (show ¬ (0 : Nat) = 11 by decide), if_neg (show ¬ (0 : Nat) = 8 by decide), if_pos rfl, ht, hk] <;> rfl
theorem si_V {Z kd n tag a : Nat} {as st : List Value} {mc ms : Nat} (hm : tM (tb_o Y * 65536 + idx) = some (Z, kd, n, tag)) (h7 : ¬ kd = 7 ∧ ¬ kd = 9 ∧ ¬ kd = 10 ∧ ¬ kd = 11) (h8 : ¬ kd = 8) (h0 : ¬ kd = 0) (hk : tb_k Z = (mc, ms)) (ht : s_tk n stk = some (as, .ref a :: st)) : stp Y pc (.invokevirtual idx) 3 loc stk h = s_ca (3 = 3 ∧ false = false ∧ g_c h a = tag) Z mc ms (.ref a :: as) (pc + 3) st := by
  rw [stp_iV, hm]; dsimp only [s_inv2]
  rw [if_neg h7.1, if_neg h7.2.1, if_neg h7.2.2.1, if_neg h7.2.2.2, if_neg h8, if_neg h0, ht, hk] <;> rfl
theorem si_I {Z kd n tag a : Nat} {as st : List Value} {mc ms : Nat} (hm : tI (tb_o Y * 65536 + idx) = some (Z, kd, n, tag)) (h6 : ¬ kd = 6) (hk : tb_k Z = (mc, ms)) (ht : s_tk n stk = some (as, .ref a :: st)) : stp Y pc (.invokespecial idx) 3 loc stk h = s_ca (3 = 3 ∧ g_c h a = tag) Z mc ms (.ref a :: as) (pc + 3) st := by
  rw [stp_sp, hm]; dsimp only [s_spe2]
  rw [if_neg h6, ht, hk] <;> rfl
end OkRows

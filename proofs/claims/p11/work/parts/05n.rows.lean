section OkRows
variable {Y pc pc' len idx : Nat} {ins : Instr} {loc loc' stk stk' : List Value} {h h' : MH} {bc bs : Nat} {Q : MR → MH → Prop} {c : Prop}
theorem si_I {Z kd n tag a : Nat} {as st : List Value} {mc ms : Nat} (hm : tI (tb_o Y * 65536 + idx) = some (Z, kd, n, tag)) (h6 : ¬ kd = 6) (hk : tb_k Z = (mc, ms)) (ht : s_tk n stk = some (as, .ref a :: st)) : stp Y pc (.invokespecial idx) 3 loc stk h = s_ca (3 = 3 ∧ g_c h a = tag) Z mc ms (.ref a :: as) (pc + 3) st := by
  rw [stp_sp]; unfold s_spe; rw [hm]; dsimp only
  rw [if_neg h6, ht, hk] <;> rfl
end OkRows

section OkRows
variable {Y pc pc' len idx : Nat} {ins : Instr} {loc loc' stk stk' : List Value} {h h' : MH} {bc bs : Nat} {Q : MR → MH → Prop} {c : Prop}
-- what the table-bound instructions come to
theorem sg_I {tag k kd fin a : Nat} {st : List Value} (hf : tF (tb_o Y * 65536 + idx) = some (tag, k, kd, fin)) (h1 : ¬ kd = 1) (h2 : ¬ kd = 2) : stp Y pc (.getfield idx) 3 loc (.ref a :: st) h = s_nx (3 = 3 ∧ g_c h a = tag) (pc + 3) loc (.int (g_i h a k) :: st) h := by
  rw [stp_gf]; unfold s_gf; rw [hf]
  show s_nx _ _ _ ((if kd = 1 then _ else if kd = 2 then _ else _) :: _) _ = _
  rw [if_neg h1, if_neg h2]
end OkRows

section OkRows
variable {Y pc pc' len idx : Nat} {ins : Instr} {loc loc' stk stk' : List Value} {h h' : MH} {bc bs : Nat} {Q : MR → MH → Prop} {c : Prop}
theorem sp_I {tag k kd fin a : Nat} {v : Int32} {st : List Value} (hf : tF (tb_o Y * 65536 + idx) = some (tag, k, kd, fin)) : stp Y pc (.putfield idx) 3 loc (.int v :: .ref a :: st) h = s_nx (3 = 3 ∧ g_c h a = tag ∧ g_z h ≤ a ∧ kok kd v ∧ ¬ kd = 1 ∧ ¬ kd = 2 ∧ (fin = 1 → okI Y tag k)) (pc + 3) loc st (p_i h a k v) := by
  rw [stp_pf]; unfold s_pf; rw [hf] <;> rfl
end OkRows

section OkRows
variable {Y pc pc' len idx : Nat} {ins : Instr} {loc loc' stk stk' : List Value} {h h' : MH} {bc bs : Nat} {Q : MR → MH → Prop} {c : Prop}
theorem sp_L {tag k kd fin a : Nat} {v : Int64} {st : List Value} (hf : tF (tb_o Y * 65536 + idx) = some (tag, k, kd, fin)) : stp Y pc (.putfield idx) 3 loc (.long v :: .ref a :: st) h = s_nx (3 = 3 ∧ g_c h a = tag ∧ g_z h ≤ a ∧ kd = 1 ∧ (fin = 1 → okI Y tag k)) (pc + 3) loc st (p_l h a k v) := by
  rw [stp_pf]; unfold s_pf; rw [hf] <;> rfl
theorem sp_R {tag k kd fin a v : Nat} {st : List Value} (hf : tF (tb_o Y * 65536 + idx) = some (tag, k, kd, fin)) : stp Y pc (.putfield idx) 3 loc (.ref v :: .ref a :: st) h = s_nx (3 = 3 ∧ g_c h a = tag ∧ g_z h ≤ a ∧ kd = 2 ∧ (fin = 1 → okI Y tag k)) (pc + 3) loc st (p_r h a k (some v)) := by
  rw [stp_pf]; unfold s_pf; rw [hf] <;> rfl
end OkRows

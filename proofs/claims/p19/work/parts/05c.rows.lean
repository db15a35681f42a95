section OkRows
variable {Y pc pc' len idx : Nat} {ins : Instr} {loc loc' stk stk' : List Value} {h h' : MH} {bc bs : Nat} {Q : MR → MH → Prop} {c : Prop}
-- what the table-bound instructions come to
theorem sg_I {tag k kd fin a : Nat} {st : List Value} (hf : tF (tb_o Y * 65536 + idx) = some (tag, k, kd, fin)) (h1 : ¬ kd = 1) (h2 : ¬ kd = 2) : stp Y pc (.getfield idx) 3 loc (.ref a :: st) h = s_nx (3 = 3 ∧ g_c h a = tag) (pc + 3) loc (.int (g_i h a k) :: st) h := by
  rw [stp_gf, hf]
  show s_nx _ _ _ ((if kd = 1 then _ else if kd = 2 then _ else _) :: _) _ = _
  rw [if_neg h1, if_neg h2]
theorem sg_L {tag k fin a : Nat} {st : List Value} (hf : tF (tb_o Y * 65536 + idx) = some (tag, k, 1, fin)) : stp Y pc (.getfield idx) 3 loc (.ref a :: st) h = s_nx (3 = 3 ∧ g_c h a = tag) (pc + 3) loc (.long (g_l h a k) :: st) h := by
  rw [stp_gf, hf]
  show s_nx _ _ _ ((if (1 : Nat) = 1 then _ else _) :: _) _ = _
  rw [if_pos rfl]
theorem sg_R {tag k fin a : Nat} {st : List Value} (hf : tF (tb_o Y * 65536 + idx) = some (tag, k, 2, fin)) : stp Y pc (.getfield idx) 3 loc (.ref a :: st) h = s_nx (3 = 3 ∧ g_c h a = tag) (pc + 3) loc (va_rf (g_r h a k) :: st) h := by
  rw [stp_gf, hf]
  show s_nx _ _ _ ((if (2 : Nat) = 1 then _ else if (2 : Nat) = 2 then _ else _) :: _) _ = _
  rw [if_neg (show ¬ (2 : Nat) = 1 by decide), if_pos rfl]
theorem sp_I {tag k kd fin a : Nat} {v : Int32} {st : List Value} (hf : tF (tb_o Y * 65536 + idx) = some (tag, k, kd, fin)) : stp Y pc (.putfield idx) 3 loc (.int v :: .ref a :: st) h = s_nx (3 = 3 ∧ g_c h a = tag ∧ g_z h ≤ a ∧ kok kd v ∧ ¬ kd = 1 ∧ ¬ kd = 2 ∧ (fin = 1 → okI Y tag k)) (pc + 3) loc st (p_i h a k v) := by
  rw [stp_pf, hf] <;> rfl
theorem sp_L {tag k kd fin a : Nat} {v : Int64} {st : List Value} (hf : tF (tb_o Y * 65536 + idx) = some (tag, k, kd, fin)) : stp Y pc (.putfield idx) 3 loc (.long v :: .ref a :: st) h = s_nx (3 = 3 ∧ g_c h a = tag ∧ g_z h ≤ a ∧ kd = 1 ∧ (fin = 1 → okI Y tag k)) (pc + 3) loc st (p_l h a k v) := by
  rw [stp_pf, hf] <;> rfl
theorem sp_R {tag k kd fin a v : Nat} {st : List Value} (hf : tF (tb_o Y * 65536 + idx) = some (tag, k, kd, fin)) : stp Y pc (.putfield idx) 3 loc (.ref v :: .ref a :: st) h = s_nx (3 = 3 ∧ g_c h a = tag ∧ g_z h ≤ a ∧ kd = 2 ∧ (fin = 1 → okI Y tag k)) (pc + 3) loc st (p_r h a k (some v)) := by
  rw [stp_pf, hf] <;> rfl
theorem kok_0 {v : Int32} : kok 0 v := by simp [kok]
end OkRows

section OkRows
variable {Y pc pc' len idx : Nat} {ins : Instr} {loc loc' stk stk' : List Value} {h h' : MH} {bc bs : Nat} {Q : MR → MH → Prop} {c : Prop}
/-- putfield of a whole number -/
theorem Ok_pI {tag k kd fin a : Nat} {v : Int32} {st : List Value} (hd : decode (tb_b Y) pc = .ok (.putfield idx, 3)) (hf : tF (tb_o Y * 65536 + idx) = some (tag, k, kd, fin)) (h1 : ¬ kd = 1) (h2 : ¬ kd = 2) (hi : fin = 1 → okI Y tag k) (hi0 : gd pc (.putfield idx) = true := by decide) : Ok Y pc loc (.int v :: .ref a :: st) h bc bs Q ↔ (g_c h a = tag ∧ g_z h ≤ a ∧ kok kd v) ∧ Ok Y (pc + 3) loc st (p_i h a k v) bc bs Q :=
  Ok_nc hd (sp_I hf) ⟨fun k => ⟨k.2.1, k.2.2.1, k.2.2.2.1⟩, fun k => ⟨rfl, k.1, k.2.1, k.2.2, h1, h2, hi⟩⟩ hi0
theorem Ok_pL {tag k fin a : Nat} {v : Int64} {st : List Value} (hd : decode (tb_b Y) pc = .ok (.putfield idx, 3)) (hf : tF (tb_o Y * 65536 + idx) = some (tag, k, 1, fin)) (hi : fin = 1 → okI Y tag k) (hi0 : gd pc (.putfield idx) = true := by decide) : Ok Y pc loc (.long v :: .ref a :: st) h bc bs Q ↔ (g_c h a = tag ∧ g_z h ≤ a) ∧ Ok Y (pc + 3) loc st (p_l h a k v) bc bs Q :=
  Ok_nc hd (sp_L hf) ⟨fun k => ⟨k.2.1, k.2.2.1⟩, fun k => ⟨rfl, k.1, k.2, rfl, hi⟩⟩ hi0
theorem Ok_pR {tag k fin a v : Nat} {st : List Value} (hd : decode (tb_b Y) pc = .ok (.putfield idx, 3)) (hf : tF (tb_o Y * 65536 + idx) = some (tag, k, 2, fin)) (hi : fin = 1 → okI Y tag k) (hi0 : gd pc (.putfield idx) = true := by decide) : Ok Y pc loc (.ref v :: .ref a :: st) h bc bs Q ↔ (g_c h a = tag ∧ g_z h ≤ a) ∧ Ok Y (pc + 3) loc st (p_r h a k (some v)) bc bs Q :=
  Ok_nc hd (sp_R hf) ⟨fun k => ⟨k.2.1, k.2.2.1⟩, fun k => ⟨rfl, k.1, k.2, rfl, hi⟩⟩ hi0
theorem Ok_gI {tag k kd fin a : Nat} {st : List Value} (hd : decode (tb_b Y) pc = .ok (.getfield idx, 3)) (hf : tF (tb_o Y * 65536 + idx) = some (tag, k, kd, fin)) (h1 : ¬ kd = 1) (h2 : ¬ kd = 2) (hi0 : gd pc (.getfield idx) = true := by decide) : Ok Y pc loc (.ref a :: st) h bc bs Q ↔ g_c h a = tag ∧ Ok Y (pc + 3) loc (.int (g_i h a k) :: st) h bc bs Q :=
  Ok_nc hd (sg_I hf h1 h2) ⟨fun k => k.2, fun k => ⟨rfl, k⟩⟩ hi0
theorem Ok_gL {tag k fin a : Nat} {st : List Value} (hd : decode (tb_b Y) pc = .ok (.getfield idx, 3)) (hf : tF (tb_o Y * 65536 + idx) = some (tag, k, 1, fin)) (hi0 : gd pc (.getfield idx) = true := by decide) : Ok Y pc loc (.ref a :: st) h bc bs Q ↔ g_c h a = tag ∧ Ok Y (pc + 3) loc (.long (g_l h a k) :: st) h bc bs Q :=
  Ok_nc hd (sg_L hf) ⟨fun k => k.2, fun k => ⟨rfl, k⟩⟩ hi0
theorem Ok_gR {tag k fin a : Nat} {st : List Value} (hd : decode (tb_b Y) pc = .ok (.getfield idx, 3)) (hf : tF (tb_o Y * 65536 + idx) = some (tag, k, 2, fin)) (hi0 : gd pc (.getfield idx) = true := by decide) : Ok Y pc loc (.ref a :: st) h bc bs Q ↔ g_c h a = tag ∧ Ok Y (pc + 3) loc (va_rf (g_r h a k) :: st) h bc bs Q :=
  Ok_nc hd (sg_R hf) ⟨fun k => k.2, fun k => ⟨rfl, k⟩⟩ hi0
end OkRows

section OkRows
variable {Y pc pc' len idx : Nat} {ins : Instr} {loc loc' stk stk' : List Value} {h h' : MH} {bc bs : Nat} {Q : MR → MH → Prop} {c : Prop}
theorem sg_R {tag k fin a : Nat} {st : List Value} (hf : tF (tb_o Y * 65536 + idx) = some (tag, k, 2, fin)) : stp Y pc (.getfield idx) 3 loc (.ref a :: st) h = s_nx (3 = 3 ∧ g_c h a = tag) (pc + 3) loc (va_rf (g_r h a k) :: st) h := by
  rw [stp_gf]; unfold s_gf; rw [hf]
  show s_nx _ _ _ ((if (2 : Nat) = 1 then _ else if (2 : Nat) = 2 then _ else _) :: _) _ = _
  rw [if_neg (show ¬ (2 : Nat) = 1 by decide), if_pos rfl]
end OkRows

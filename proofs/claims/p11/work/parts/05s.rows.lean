section OkRows
variable {Y pc pc' len idx : Nat} {ins : Instr} {loc loc' stk stk' : List Value} {h h' : MH} {bc bs : Nat} {Q : MR → MH → Prop} {c : Prop}
theorem si_8 {Z n tag a : Nat} {st : List Value} (hm : tM (tb_o Y * 65536 + idx) = some (Z, 8, n, tag)) : stp Y pc (.invokevirtual idx) 3 loc (.ref a :: st) h = s_al (3 = 3 ∧ false = false ∧ csum st ≤ 8 ∧ g_c h a = 103 ∧ g_z h ≤ a) (g_n h a) (pc + 3) loc (.ref (g_t h) :: st) (p_C (p_N h 103 (g_n h a)) (g_t h) (g_i h a)) := by
  rw [stp_iV]; unfold s_inv; rw [hm]; dsimp only
  rw [if_neg (show ¬ (8 : Nat) = 7 by decide), if_neg (show ¬ (8 : Nat) = 9 by decide), if_neg (show ¬ (8 : Nat) = 10 by decide), if_neg (show ¬ (8 : Nat) = 11 by decide), if_pos rfl] <;> rfl
end OkRows

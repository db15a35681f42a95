section OkRows
variable {Y pc pc' len idx : Nat} {ins : Instr} {loc loc' stk stk' : List Value} {h h' : MH} {bc bs : Nat} {Q : MR → MH → Prop} {c : Prop}
theorem si_7 {Z n9 tag a d : Nat} {n sp dp : Int32} {st : List Value} (hm : tM (tb_o Y * 65536 + idx) = some (Z, 7, n9, tag)) : stp Y pc (.invokestatic idx) 3 loc (.int n :: .int dp :: .ref d :: .int sp :: .ref a :: st) h = s_nx (3 = 3 ∧ true = true ∧ csum st ≤ 8 ∧ g_c h a = 103 ∧ g_c h d = 103 ∧ g_z h ≤ d ∧ ¬ sp < 0 ∧ ¬ dp < 0 ∧ ¬ n < 0 ∧ sp.toNatClampNeg + n.toNatClampNeg ≤ g_n h a ∧ dp.toNatClampNeg + n.toNatClampNeg ≤ g_n h d) (pc + 3) loc st (p_C h d (va_cpy (g_i h a) (g_i h d) sp.toNatClampNeg dp.toNatClampNeg n.toNatClampNeg)) := by
  rw [stp_iS]; unfold s_inv; rw [hm]; dsimp only
  rw [if_pos rfl] <;> rfl
end OkRows

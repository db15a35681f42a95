section OkRows
variable {Y pc pc' len idx : Nat} {ins : Instr} {loc loc' stk stk' : List Value} {h h' : MH} {bc bs : Nat} {Q : MR → MH → Prop} {c : Prop}
theorem si_9 {Z n tag : Nat} {x y : Int32} {st : List Value} (hm : tM (tb_o Y * 65536 + idx) = some (Z, 9, n, tag)) : stp Y pc (.invokestatic idx) 3 loc (.int y :: .int x :: st) h = s_nx (3 = 3 ∧ true = true ∧ csum st ≤ 8) (pc + 3) loc (.int (if y < x then y else x) :: st) h := by
  rw [stp_iS, hm]; dsimp only [s_inv2]
  rw [if_neg (show ¬ (9 : Nat) = 7 by decide), if_pos rfl] <;> rfl
theorem si_10 {Z n tag : Nat} {x y : Int32} {st : List Value} (hm : tM (tb_o Y * 65536 + idx) = some (Z, 10, n, tag)) : stp Y pc (.invokestatic idx) 3 loc (.int y :: .int x :: st) h = s_nx (3 = 3 ∧ true = true ∧ csum st ≤ 8) (pc + 3) loc (.int (if x < y then y else x) :: st) h := by
  rw [stp_iS, hm]; dsimp only [s_inv2]
  rw [if_neg (show ¬ (10 : Nat) = 7 by decide), if_neg (show ¬ (10 : Nat) = 9 by decide), if_pos rfl] <;> rfl
theorem si_11 {Z n tag : Nat} {x : Int32} {st : List Value} (hm : tM (tb_o Y * 65536 + idx) = some (Z, 11, n, tag)) : stp Y pc (.invokestatic idx) 3 loc (.int x :: st) h = s_nx (3 = 3 ∧ true = true ∧ csum st ≤ 8) (pc + 3) loc (.int (if 0 ≤ x then x else 0 - x) :: st) h := by
  rw [stp_iS, hm]; dsimp only [s_inv2]
  rw [if_neg (show ¬ (11 : Nat) = 7 by decide), if_neg (show ¬ (11 : Nat) = 9 by decide), if_neg (show ¬ (11 : Nat) = 10 by decide), if_pos rfl] <;> rfl
theorem si_7 {Z n9 tag a d : Nat} {n sp dp : Int32} {st : List Value} (hm : tM (tb_o Y * 65536 + idx) = some (Z, 7, n9, tag)) : stp Y pc (.invokestatic idx) 3 loc (.int n :: .int dp :: .ref d :: .int sp :: .ref a :: st) h = s_nx (3 = 3 ∧ true = true ∧ csum st ≤ 8 ∧ g_c h a = 103 ∧ g_c h d = 103 ∧ g_z h ≤ d ∧ ¬ sp < 0 ∧ ¬ dp < 0 ∧ ¬ n < 0 ∧ sp.toNatClampNeg + n.toNatClampNeg ≤ g_n h a ∧ dp.toNatClampNeg + n.toNatClampNeg ≤ g_n h d) (pc + 3) loc st (p_C h d (va_cpy (g_i h a) (g_i h d) sp.toNatClampNeg dp.toNatClampNeg n.toNatClampNeg)) := by
  rw [stp_iS, hm]; dsimp only [s_inv2]
  rw [if_pos rfl] <;> rfl
theorem si_8 {Z n tag a : Nat} {st : List Value} (hm : tM (tb_o Y * 65536 + idx) = some (Z, 8, n, tag)) : stp Y pc (.invokevirtual idx) 3 loc (.ref a :: st) h = s_al (3 = 3 ∧ false = false ∧ csum st ≤ 8 ∧ g_c h a = 103 ∧ g_z h ≤ a) (g_n h a) (pc + 3) loc (.ref (g_t h) :: st) (p_C (p_N h 103 (g_n h a)) (g_t h) (g_i h a)) := by
  rw [stp_iV, hm]; dsimp only [s_inv2]
  rw [if_neg (show ¬ (8 : Nat) = 7 by decide), if_neg (show ¬ (8 : Nat) = 9 by decide), if_neg (show ¬ (8 : Nat) = 10 by decide), if_neg (show ¬ (8 : Nat) = 11 by decide), if_pos rfl] <;> rfl
end OkRows

section OkRows
variable {Y pc pc' len idx : Nat} {ins : Instr} {loc loc' stk stk' : List Value} {h h' : MH} {bc bs : Nat} {Q : MR → MH → Prop} {c : Prop}
theorem si_O {Z n tag a : Nat} {st : List Value} (hm : tI (tb_o Y * 65536 + idx) = some (Z, 6, n, tag)) : stp Y pc (.invokespecial idx) 3 loc (.ref a :: st) h = s_nx (3 = 3 ∧ csum st ≤ 8) (pc + 3) loc st h := by
  rw [stp_sp, hm]; dsimp only [s_spe2]
  rw [if_pos rfl] <;> rfl
theorem st_th {E : Nat} (he : tE (Y * 65536 + pc) = some E) : stp Y pc (.new idx) 3 loc [] h = s_th (3 = 3) E := by
  rw [stp_nw, he] <;> rfl
theorem st_nw {tag n : Nat} (he : tE (Y * 65536 + pc) = none) (hc : tC (tb_o Y * 65536 + idx) = some (tag, n)) : stp Y pc (.new idx) 3 loc stk h = s_al (3 = 3) n (pc + 3) loc (.ref (g_t h) :: stk) (p_N h tag 0) := by
  rw [stp_nw, he, hc] <;> rfl
theorem kok_of0 {kd : Nat} {x : Int32} (hk : kd = 0) : kok kd x := by subst hk; exact kok_0
theorem kok_to {kd k2 : Nat} {x : Int32} (hk : kd = k2) (k : kok kd x) : kok k2 x := hk ▸ k
theorem kok_fr {kd k2 : Nat} {x : Int32} (hk : kd = k2) (k : kok k2 x) : kok kd x := hk ▸ k
end OkRows

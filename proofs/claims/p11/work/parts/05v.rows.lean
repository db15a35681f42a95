section OkRows
variable {Y pc pc' len idx : Nat} {ins : Instr} {loc loc' stk stk' : List Value} {h h' : MH} {bc bs : Nat} {Q : MR → MH → Prop} {c : Prop}
theorem st_nw {tag n : Nat} (he : tE (Y * 65536 + pc) = none) (hc : tC (tb_o Y * 65536 + idx) = some (tag, n)) : stp Y pc (.new idx) 3 loc stk h = s_al (3 = 3) n (pc + 3) loc (.ref (g_t h) :: stk) (p_N h tag 0) := by
  rw [stp_nw]; unfold s_nw; rw [he]; dsimp only
  rw [hc] <;> rfl
end OkRows

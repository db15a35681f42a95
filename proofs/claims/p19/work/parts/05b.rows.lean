section OkRows
variable {Y pc pc' len idx : Nat} {ins : Instr} {loc loc' stk stk' : List Value} {h h' : MH} {bc bs : Nat} {Q : MR → MH → Prop} {c : Prop}
theorem stp_gf : stp Y pc (.getfield idx) len loc stk h = s_gf2 (tF (tb_o Y * 65536 + idx)) len pc loc stk h := rfl
theorem stp_pf : stp Y pc (.putfield idx) len loc stk h = s_pf2 (tF (tb_o Y * 65536 + idx)) len Y pc loc stk h := rfl
theorem stp_iS : stp Y pc (.invokestatic idx) len loc stk h = s_inv2 (tM (tb_o Y * 65536 + idx)) true len pc loc stk h := rfl
theorem stp_iV : stp Y pc (.invokevirtual idx) len loc stk h = s_inv2 (tM (tb_o Y * 65536 + idx)) false len pc loc stk h := rfl
theorem stp_sp : stp Y pc (.invokespecial idx) len loc stk h = s_spe2 (tI (tb_o Y * 65536 + idx)) len pc loc stk h := rfl
theorem stp_nw : stp Y pc (.new idx) len loc stk h = s_nw2 (tE (Y * 65536 + pc)) (tC (tb_o Y * 65536 + idx)) len pc loc stk h := rfl
end OkRows

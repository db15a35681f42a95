section OkRows
variable {Y pc pc' len idx : Nat} {ins : Instr} {loc loc' stk stk' : List Value} {h h' : MH} {bc bs : Nat} {Q : MR → MH → Prop} {c : Prop}
theorem stp_gf : stp Y pc (.getfield idx) len loc stk h = s_gf len Y pc idx loc stk h := rfl
theorem stp_pf : stp Y pc (.putfield idx) len loc stk h = s_pf len Y pc idx loc stk h := rfl
theorem stp_iS : stp Y pc (.invokestatic idx) len loc stk h = s_inv true len Y pc idx loc stk h := rfl
theorem stp_iV : stp Y pc (.invokevirtual idx) len loc stk h = s_inv false len Y pc idx loc stk h := rfl
theorem stp_sp : stp Y pc (.invokespecial idx) len loc stk h = s_spe len Y pc idx loc stk h := rfl
theorem stp_nw : stp Y pc (.new idx) len loc stk h = s_nw len Y pc idx loc stk h := rfl
end OkRows

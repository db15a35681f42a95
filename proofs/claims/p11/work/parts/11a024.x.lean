theorem cW_self {h : MH} {q w r : Nat} : cW h q w r (cT h q w r) = h := by
  refine mh_ext (fun b j => ?_) rfl
  simp only [cT, cW, mi_pi]
  exact ite_s gi_of fun _ => ite_s gi_of fun _ => ite_s gi_of fun _ => ite_s gi_of fun _ => ite_s gi_of fun _ => ite_s gi_of fun _ => ite_s gi_of fun _ => rfl

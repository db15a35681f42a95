theorem cW_cW {h : MH} {q w r : Nat} (t u : QT) : cW (cW h q w r t) q w r u = cW h q w r u := by
  refine mh_ext (fun b j => ?_) rfl
  simp only [cW, mi_pi]
  exact ite_r fun n0 => ite_r fun n1 => ite_r fun n2 => ite_r fun n3 => ite_r fun n4 => ite_r fun n5 => ite_r fun n6 => (if_neg n0).trans ((if_neg n1).trans ((if_neg n2).trans ((if_neg n3).trans ((if_neg n4).trans ((if_neg n5).trans (if_neg n6))))))


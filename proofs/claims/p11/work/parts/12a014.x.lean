theorem mW_mW {h : MH} {a k w r : Nat} (t u : QT) : mW (mW h a k w r t) a k w r u = mW h a k w r u := by
  refine mh_ext (fun b j => ?_) rfl
  simp only [mW, mi_pi]
  exact ite_r fun n0 => ite_r fun n1 => ite_r fun n2 => ite_r fun n3 => ite_r fun n4 => ite_r fun n5 => ite_r fun n6 => (if_neg n0).trans ((if_neg n1).trans ((if_neg n2).trans ((if_neg n3).trans ((if_neg n4).trans ((if_neg n5).trans (if_neg n6))))))

theorem mW_3 {h : MH} {a k w r : Nat} {t : QT} {v : Int32} : mW (p_i h r 3 v) a k w r t = mW h a k w r t := by
  refine mh_ext (fun b j => ?_) rfl
  simp only [mW, mi_pi]
  exact ite_r fun n0 => ite_r fun n1 => ite_r fun n2 => ite_r fun n3 => ite_r fun n4 => ite_r fun n5 => ite_r fun n6 => if_neg n3

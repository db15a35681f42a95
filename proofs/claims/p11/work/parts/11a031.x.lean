theorem cW_3 {h : MH} {q w r : Nat} {t : QT} {v : Int32} : cW (p_i h r 4 v) q w r t = cW h q w r t := by
  refine mh_ext (fun b j => ?_) rfl
  simp only [cW, mi_pi]
  exact ite_r fun n0 => ite_r fun n1 => ite_r fun n2 => ite_r fun n3 => ite_r fun n4 => ite_r fun n5 => ite_r fun n6 => if_neg n3

theorem mW_self {h : MH} {a k w r : Nat} : mW h a k w r (mT h a k w r) = h := by
  refine mh_ext (fun b j => ?_) rfl
  simp only [mT, mW, mi_pi]
  exact ite_s gi_of fun _ => ite_s gi_of fun _ => ite_s gi_of fun _ => ite_s gi_of fun _ => ite_s gi_of fun _ => ite_s gi_of fun _ => ite_s gi_of fun _ => rfl

/-! CONTRACTS, the reference: panes, queues -/
theorem vb1 : vp_nar .boolean 1 = 1 := by decide
theorem vb0 : vp_nar .boolean 0 = 0 := by decide
theorem c_X7_rests {w : Nat} {h : MH} {Q : MR → MH → Prop} (w1 : g_c h w = 8) : Ok 151 0 [.ref w] [] h 0 0 Q ↔ Q (.inl (some (.int ((g_i h w 4) - (g_i h w 3))))) h := by
  simp only [o151_0, o151_1, o151_4, o151_5, o151_8, o151_9, true_and, w1]

theorem c_X7_rewound {w : Nat} {h : MH} {Q : MR → MH → Prop} (w1 : g_c h w = 8) (w2 : g_z h ≤ w) : Ok 154 0 [.ref w] [] h 0 0 Q ↔ Q (.inl none) (p_i (p_i h w 3 0) w 5 (-1)) := by
  simp only [o154_0, o154_1, o154_2, o154_5, o154_6, o154_7, o154_10, mc_pi, mz_pi, kok_0, true_and, and_self, w1, w2]

theorem c_X7_flipped {w : Nat} {h : MH} {Q : MR → MH → Prop} (w1 : g_c h w = 8) (w2 : g_z h ≤ w) : Ok 155 0 [.ref w] [] h 0 0 Q ↔ Q (.inl none) (p_i (p_i (p_i h w 4 (g_i h w 3)) w 3 0) w 5 (-1)) := by
  simp only [o155_0, o155_1, o155_2, o155_5, o155_8, o155_9, o155_12, c_X7_rewound, mc_pi, mz_pi, mcs_0, Kn_0, kok_0, true_and, and_self, Nat.zero_le, w1, w2]

theorem c_X7_cleared {w : Nat} {h : MH} {Q : MR → MH → Prop} (w1 : g_c h w = 8) (w2 : g_z h ≤ w) : Ok 156 0 [.ref w] [] h 0 0 Q ↔ Q (.inl none) (p_i (p_i (p_i h w 4 (g_i h w 1)) w 3 0) w 5 (-1)) := by
  simp only [o156_0, o156_1, o156_2, o156_5, o156_8, o156_9, o156_12, c_X7_rewound, mc_pi, mz_pi, mcs_0, Kn_0, kok_0, true_and, and_self, Nat.zero_le, w1, w2]

theorem c_X7_toPlace {w : Nat} {x : Int32} {h : MH} {Q : MR → MH → Prop} (w1 : g_c h w = 8) (w2 : g_z h ≤ w) : Ok 152 0 [.ref w, .int x] [] h 0 0 Q ↔ Q (.inl none) (p_i (p_i h w 3 x) w 5 (liM (g_i h w 5) x)) := by
  have e := p_i_self (p_i h w 3 x) w 5
  simp only [mi_pi, Nat.reduceEqDiff, and_false, if_false] at e
  by_cases b0 : x < g_i h w 5 <;> simp only [o152_0, o152_1, o152_2, o152_5, o152_6, o152_9, o152_10, o152_13, o152_14, o152_15, o152_18, mc_pi, mi_pi, mz_pi, kok_0, true_and, and_true, and_false, not_true_eq_false, not_false_eq_true, false_implies, forall_const, if_true, if_false, and_self, Nat.reduceEqDiff, lt_le, w1, w2, b0, e, lt_le, liM]

theorem c_X7_toLimit {w : Nat} {x : Int32} {h : MH} {Q : MR → MH → Prop} (w1 : g_c h w = 8) (w2 : g_z h ≤ w) : Ok 153 0 [.ref w, .int x] [] h 0 0 Q ↔ Q (.inl none) (p_i (p_i (p_i h w 4 x) w 3 (liP (g_i h w 3) x)) w 5 (liM (g_i h w 5) x)) := by
  have e := p_i_self (p_i h w 4 x) w 3
  have e2 := p_i_self (p_i (p_i h w 4 x) w 3 x) w 5
  have e3 := p_i_self (p_i h w 4 x) w 5
  simp only [mi_pi, Nat.reduceEqDiff, and_false, if_false] at e e2 e3
  by_cases b0 : x < g_i h w 3 <;> by_cases b1 : x < g_i h w 5 <;> simp only [o153_0, o153_1, o153_2, o153_5, o153_6, o153_9, o153_10, o153_13, o153_14, o153_15, o153_18, o153_19, o153_22, o153_23, o153_26, o153_27, o153_28, o153_31, mc_pi, mi_pi, mz_pi, kok_0, true_and, and_true, and_false, not_true_eq_false, not_false_eq_true, false_implies, forall_const, if_true, if_false, and_self, Nat.reduceEqDiff, lt_le, w1, w2, b0, b1, e, e2, e3, lt_le, liM, liP]

theorem c_X7_isRight {w : Nat} {h : MH} {Q : MR → MH → Prop} (w1 : g_c h w = 8) : Ok 157 0 [.ref w] [] h 0 0 Q ↔ Q (.inl (some (.int (if -1 ≤ (g_i h w 5) ∧ (g_i h w 5) ≤ (g_i h w 3) ∧ (g_i h w 3) ≤ (g_i h w 4) ∧ (g_i h w 4) ≤ (g_i h w 1) then 1 else 0)))) h := by
  by_cases b0 : g_i h w 5 < -1 <;> by_cases b1 : g_i h w 3 < g_i h w 5 <;> by_cases b2 : g_i h w 4 < g_i h w 3 <;> by_cases b3 : g_i h w 1 < g_i h w 4 <;> simp only [o157_0, o157_1, o157_4, o157_5, o157_8, o157_9, o157_12, o157_13, o157_16, o157_19, o157_20, o157_23, o157_24, o157_27, o157_30, o157_31, o157_34, o157_35, o157_38, o157_41, o157_42, o157_45, o157_46, true_and, and_true, and_false, not_true_eq_false, not_false_eq_true, false_implies, forall_const, if_true, if_false, and_self, kz0, kz1, lt_le, w1, b0, b1, b2, b3, lt_le]

theorem c_X7_init {w : Nat} {f n s l : Int32} {h : MH} {Q : MR → MH → Prop} (w1 : g_c h w = 8) (w2 : g_z h ≤ w) (s0 : kok 3 s) : Ok 150 0 [.ref w, .int f, .int n, .int s, .int l] [] h 0 0 Q ↔ Q (.inl none) (p_i (p_i (p_i (p_i (p_i h w 5 (-1)) w 0 f) w 1 n) w 2 s) w 4 l) := by
  simp only [o150_0, o150_1, o150_4, o150_5, o150_6, o150_9, o150_10, o150_11, o150_14, o150_15, o150_16, o150_19, o150_20, o150_21, o150_24, o150_25, o150_27, o150_30, mc_pi, mz_pi, mcs_0, kok_0, true_and, and_self, Nat.zero_le, w1, w2, s0, w1, w2]

def mT (h : MH) (a k w r : Nat) : QT := (g_i h w 3, g_i h w 4, g_i h w 5, g_i h r 3, g_i h r 4, g_i h r 5, g_i h a k)
def mW (h : MH) (a k w r : Nat) (t : QT) : MH := p_i (p_i (p_i (p_i (p_i (p_i (p_i h w 3 t.1) w 4 t.2.1) w 5 t.2.2.1) r 3 t.2.2.2.1) r 4 t.2.2.2.2.1) r 5 t.2.2.2.2.2.1) a k t.2.2.2.2.2.2
theorem mW_mT {h : MH} {a k w r : Nat} (n1 : ¬ w = r) (n3 : ¬ a = w) (n5 : ¬ a = r) (n2 : ¬ r = w) (n4 : ¬ w = a) (n6 : ¬ r = a) (t : QT) : mT (mW h a k w r t) a k w r = t := by
  obtain ⟨a1, a2, a3, a4, a5, a6, a7⟩ := t
  simp only [mT, mW, mi_pi, n1, n2, n3, n4, n5, n6, and_true, and_false, false_and, if_true, if_false, Nat.reduceEqDiff]
theorem mW_self {h : MH} {a k w r : Nat} : mW h a k w r (mT h a k w r) = h := by
  refine mh_ext (fun b j => ?_) rfl
  simp only [mT, mW, mi_pi]
  exact ite_s gi_of fun _ => ite_s gi_of fun _ => ite_s gi_of fun _ => ite_s gi_of fun _ => ite_s gi_of fun _ => ite_s gi_of fun _ => ite_s gi_of fun _ => rfl
theorem mW_of {h h' : MH} {a k w r : Nat} {t : QT} (n1 : ¬ w = r) (n3 : ¬ a = w) (n5 : ¬ a = r) (n2 : ¬ r = w) (n4 : ¬ w = a) (n6 : ¬ r = a) (e : mT h' a k w r = t) (e1 : mW h' a k w r t = mW h a k w r t) : h' = mW h a k w r t := by
  rw [← e1, ← e, mW_self]
section
variable {h : MH} {a k w r : Nat} {t : QT} (b j : Nat)
theorem c_mW : g_c (mW h a k w r t) b = g_c h b := id rfl
theorem n_mW : g_n (mW h a k w r t) b = g_n h b := id rfl
theorem r_mW : g_r (mW h a k w r t) b j = g_r h b j := id rfl
theorem l_mW : g_l (mW h a k w r t) b j = g_l h b j := id rfl
theorem z_mW : g_z (mW h a k w r t) = g_z h := id rfl
end
theorem mW_0 {h : MH} {a k w r : Nat} {t : QT} {v : Int32} : mW (p_i h w 3 v) a k w r t = mW h a k w r t := by
  refine mh_ext (fun b j => ?_) rfl
  simp only [mW, mi_pi]
  exact ite_r fun n0 => ite_r fun n1 => ite_r fun n2 => ite_r fun n3 => ite_r fun n4 => ite_r fun n5 => ite_r fun n6 => if_neg n6
theorem mW_1 {h : MH} {a k w r : Nat} {t : QT} {v : Int32} : mW (p_i h w 4 v) a k w r t = mW h a k w r t := by
  refine mh_ext (fun b j => ?_) rfl
  simp only [mW, mi_pi]
  exact ite_r fun n0 => ite_r fun n1 => ite_r fun n2 => ite_r fun n3 => ite_r fun n4 => ite_r fun n5 => ite_r fun n6 => if_neg n5
theorem mW_2 {h : MH} {a k w r : Nat} {t : QT} {v : Int32} : mW (p_i h w 5 v) a k w r t = mW h a k w r t := by
  refine mh_ext (fun b j => ?_) rfl
  simp only [mW, mi_pi]
  exact ite_r fun n0 => ite_r fun n1 => ite_r fun n2 => ite_r fun n3 => ite_r fun n4 => ite_r fun n5 => ite_r fun n6 => if_neg n4
theorem mW_3 {h : MH} {a k w r : Nat} {t : QT} {v : Int32} : mW (p_i h r 3 v) a k w r t = mW h a k w r t := by
  refine mh_ext (fun b j => ?_) rfl
  simp only [mW, mi_pi]
  exact ite_r fun n0 => ite_r fun n1 => ite_r fun n2 => ite_r fun n3 => ite_r fun n4 => ite_r fun n5 => ite_r fun n6 => if_neg n3
theorem mW_4 {h : MH} {a k w r : Nat} {t : QT} {v : Int32} : mW (p_i h r 4 v) a k w r t = mW h a k w r t := by
  refine mh_ext (fun b j => ?_) rfl
  simp only [mW, mi_pi]
  exact ite_r fun n0 => ite_r fun n1 => ite_r fun n2 => ite_r fun n3 => ite_r fun n4 => ite_r fun n5 => ite_r fun n6 => if_neg n2
theorem mW_5 {h : MH} {a k w r : Nat} {t : QT} {v : Int32} : mW (p_i h r 5 v) a k w r t = mW h a k w r t := by
  refine mh_ext (fun b j => ?_) rfl
  simp only [mW, mi_pi]
  exact ite_r fun n0 => ite_r fun n1 => ite_r fun n2 => ite_r fun n3 => ite_r fun n4 => ite_r fun n5 => ite_r fun n6 => if_neg n1
theorem mW_6 {h : MH} {a k w r : Nat} {t : QT} {v : Int32} : mW (p_i h a k v) a k w r t = mW h a k w r t := by
  refine mh_ext (fun b j => ?_) rfl
  simp only [mW, mi_pi]
  exact ite_r fun n0 => ite_r fun n1 => ite_r fun n2 => ite_r fun n3 => ite_r fun n4 => ite_r fun n5 => ite_r fun n6 => if_neg n0
theorem mW_mW {h : MH} {a k w r : Nat} (t u : QT) : mW (mW h a k w r t) a k w r u = mW h a k w r u := by
  rw [show mW h a k w r t = p_i (p_i (p_i (p_i (p_i (p_i (p_i h w 3 t.1) w 4 t.2.1) w 5 t.2.2.1) r 3 t.2.2.2.1) r 4 t.2.2.2.2.1) r 5 t.2.2.2.2.2.1) a k t.2.2.2.2.2.2 from rfl, mW_6, mW_5, mW_4, mW_3, mW_2, mW_1, mW_0]
section
variable {h : MH} {a k w r : Nat} {t : QT} (n4 : ¬ w = a) (n6 : ¬ r = a)
theorem i_mW_w0 (n0 : ¬ w = a) : g_i (mW h a k w r t) w 0 = g_i h w 0 := by simp only [mW, mi_pi, n0, Nat.reduceEqDiff, and_false, false_and, if_false]
theorem i_mW_w1 (n0 : ¬ w = a) : g_i (mW h a k w r t) w 1 = g_i h w 1 := by simp only [mW, mi_pi, n0, Nat.reduceEqDiff, and_false, false_and, if_false]
theorem i_mW_r0 (n0 : ¬ r = a) : g_i (mW h a k w r t) r 0 = g_i h r 0 := by simp only [mW, mi_pi, n0, Nat.reduceEqDiff, and_false, false_and, if_false]
theorem i_mW_r1 (n0 : ¬ r = a) : g_i (mW h a k w r t) r 1 = g_i h r 1 := by simp only [mW, mi_pi, n0, Nat.reduceEqDiff, and_false, false_and, if_false]
end

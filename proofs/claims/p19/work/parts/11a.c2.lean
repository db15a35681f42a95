/-! CONTRACTS, the class: queues -/
/-- a queue's seven numbers: the writer's place, limit, mark; the reader's; around -/
abbrev QT : Type := Int32 × Int32 × Int32 × Int32 × Int32 × Int32 × Int32
def cT (h : MH) (q w r : Nat) : QT := (g_i h w 4, g_i h w 5, g_i h w 6, g_i h r 4, g_i h r 5, g_i h r 6, g_i h q 3)
def cW (h : MH) (q w r : Nat) (t : QT) : MH := p_i (p_i (p_i (p_i (p_i (p_i (p_i h w 4 t.1) w 5 t.2.1) w 6 t.2.2.1) r 4 t.2.2.2.1) r 5 t.2.2.2.2.1) r 6 t.2.2.2.2.2.1) q 3 t.2.2.2.2.2.2
/-- first part of settling a ring -/
def arF (sz : Int32) (t : QT) : QT := match t with
  | (wp, wl, wm, rp, rl, rm, ar) => if wp = sz then (0, wl, -1, rp, rl, rm, 1) else if ar = 0 then (wp, wl, wm, rp, rl, rm, ar) else if rp = sz then (wp, wl, wm, 0, rl, -1, 0) else (wp, wl, wm, rp, rl, rm, ar)
/-- setting a limit: place, limit, mark -/
def liP (p x : Int32) : Int32 := if x < p then x else p
def liM (m x : Int32) : Int32 := if x < m then -1 else m
def olF (t : QT) : Int32 := match t with
  | (_, _, _, rp, _, rm, _) => if rm < 0 then rp else rm
def enF (sz : Int32) (t : QT) : QT := match t with
  | (wp, wl, wm, rp, rl, rm, ar) => let x := if ar = 0 then wp else sz; let rp2 := liP rp x; let rm2 := liM rm x; let y := if ar = 0 then sz else (if rm2 < 0 then rp2 else rm2); (liP wp y, y, liM wm y, rp2, x, rm2, ar)
def seF (ring sz : Int32) (t : QT) : QT := if ring = 0 then enF sz t else enF sz (arF sz t)
def lyF (t : QT) : Int32 := match t with
  | (wp, _, _, rp, rl, _, ar) => rl - rp + (if ar = 0 then 0 else wp)
def frF (ring : Int32) (t : QT) : Int32 := match t with
  | (wp, wl, _, rp, _, rm, ar) => wl - wp + (if ring = 0 then 0 else if ar = 0 then (if rm < 0 then rp else rm) else 0)
def ceF (t : QT) (x : Int32) : Int32 := match t with
  | (_, _, _, rp, rl, _, _) => if x < rl - rp then rp + x else x - (rl - rp)
theorem ite_r {p : Prop} [Decidable p] {a b c : Int32} (f : ¬ p → b = c) : (if p then a else b) = (if p then a else c) := by
  by_cases z : p
  · rw [if_pos z, if_pos z]
  · rw [if_neg z, if_neg z]
    exact f z
theorem ite_s {p : Prop} [Decidable p] {a b c : Int32} (f : p → a = c) (g : ¬ p → b = c) : (if p then a else b) = c := by
  by_cases z : p
  · rw [if_pos z]
    exact f z
  · rw [if_neg z]
    exact g z
theorem gi_of {h : MH} {b j x k : Nat} (z : b = x ∧ j = k) : g_i h x k = g_i h b j := by rw [z.1, z.2]
theorem mh_ext {m n : MH} (e1 : ∀ b j, g_i m b j = g_i n b j) (e2 : (m.1, m.2.1, m.2.2.2) = (n.1, n.2.1, n.2.2.2)) : m = n := by
  obtain ⟨a1, a2, a3, a4⟩ := m
  obtain ⟨b1, b2, b3, b4⟩ := n
  simp only [Prod.mk.injEq] at e2
  obtain ⟨rfl, rfl, rfl⟩ := e2
  have : a3 = b3 := funext fun b => funext fun j => e1 b j
  rw [this]

theorem c_X1_oldest {q w r : Nat} {h : MH} {Q : MR → MH → Prop} (q1 : g_c h q = 5) (q3 : g_r h q 0 = some w) (q4 : g_r h q 1 = some r) (w1 : g_c h w = 4) (v1 : g_c h r = 4) : Ok 7 0 [.ref q] [] h 0 0 Q ↔ Q (.inl (some (.int (olF (cT h q w r))))) h := by
  by_cases b0 : g_i h r 6 < 0 <;> simp only [o7_0, o7_1, o7_4, o7_7, o7_10, o7_11, o7_14, o7_17, o7_20, o7_21, o7_24, o7_27, mrf_some, true_and, and_true, not_true_eq_false, not_false_eq_true, false_implies, forall_const, if_true, if_false, lt_le, q1, q4, v1, b0, olF, cT]

theorem c_X1_kept {q w r : Nat} {h : MH} {Q : MR → MH → Prop} (q1 : g_c h q = 5) (q3 : g_r h q 0 = some w) (q4 : g_r h q 1 = some r) (w1 : g_c h w = 4) (v1 : g_c h r = 4) : Ok 8 0 [.ref q] [] h 0 0 Q ↔ Q (.inl (some (.int (g_i h r 4 - olF (cT h q w r))))) h := by
  simp only [o8_0, o8_1, o8_4, o8_7, o8_8, o8_11, o8_12, c_X1_oldest (w := w) (r := r), mcs_0, mcs_i, Kn_v, mrf_some, true_and, Nat.reduceLeDiff, Nat.reduceAdd, q1, q3, q4, w1, v1]

theorem c_X1_lying {q w r : Nat} {h : MH} {Q : MR → MH → Prop} (q1 : g_c h q = 5) (q3 : g_r h q 0 = some w) (q4 : g_r h q 1 = some r) (w1 : g_c h w = 4) (v1 : g_c h r = 4) : Ok 9 0 [.ref q] [] h 0 0 Q ↔ Q (.inl (some (.int (lyF (cT h q w r))))) h := by
  by_cases b0 : g_i h q 3 = 0 <;> simp only [o9_0, o9_1, o9_4, o9_7, o9_8, o9_11, o9_14, o9_15, o9_18, o9_21, o9_24, o9_25, o9_26, c_X3_rests, mcs_0, Kn_v, mrf_some, true_and, and_true, not_true_eq_false, not_false_eq_true, false_implies, forall_const, if_true, if_false, Nat.zero_le, q1, q3, q4, w1, v1, b0, lyF, cT]

theorem c_X1_freeCells {q w r : Nat} {h : MH} {Q : MR → MH → Prop} (q1 : g_c h q = 5) (q3 : g_r h q 0 = some w) (q4 : g_r h q 1 = some r) (w1 : g_c h w = 4) (v1 : g_c h r = 4) : Ok 10 0 [.ref q] [] h 0 0 Q ↔ Q (.inl (some (.int (frF (g_i h q 2) (cT h q w r))))) h := by
  by_cases b0 : g_i h q 2 = 0 <;> by_cases b1 : g_i h q 3 = 0 <;> simp only [o10_0, o10_1, o10_4, o10_7, o10_8, o10_11, o10_14, o10_15, o10_18, o10_21, o10_22, o10_25, o10_28, o10_29, o10_30, c_X3_rests, c_X1_oldest (w := w) (r := r), mcs_0, mcs_i, Kn_v, mrf_some, true_and, and_true, not_true_eq_false, not_false_eq_true, false_implies, forall_const, if_true, if_false, Nat.reduceLeDiff, Nat.reduceAdd, Nat.zero_le, q1, q3, q4, w1, v1, b0, b1, frF, olF, cT]

theorem c_X1_hasNone {q w r : Nat} {h : MH} {Q : MR → MH → Prop} (q1 : g_c h q = 5) (q3 : g_r h q 0 = some w) (q4 : g_r h q 1 = some r) (w1 : g_c h w = 4) (v1 : g_c h r = 4) : Ok 11 0 [.ref q] [] h 0 0 Q ↔ Q (.inl (some (.int (if g_i h r 5 - g_i h r 4 = 0 then 1 else 0)))) h := by
  by_cases b0 : g_i h r 5 - g_i h r 4 = 0 <;> simp only [o11_0, o11_1, o11_4, o11_7, o11_10, o11_11, o11_14, o11_15, c_X3_rests, mcs_0, Kn_v, mrf_some, true_and, and_true, not_true_eq_false, not_false_eq_true, false_implies, forall_const, if_true, if_false, Nat.zero_le, kz0, kz1, q1, q4, v1, b0]

theorem c_X1_hasNoRest {q w r : Nat} {h : MH} {Q : MR → MH → Prop} (q1 : g_c h q = 5) (q3 : g_r h q 0 = some w) (q4 : g_r h q 1 = some r) (w1 : g_c h w = 4) (v1 : g_c h r = 4) : Ok 12 0 [.ref q] [] h 0 0 Q ↔ Q (.inl (some (.int (if g_i h w 5 - g_i h w 4 = 0 then 1 else 0)))) h := by
  by_cases b0 : g_i h w 5 - g_i h w 4 = 0 <;> simp only [o12_0, o12_1, o12_4, o12_7, o12_10, o12_11, o12_14, o12_15, c_X3_rests, mcs_0, Kn_v, mrf_some, true_and, and_true, not_true_eq_false, not_false_eq_true, false_implies, forall_const, if_true, if_false, Nat.zero_le, kz0, kz1, q1, q3, w1, b0]

theorem c_X1_cellAt {q w r : Nat} {x : Int32} {h : MH} {Q : MR → MH → Prop} (q1 : g_c h q = 5) (q3 : g_r h q 0 = some w) (q4 : g_r h q 1 = some r) (w1 : g_c h w = 4) (v1 : g_c h r = 4) : Ok 21 0 [.ref q, .int x, mk0] [] h 0 0 Q ↔ Q (.inl (some (.int (ceF (cT h q w r) x)))) h := by
  by_cases b0 : x < g_i h r 5 - g_i h r 4 <;> simp only [o21_0, o21_1, o21_4, o21_7, o21_8, o21_9, o21_10, o21_13, o21_14, o21_17, o21_20, o21_21, o21_22, o21_25, o21_26, o21_27, o21_28, c_X3_rests, mcs_0, Kn_v, mrf_some, true_and, and_true, not_true_eq_false, not_false_eq_true, false_implies, forall_const, if_true, if_false, Nat.zero_le, lt_le, q1, q4, v1, b0, ceF, cT]

theorem cW_cT {h : MH} {q w r : Nat} (n1 : ¬ w = r) (n3 : ¬ q = w) (n5 : ¬ q = r) (n2 : ¬ r = w) (n4 : ¬ w = q) (n6 : ¬ r = q) (t : QT) : cT (cW h q w r t) q w r = t := by
  obtain ⟨a1, a2, a3, a4, a5, a6, a7⟩ := t
  simp only [cT, cW, mi_pi, n1, n2, n3, n4, n5, n6, and_true, and_false, if_true, if_false, Nat.reduceEqDiff]
theorem cW_self {h : MH} {q w r : Nat} : cW h q w r (cT h q w r) = h := by
  refine mh_ext (fun b j => ?_) rfl
  simp only [cT, cW, mi_pi]
  exact ite_s gi_of fun _ => ite_s gi_of fun _ => ite_s gi_of fun _ => ite_s gi_of fun _ => ite_s gi_of fun _ => ite_s gi_of fun _ => ite_s gi_of fun _ => rfl

/-- what a queue's method wrote is a whole row of seven -/
theorem cW_of {h h' : MH} {q w r : Nat} {t : QT} (n1 : ¬ w = r) (n3 : ¬ q = w) (n5 : ¬ q = r) (n2 : ¬ r = w) (n4 : ¬ w = q) (n6 : ¬ r = q) (e : cT h' q w r = t) (e1 : cW h' q w r t = cW h q w r t) : h' = cW h q w r t := by
  rw [← e1, ← e, cW_self]

section
variable {h : MH} {q w r : Nat} {t : QT} (b j : Nat)
theorem c_cW : g_c (cW h q w r t) b = g_c h b := id rfl
theorem n_cW : g_n (cW h q w r t) b = g_n h b := id rfl
theorem r_cW : g_r (cW h q w r t) b j = g_r h b j := id rfl
theorem l_cW : g_l (cW h q w r t) b j = g_l h b j := id rfl
theorem z_cW : g_z (cW h q w r t) = g_z h := id rfl
theorem t_cW : g_t (cW h q w r t) = g_t h := id rfl
end
theorem cW_0 {h : MH} {q w r : Nat} {t : QT} {v : Int32} : cW (p_i h w 4 v) q w r t = cW h q w r t := by
  refine mh_ext (fun b j => ?_) rfl
  simp only [cW, mi_pi]
  exact ite_r fun n0 => ite_r fun n1 => ite_r fun n2 => ite_r fun n3 => ite_r fun n4 => ite_r fun n5 => ite_r fun n6 => if_neg n6
theorem cW_1 {h : MH} {q w r : Nat} {t : QT} {v : Int32} : cW (p_i h w 5 v) q w r t = cW h q w r t := by
  refine mh_ext (fun b j => ?_) rfl
  simp only [cW, mi_pi]
  exact ite_r fun n0 => ite_r fun n1 => ite_r fun n2 => ite_r fun n3 => ite_r fun n4 => ite_r fun n5 => ite_r fun n6 => if_neg n5
theorem cW_2 {h : MH} {q w r : Nat} {t : QT} {v : Int32} : cW (p_i h w 6 v) q w r t = cW h q w r t := by
  refine mh_ext (fun b j => ?_) rfl
  simp only [cW, mi_pi]
  exact ite_r fun n0 => ite_r fun n1 => ite_r fun n2 => ite_r fun n3 => ite_r fun n4 => ite_r fun n5 => ite_r fun n6 => if_neg n4
theorem cW_3 {h : MH} {q w r : Nat} {t : QT} {v : Int32} : cW (p_i h r 4 v) q w r t = cW h q w r t := by
  refine mh_ext (fun b j => ?_) rfl
  simp only [cW, mi_pi]
  exact ite_r fun n0 => ite_r fun n1 => ite_r fun n2 => ite_r fun n3 => ite_r fun n4 => ite_r fun n5 => ite_r fun n6 => if_neg n3
theorem cW_4 {h : MH} {q w r : Nat} {t : QT} {v : Int32} : cW (p_i h r 5 v) q w r t = cW h q w r t := by
  refine mh_ext (fun b j => ?_) rfl
  simp only [cW, mi_pi]
  exact ite_r fun n0 => ite_r fun n1 => ite_r fun n2 => ite_r fun n3 => ite_r fun n4 => ite_r fun n5 => ite_r fun n6 => if_neg n2
theorem cW_5 {h : MH} {q w r : Nat} {t : QT} {v : Int32} : cW (p_i h r 6 v) q w r t = cW h q w r t := by
  refine mh_ext (fun b j => ?_) rfl
  simp only [cW, mi_pi]
  exact ite_r fun n0 => ite_r fun n1 => ite_r fun n2 => ite_r fun n3 => ite_r fun n4 => ite_r fun n5 => ite_r fun n6 => if_neg n1
theorem cW_6 {h : MH} {q w r : Nat} {t : QT} {v : Int32} : cW (p_i h q 3 v) q w r t = cW h q w r t := by
  refine mh_ext (fun b j => ?_) rfl
  simp only [cW, mi_pi]
  exact ite_r fun n0 => ite_r fun n1 => ite_r fun n2 => ite_r fun n3 => ite_r fun n4 => ite_r fun n5 => ite_r fun n6 => if_neg n0
theorem cW_cW {h : MH} {q w r : Nat} (t u : QT) : cW (cW h q w r t) q w r u = cW h q w r u := by
  rw [show cW h q w r t = p_i (p_i (p_i (p_i (p_i (p_i (p_i h w 4 t.1) w 5 t.2.1) w 6 t.2.2.1) r 4 t.2.2.2.1) r 5 t.2.2.2.2.1) r 6 t.2.2.2.2.2.1) q 3 t.2.2.2.2.2.2 from rfl, cW_6, cW_5, cW_4, cW_3, cW_2, cW_1, cW_0]
section
variable {h : MH} {q w r : Nat} {t : QT}
theorem i_cW_q2 : g_i (cW h q w r t) q 2 = g_i h q 2 := by simp only [cW, mi_pi, Nat.reduceEqDiff, and_false, if_false]
theorem i_cW_w1 : g_i (cW h q w r t) w 1 = g_i h w 1 := by simp only [cW, mi_pi, Nat.reduceEqDiff, and_false, if_false]
theorem i_cW_w2 : g_i (cW h q w r t) w 2 = g_i h w 2 := by simp only [cW, mi_pi, Nat.reduceEqDiff, and_false, if_false]
theorem i_cW_w3 (n4 : ¬ w = q) : g_i (cW h q w r t) w 3 = g_i h w 3 := by simp only [cW, mi_pi, Nat.reduceEqDiff, and_false, if_false, false_and, n4]
theorem i_cW_r1 : g_i (cW h q w r t) r 1 = g_i h r 1 := by simp only [cW, mi_pi, Nat.reduceEqDiff, and_false, if_false]
theorem i_cW_r2 : g_i (cW h q w r t) r 2 = g_i h r 2 := by simp only [cW, mi_pi, Nat.reduceEqDiff, and_false, if_false]
end

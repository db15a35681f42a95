/-! THE OPS of the pipe -/
set_option maxRecDepth 100000 in
theorem pA : ∀ t ∈ PS, ((t.2.2.1 < 0 ∧ t.2.2.1 = -1) ∨ (¬ t.2.2.1 < 0 ∧ ¬ t.2.2.1 = -1)) ∧ (t.2.2.2 = 0 ∨ t.2.2.2 = 1) := by
  (try unfold rdy vp_in)
  decide +kernel
set_option maxRecDepth 100000 in
theorem pF : ∀ t ∈ PS, (t.2.1 - t.1 = 0 ∨ (¬ t.1 < 0 ∧ t.1 < 10 ∧ rdy 36 (1 + t.1) ∧ (1 + t.1, t.2.1, t.2.2.1, t.2.2.2) ∈ PS)) := by
  (try unfold rdy vp_in)
  decide +kernel
set_option maxRecDepth 100000 in
theorem pR : ∀ t ∈ PS, (0, t.2.1, -1, t.2.2.2) ∈ PS := by
  (try unfold rdy vp_in)
  decide +kernel
set_option maxRecDepth 100000 in
theorem pK : ∀ t ∈ PS, (t.1, t.2.1, t.1, t.2.2.2) ∈ PS := by
  (try unfold rdy vp_in)
  decide +kernel
set_option maxRecDepth 100000 in
theorem pB : ∀ t ∈ PS, (t.2.2.1 < 0 ∨ (t.2.2.1, t.2.1, t.2.2.1, t.2.2.2) ∈ PS) := by
  (try unfold rdy vp_in)
  decide +kernel
theorem pco (x : Int32) : x + 1 = 1 + x := Int32.add_comm x 1
theorem db2 : ((0 : Int32) < 0 ∨ ¬ (0 : Int32) < 4) = False := by decide
theorem Cn_14_4 {A : Nat → Nat} {h : MH} {v : Int32} (hA : inj40 A) : Cn A (p_i h (A 14) 4 v) = Cn A h := by
  simp only [Cn, mi_pi, Nat.reduceEqDiff, and_false, if_false, false_and, (hA 5 14 (by decide) (by decide)), (hA 6 14 (by decide) (by decide)), (hA 7 14 (by decide) (by decide)), (hA 8 14 (by decide) (by decide)), (hA 9 14 (by decide) (by decide)), (hA 10 14 (by decide) (by decide)), (hA 11 14 (by decide) (by decide)), (hA 12 14 (by decide) (by decide)), (hA 13 14 (by decide) (by decide)), (hA 28 14 (by decide) (by decide)), (hA 31 14 (by decide) (by decide)), (hA 32 14 (by decide) (by decide)), (hA 33 14 (by decide) (by decide)), (hA 34 14 (by decide) (by decide)), (hA 35 14 (by decide) (by decide)), (hA 36 14 (by decide) (by decide))]
theorem Cn_14_5 {A : Nat → Nat} {h : MH} {v : Int32} (hA : inj40 A) : Cn A (p_i h (A 14) 5 v) = Cn A h := by
  simp only [Cn, mi_pi, Nat.reduceEqDiff, and_false, if_false, false_and, (hA 5 14 (by decide) (by decide)), (hA 6 14 (by decide) (by decide)), (hA 7 14 (by decide) (by decide)), (hA 8 14 (by decide) (by decide)), (hA 9 14 (by decide) (by decide)), (hA 10 14 (by decide) (by decide)), (hA 11 14 (by decide) (by decide)), (hA 12 14 (by decide) (by decide)), (hA 13 14 (by decide) (by decide)), (hA 28 14 (by decide) (by decide)), (hA 31 14 (by decide) (by decide)), (hA 32 14 (by decide) (by decide)), (hA 33 14 (by decide) (by decide)), (hA 34 14 (by decide) (by decide)), (hA 35 14 (by decide) (by decide)), (hA 36 14 (by decide) (by decide))]
theorem Cn_14_6 {A : Nat → Nat} {h : MH} {v : Int32} (hA : inj40 A) : Cn A (p_i h (A 14) 6 v) = Cn A h := by
  simp only [Cn, mi_pi, Nat.reduceEqDiff, and_false, if_false, false_and, (hA 5 14 (by decide) (by decide)), (hA 6 14 (by decide) (by decide)), (hA 7 14 (by decide) (by decide)), (hA 8 14 (by decide) (by decide)), (hA 9 14 (by decide) (by decide)), (hA 10 14 (by decide) (by decide)), (hA 11 14 (by decide) (by decide)), (hA 12 14 (by decide) (by decide)), (hA 13 14 (by decide) (by decide)), (hA 28 14 (by decide) (by decide)), (hA 31 14 (by decide) (by decide)), (hA 32 14 (by decide) (by decide)), (hA 33 14 (by decide) (by decide)), (hA 34 14 (by decide) (by decide)), (hA 35 14 (by decide) (by decide)), (hA 36 14 (by decide) (by decide))]
theorem Cn_28_3 {A : Nat → Nat} {h : MH} {v : Int32} (hA : inj40 A) : Cn A (p_i h (A 28) 3 v) = Cn A h := by
  simp only [Cn, mi_pi, Nat.reduceEqDiff, and_false, if_false, false_and, (hA 5 28 (by decide) (by decide)), (hA 6 28 (by decide) (by decide)), (hA 7 28 (by decide) (by decide)), (hA 8 28 (by decide) (by decide)), (hA 9 28 (by decide) (by decide)), (hA 10 28 (by decide) (by decide)), (hA 11 28 (by decide) (by decide)), (hA 12 28 (by decide) (by decide)), (hA 13 28 (by decide) (by decide)), (hA 14 28 (by decide) (by decide)), (hA 31 28 (by decide) (by decide)), (hA 32 28 (by decide) (by decide)), (hA 33 28 (by decide) (by decide)), (hA 34 28 (by decide) (by decide)), (hA 35 28 (by decide) (by decide)), (hA 36 28 (by decide) (by decide))]
theorem Cn_28_4 {A : Nat → Nat} {h : MH} {v : Int32} (hA : inj40 A) : Cn A (p_i h (A 28) 4 v) = Cn A h := by
  simp only [Cn, mi_pi, Nat.reduceEqDiff, and_false, if_false, false_and, (hA 5 28 (by decide) (by decide)), (hA 6 28 (by decide) (by decide)), (hA 7 28 (by decide) (by decide)), (hA 8 28 (by decide) (by decide)), (hA 9 28 (by decide) (by decide)), (hA 10 28 (by decide) (by decide)), (hA 11 28 (by decide) (by decide)), (hA 12 28 (by decide) (by decide)), (hA 13 28 (by decide) (by decide)), (hA 14 28 (by decide) (by decide)), (hA 31 28 (by decide) (by decide)), (hA 32 28 (by decide) (by decide)), (hA 33 28 (by decide) (by decide)), (hA 34 28 (by decide) (by decide)), (hA 35 28 (by decide) (by decide)), (hA 36 28 (by decide) (by decide))]
theorem Cn_28_5 {A : Nat → Nat} {h : MH} {v : Int32} (hA : inj40 A) : Cn A (p_i h (A 28) 5 v) = Cn A h := by
  simp only [Cn, mi_pi, Nat.reduceEqDiff, and_false, if_false, false_and, (hA 5 28 (by decide) (by decide)), (hA 6 28 (by decide) (by decide)), (hA 7 28 (by decide) (by decide)), (hA 8 28 (by decide) (by decide)), (hA 9 28 (by decide) (by decide)), (hA 10 28 (by decide) (by decide)), (hA 11 28 (by decide) (by decide)), (hA 12 28 (by decide) (by decide)), (hA 13 28 (by decide) (by decide)), (hA 14 28 (by decide) (by decide)), (hA 31 28 (by decide) (by decide)), (hA 32 28 (by decide) (by decide)), (hA 33 28 (by decide) (by decide)), (hA 34 28 (by decide) (by decide)), (hA 35 28 (by decide) (by decide)), (hA 36 28 (by decide) (by decide))]

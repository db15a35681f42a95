section
/-! pass -/
def p_L (h : MH) (a : Nat) (f : Nat → Int64) : MH := (h.1, h.2.1, h.2.2.1, fun b k => if b = a then f k else g_l h b k, h.2.2.2.2)
theorem pL_l {h : MH} {a b k : Nat} {f : Nat → Int64} : g_l (p_L h a f) b k = if b = a then f k else g_l h b k := id rfl
section
variable {h : MH} {a b j k : Nat} {f : Nat → Int64}
theorem pL_c : g_c (p_L h a f) b = g_c h b := id rfl
theorem pL_n : g_n (p_L h a f) b = g_n h b := id rfl
theorem pL_r : g_r (p_L h a f) b j = g_r h b j := id rfl
theorem pL_i : g_i (p_L h a f) b j = g_i h b j := id rfl
theorem pL_z : g_z (p_L h a f) = g_z h := id rfl
theorem pL_t : g_t (p_L h a f) = g_t h := id rfl
theorem K_pL {A : Nat → Nat} : K A (p_L h a f) = K A h := id rfl
theorem pL_self : p_L h a (fun k => g_l h a k) = h := by
  refine ml_ext (fun b j => ?_) rfl
  rw [pL_l]
  by_cases c : b = a
  · rw [if_pos c, c]
  · rw [if_neg c]
theorem pL_pl {v : Int64} : p_l (p_L h a f) a k v = p_L h a (fun x => if x = k then v else f x) := by
  refine ml_ext (fun b j => ?_) rfl
  rw [ml_pl, pL_l, pL_l]
  by_cases c : b = a
  · by_cases d : j = k
    · rw [if_pos ⟨c, d⟩, if_pos c, if_pos d]
    · rw [if_neg (fun z => d z.2), if_pos c, if_pos c, if_neg d]
  · rw [if_neg (fun z => c z.1), if_neg c, if_neg c]
theorem p_l_cW {q w r : Nat} {t : QT} {v : Int64} : p_l (cW h q w r t) b k v = cW (p_l h b k v) q w r t := id rfl
theorem p_l_mW {q j w r : Nat} {t : QT} {v : Int64} : p_l (mW h q j w r t) b k v = mW (p_l h b k v) q j w r t := id rfl
end
theorem cW_comm {h : MH} {q w r q' w' r' : Nat} {t u : QT} (d1 : ¬ q = q') (d2 : ¬ q = w') (d3 : ¬ q = r') (d4 : ¬ w = q') (d5 : ¬ w = w') (d6 : ¬ w = r') (d7 : ¬ r = q') (d8 : ¬ r = w') (d9 : ¬ r = r') : cW (cW h q' w' r' u) q w r t = cW (cW h q w r t) q' w' r' u := by
  refine mh_ext (fun b k => ?_) rfl
  simp only [cW, mi_pi]
  by_cases c : b = q ∨ b = w ∨ b = r
  · have n1 : ¬ b = q' := fun z => by
      rcases c with c | c | c
      · exact d1 (c.symm.trans z)
      · exact d4 (c.symm.trans z)
      · exact d7 (c.symm.trans z)
    have n2 : ¬ b = w' := fun z => by
      rcases c with c | c | c
      · exact d2 (c.symm.trans z)
      · exact d5 (c.symm.trans z)
      · exact d8 (c.symm.trans z)
    have n3 : ¬ b = r' := fun z => by
      rcases c with c | c | c
      · exact d3 (c.symm.trans z)
      · exact d6 (c.symm.trans z)
      · exact d9 (c.symm.trans z)
    simp only [n1, n2, n3, false_and, if_false]
  · have n1 : ¬ b = q := fun z => c (Or.inl z)
    have n2 : ¬ b = w := fun z => c (Or.inr (Or.inl z))
    have n3 : ¬ b = r := fun z => c (Or.inr (Or.inr z))
    simp only [n1, n2, n3, false_and, if_false]
theorem mW_comm {h : MH} {a i j w r w' r' : Nat} {t u : QT} (d0 : ¬ i = j) (d1 : ¬ a = w) (d2 : ¬ a = r) (d3 : ¬ a = w') (d4 : ¬ a = r') (d5 : ¬ w = w') (d6 : ¬ w = r') (d8 : ¬ r = w') (d9 : ¬ r = r') : mW (mW h a j w' r' u) a i w r t = mW (mW h a i w r t) a j w' r' u := by
  refine mh_ext (fun b k => ?_) rfl
  simp only [mW, mi_pi]
  by_cases c0 : b = a
  · subst c0
    simp only [d1, d2, d3, d4, false_and, if_false, true_and]
    by_cases c1 : k = i
    · have : ¬ k = j := fun z => d0 (c1.symm.trans z)
      simp only [if_pos c1, if_neg this]
    · simp only [if_neg c1]
  by_cases c : b = w ∨ b = r
  · have n2 : ¬ b = w' := fun z => by
      rcases c with c | c
      · exact d5 (c.symm.trans z)
      · exact d8 (c.symm.trans z)
    have n3 : ¬ b = r' := fun z => by
      rcases c with c | c
      · exact d6 (c.symm.trans z)
      · exact d9 (c.symm.trans z)
    simp only [n2, n3, c0, false_and, if_false]
  · have n2 : ¬ b = w := fun z => c (Or.inl z)
    have n3 : ¬ b = r := fun z => c (Or.inr z)
    simp only [n2, n3, c0, false_and, if_false]
set_option maxRecDepth 100000 in
theorem qN_0 : ∀ t ∈ QS0, (t.2.2.2.2.1 - t.2.2.2.1 = 0 → lyF t = 0 ∧ ¬ 0 < t.2.2.2.2.1 - t.2.2.2.1) ∧ (¬ t.2.2.2.2.1 - t.2.2.2.1 = 0 → 0 < t.2.2.2.2.1 - t.2.2.2.1 ∧ lyF (seF 1 5 (goF t)) = lyF t - 1 ∧ ¬ lyF t = 0) ∧ lyF t = Int32.ofNat (lyF t).toNatClampNeg ∧ (lyF t).toNatClampNeg < 10 ∧ (t.2.1 - t.1 = 0 → ¬ 0 < t.2.1 - t.1) ∧ (¬ t.2.1 - t.1 = 0 → 0 < t.2.1 - t.1) := by
  decide +kernel
set_option maxRecDepth 100000 in
theorem qN_1 : ∀ t ∈ QS1, (t.2.2.2.2.1 - t.2.2.2.1 = 0 → lyF t = 0 ∧ ¬ 0 < t.2.2.2.2.1 - t.2.2.2.1) ∧ (¬ t.2.2.2.2.1 - t.2.2.2.1 = 0 → 0 < t.2.2.2.2.1 - t.2.2.2.1 ∧ lyF (seF 1 3 (goF t)) = lyF t - 1 ∧ ¬ lyF t = 0) ∧ lyF t = Int32.ofNat (lyF t).toNatClampNeg ∧ (lyF t).toNatClampNeg < 10 ∧ (t.2.1 - t.1 = 0 → ¬ 0 < t.2.1 - t.1) ∧ (¬ t.2.1 - t.1 = 0 → 0 < t.2.1 - t.1) := by
  decide +kernel
set_option maxRecDepth 100000 in
theorem qN_2 : ∀ t ∈ QS2, (t.2.2.2.2.1 - t.2.2.2.1 = 0 → lyF t = 0 ∧ ¬ 0 < t.2.2.2.2.1 - t.2.2.2.1) ∧ (¬ t.2.2.2.2.1 - t.2.2.2.1 = 0 → 0 < t.2.2.2.2.1 - t.2.2.2.1 ∧ lyF (seF 0 6 (goF t)) = lyF t - 1 ∧ ¬ lyF t = 0) ∧ lyF t = Int32.ofNat (lyF t).toNatClampNeg ∧ (lyF t).toNatClampNeg < 10 ∧ (t.2.1 - t.1 = 0 → ¬ 0 < t.2.1 - t.1) ∧ (¬ t.2.1 - t.1 = 0 → 0 < t.2.1 - t.1) := by
  decide +kernel
theorem Vq0_pL3 {A : Nat → Nat} {m : MH} {f : Nat → Int64} (hA : inj40 A) : Vq0 A (p_L m (A 3) f) = Vq0 A m := by
  simp only [Vq0, cT, mT, pL_i]
theorem Vq0_pL23 {A : Nat → Nat} {m : MH} {f : Nat → Int64} (hA : inj40 A) : Vq0 A (p_L m (A 23) f) = Vq0 A m := by
  simp only [Vq0, cT, mT, pL_i]
theorem Vq1_pL3 {A : Nat → Nat} {m : MH} {f : Nat → Int64} (hA : inj40 A) : Vq1 A (p_L m (A 3) f) = Vq1 A m := by
  simp only [Vq1, cT, mT, pL_i]
theorem Vq1_pL23 {A : Nat → Nat} {m : MH} {f : Nat → Int64} (hA : inj40 A) : Vq1 A (p_L m (A 23) f) = Vq1 A m := by
  simp only [Vq1, cT, mT, pL_i]
theorem Vq2_pL3 {A : Nat → Nat} {m : MH} {f : Nat → Int64} (hA : inj40 A) : Vq2 A (p_L m (A 3) f) = Vq2 A m := by
  simp only [Vq2, cT, mT, pL_i]
theorem Vq2_pL23 {A : Nat → Nat} {m : MH} {f : Nat → Int64} (hA : inj40 A) : Vq2 A (p_L m (A 23) f) = Vq2 A m := by
  simp only [Vq2, cT, mT, pL_i]
theorem Vp_pL3 {A : Nat → Nat} {m : MH} {f : Nat → Int64} (hA : inj40 A) : Vp A (p_L m (A 3) f) = Vp A m := by
  simp only [Vp, pL_i]
theorem Vp_pL23 {A : Nat → Nat} {m : MH} {f : Nat → Int64} (hA : inj40 A) : Vp A (p_L m (A 23) f) = Vp A m := by
  simp only [Vp, pL_i]
theorem Vl0_pL3 {A : Nat → Nat} {m : MH} {f : Nat → Int64} (hA : inj40 A) : Vl0 A (p_L m (A 3) f) = Vl0 A m := by
  simp only [Vl0, pL_i]
theorem Vl0_pL23 {A : Nat → Nat} {m : MH} {f : Nat → Int64} (hA : inj40 A) : Vl0 A (p_L m (A 23) f) = Vl0 A m := by
  simp only [Vl0, pL_i]
theorem Vl1_pL3 {A : Nat → Nat} {m : MH} {f : Nat → Int64} (hA : inj40 A) : Vl1 A (p_L m (A 3) f) = Vl1 A m := by
  simp only [Vl1, pL_i]
theorem Vl1_pL23 {A : Nat → Nat} {m : MH} {f : Nat → Int64} (hA : inj40 A) : Vl1 A (p_L m (A 23) f) = Vl1 A m := by
  simp only [Vl1, pL_i]
theorem Vsr_pL3 {A : Nat → Nat} {m : MH} {f : Nat → Int64} (hA : inj40 A) : Vsr A (p_L m (A 3) f) = Vsr A m := by
  simp only [Vsr, pL_i, pL_l, if_false, Nat.reduceEqDiff, (hA_4_3 hA)]
theorem Vsr_pL23 {A : Nat → Nat} {m : MH} {f : Nat → Int64} (hA : inj40 A) : Vsr A (p_L m (A 23) f) = Vsr A m := by
  simp only [Vsr, pL_i, pL_l, if_false, Nat.reduceEqDiff, (hA_4_23 hA)]
theorem Cn_pL3 {A : Nat → Nat} {m : MH} {f : Nat → Int64} (hA : inj40 A) : Cn A (p_L m (A 3) f) = Cn A m := by
  simp only [Cn, pL_i]
theorem Cn_pL23 {A : Nat → Nat} {m : MH} {f : Nat → Int64} (hA : inj40 A) : Cn A (p_L m (A 23) f) = Cn A m := by
  simp only [Cn, pL_i]
theorem Tx_pL3 {A : Nat → Nat} {m : MH} {f : Nat → Int64} (hA : inj40 A) : Tx A (p_L m (A 3) f) = Tx A m := by
  simp only [Tx, pL_i, pL_r, pL_c, pL_n, pL_z, pL_t]
theorem Tx_pL23 {A : Nat → Nat} {m : MH} {f : Nat → Int64} (hA : inj40 A) : Tx A (p_L m (A 23) f) = Tx A m := by
  simp only [Tx, pL_i, pL_r, pL_c, pL_n, pL_z, pL_t]
theorem cT0_cW1 {A : Nat → Nat} {h : MH} {t : QT} (hA : inj40 A) : cT (cW (h) (A 6) (A 10) (A 11) t) (A 5) (A 8) (A 9) = cT h (A 5) (A 8) (A 9) := by
  simp only [cT, icw1_j5 hA, icw1_j8 hA, icw1_j9 hA]
theorem mT0_mW1 {A : Nat → Nat} {h : MH} {t : QT} (hA : inj40 A) : mT (mW (h) (A 27) 1 (A 32) (A 35) t) (A 27) 0 (A 31) (A 34) = mT h (A 27) 0 (A 31) (A 34) := by
  simp only [mT, mW, mi_pi, (hA_27_32 hA), (hA_27_35 hA), (hA_31_27 hA), (hA_31_32 hA), (hA_31_35 hA), (hA_34_27 hA), (hA_34_32 hA), (hA_34_35 hA), Nat.reduceEqDiff, and_false, false_and, if_false]
theorem cT0_cW2 {A : Nat → Nat} {h : MH} {t : QT} (hA : inj40 A) : cT (cW (h) (A 7) (A 12) (A 13) t) (A 5) (A 8) (A 9) = cT h (A 5) (A 8) (A 9) := by
  simp only [cT, icw2_j5 hA, icw2_j8 hA, icw2_j9 hA]
theorem mT0_mW2 {A : Nat → Nat} {h : MH} {t : QT} (hA : inj40 A) : mT (mW (h) (A 27) 2 (A 33) (A 36) t) (A 27) 0 (A 31) (A 34) = mT h (A 27) 0 (A 31) (A 34) := by
  simp only [mT, mW, mi_pi, (hA_27_33 hA), (hA_27_36 hA), (hA_31_27 hA), (hA_31_33 hA), (hA_31_36 hA), (hA_34_27 hA), (hA_34_33 hA), (hA_34_36 hA), Nat.reduceEqDiff, and_false, false_and, if_false]
theorem cT1_cW0 {A : Nat → Nat} {h : MH} {t : QT} (hA : inj40 A) : cT (cW (h) (A 5) (A 8) (A 9) t) (A 6) (A 10) (A 11) = cT h (A 6) (A 10) (A 11) := by
  simp only [cT, icw0_j6 hA, icw0_j10 hA, icw0_j11 hA]
theorem mT1_mW0 {A : Nat → Nat} {h : MH} {t : QT} (hA : inj40 A) : mT (mW (h) (A 27) 0 (A 31) (A 34) t) (A 27) 1 (A 32) (A 35) = mT h (A 27) 1 (A 32) (A 35) := by
  simp only [mT, mW, mi_pi, (hA_27_31 hA), (hA_27_34 hA), (hA_32_27 hA), (hA_32_31 hA), (hA_32_34 hA), (hA_35_27 hA), (hA_35_31 hA), (hA_35_34 hA), Nat.reduceEqDiff, and_false, false_and, if_false]
theorem cT1_cW2 {A : Nat → Nat} {h : MH} {t : QT} (hA : inj40 A) : cT (cW (h) (A 7) (A 12) (A 13) t) (A 6) (A 10) (A 11) = cT h (A 6) (A 10) (A 11) := by
  simp only [cT, icw2_j6 hA, icw2_j10 hA, icw2_j11 hA]
theorem mT1_mW2 {A : Nat → Nat} {h : MH} {t : QT} (hA : inj40 A) : mT (mW (h) (A 27) 2 (A 33) (A 36) t) (A 27) 1 (A 32) (A 35) = mT h (A 27) 1 (A 32) (A 35) := by
  simp only [mT, mW, mi_pi, (hA_27_33 hA), (hA_27_36 hA), (hA_32_27 hA), (hA_32_33 hA), (hA_32_36 hA), (hA_35_27 hA), (hA_35_33 hA), (hA_35_36 hA), Nat.reduceEqDiff, and_false, false_and, if_false]
theorem cT2_cW0 {A : Nat → Nat} {h : MH} {t : QT} (hA : inj40 A) : cT (cW (h) (A 5) (A 8) (A 9) t) (A 7) (A 12) (A 13) = cT h (A 7) (A 12) (A 13) := by
  simp only [cT, icw0_j7 hA, icw0_j12 hA, icw0_j13 hA]
theorem mT2_mW0 {A : Nat → Nat} {h : MH} {t : QT} (hA : inj40 A) : mT (mW (h) (A 27) 0 (A 31) (A 34) t) (A 27) 2 (A 33) (A 36) = mT h (A 27) 2 (A 33) (A 36) := by
  simp only [mT, mW, mi_pi, (hA_27_31 hA), (hA_27_34 hA), (hA_33_27 hA), (hA_33_31 hA), (hA_33_34 hA), (hA_36_27 hA), (hA_36_31 hA), (hA_36_34 hA), Nat.reduceEqDiff, and_false, false_and, if_false]
theorem cT2_cW1 {A : Nat → Nat} {h : MH} {t : QT} (hA : inj40 A) : cT (cW (h) (A 6) (A 10) (A 11) t) (A 7) (A 12) (A 13) = cT h (A 7) (A 12) (A 13) := by
  simp only [cT, icw1_j7 hA, icw1_j12 hA, icw1_j13 hA]
theorem mT2_mW1 {A : Nat → Nat} {h : MH} {t : QT} (hA : inj40 A) : mT (mW (h) (A 27) 1 (A 32) (A 35) t) (A 27) 2 (A 33) (A 36) = mT h (A 27) 2 (A 33) (A 36) := by
  simp only [mT, mW, mi_pi, (hA_27_32 hA), (hA_27_35 hA), (hA_33_27 hA), (hA_33_32 hA), (hA_33_35 hA), (hA_36_27 hA), (hA_36_32 hA), (hA_36_35 hA), Nat.reduceEqDiff, and_false, false_and, if_false]
theorem cWx01 {A : Nat → Nat} {h : MH} {t u v : QT} (hA : inj40 A) : cW (cW (cW (h) (A 5) (A 8) (A 9) t) (A 6) (A 10) (A 11) u) (A 5) (A 8) (A 9) v = cW (cW (h) (A 5) (A 8) (A 9) v) (A 6) (A 10) (A 11) u := by
  rw [cW_comm (fun z => absurd ((hA_5_6 hA).mp z) (by decide)) (fun z => absurd ((hA_5_10 hA).mp z) (by decide)) (fun z => absurd ((hA_5_11 hA).mp z) (by decide)) (fun z => absurd ((hA_8_6 hA).mp z) (by decide)) (fun z => absurd ((hA_8_10 hA).mp z) (by decide)) (fun z => absurd ((hA_8_11 hA).mp z) (by decide)) (fun z => absurd ((hA_9_6 hA).mp z) (by decide)) (fun z => absurd ((hA_9_10 hA).mp z) (by decide)) (fun z => absurd ((hA_9_11 hA).mp z) (by decide)), cW_cW]
theorem mWx01 {A : Nat → Nat} {h : MH} {t u v : QT} (hA : inj40 A) : mW (mW (mW (h) (A 27) 0 (A 31) (A 34) t) (A 27) 1 (A 32) (A 35) u) (A 27) 0 (A 31) (A 34) v = mW (mW (h) (A 27) 0 (A 31) (A 34) v) (A 27) 1 (A 32) (A 35) u := by
  rw [mW_comm (by decide) (fun z => absurd ((hA_27_31 hA).mp z) (by decide)) (fun z => absurd ((hA_27_34 hA).mp z) (by decide)) (fun z => absurd ((hA_27_32 hA).mp z) (by decide)) (fun z => absurd ((hA_27_35 hA).mp z) (by decide)) (fun z => absurd ((hA_31_32 hA).mp z) (by decide)) (fun z => absurd ((hA_31_35 hA).mp z) (by decide)) (fun z => absurd ((hA_34_32 hA).mp z) (by decide)) (fun z => absurd ((hA_34_35 hA).mp z) (by decide)), mW_mW]
theorem cWx02 {A : Nat → Nat} {h : MH} {t u v : QT} (hA : inj40 A) : cW (cW (cW (h) (A 5) (A 8) (A 9) t) (A 7) (A 12) (A 13) u) (A 5) (A 8) (A 9) v = cW (cW (h) (A 5) (A 8) (A 9) v) (A 7) (A 12) (A 13) u := by
  rw [cW_comm (fun z => absurd ((hA_5_7 hA).mp z) (by decide)) (fun z => absurd ((hA_5_12 hA).mp z) (by decide)) (fun z => absurd ((hA_5_13 hA).mp z) (by decide)) (fun z => absurd ((hA_8_7 hA).mp z) (by decide)) (fun z => absurd ((hA_8_12 hA).mp z) (by decide)) (fun z => absurd ((hA_8_13 hA).mp z) (by decide)) (fun z => absurd ((hA_9_7 hA).mp z) (by decide)) (fun z => absurd ((hA_9_12 hA).mp z) (by decide)) (fun z => absurd ((hA_9_13 hA).mp z) (by decide)), cW_cW]
theorem mWx02 {A : Nat → Nat} {h : MH} {t u v : QT} (hA : inj40 A) : mW (mW (mW (h) (A 27) 0 (A 31) (A 34) t) (A 27) 2 (A 33) (A 36) u) (A 27) 0 (A 31) (A 34) v = mW (mW (h) (A 27) 0 (A 31) (A 34) v) (A 27) 2 (A 33) (A 36) u := by
  rw [mW_comm (by decide) (fun z => absurd ((hA_27_31 hA).mp z) (by decide)) (fun z => absurd ((hA_27_34 hA).mp z) (by decide)) (fun z => absurd ((hA_27_33 hA).mp z) (by decide)) (fun z => absurd ((hA_27_36 hA).mp z) (by decide)) (fun z => absurd ((hA_31_33 hA).mp z) (by decide)) (fun z => absurd ((hA_31_36 hA).mp z) (by decide)) (fun z => absurd ((hA_34_33 hA).mp z) (by decide)) (fun z => absurd ((hA_34_36 hA).mp z) (by decide)), mW_mW]
theorem cWx10 {A : Nat → Nat} {h : MH} {t u v : QT} (hA : inj40 A) : cW (cW (cW (h) (A 6) (A 10) (A 11) t) (A 5) (A 8) (A 9) u) (A 6) (A 10) (A 11) v = cW (cW (h) (A 6) (A 10) (A 11) v) (A 5) (A 8) (A 9) u := by
  rw [cW_comm (fun z => absurd ((hA_6_5 hA).mp z) (by decide)) (fun z => absurd ((hA_6_8 hA).mp z) (by decide)) (fun z => absurd ((hA_6_9 hA).mp z) (by decide)) (fun z => absurd ((hA_10_5 hA).mp z) (by decide)) (fun z => absurd ((hA_10_8 hA).mp z) (by decide)) (fun z => absurd ((hA_10_9 hA).mp z) (by decide)) (fun z => absurd ((hA_11_5 hA).mp z) (by decide)) (fun z => absurd ((hA_11_8 hA).mp z) (by decide)) (fun z => absurd ((hA_11_9 hA).mp z) (by decide)), cW_cW]
theorem mWx10 {A : Nat → Nat} {h : MH} {t u v : QT} (hA : inj40 A) : mW (mW (mW (h) (A 27) 1 (A 32) (A 35) t) (A 27) 0 (A 31) (A 34) u) (A 27) 1 (A 32) (A 35) v = mW (mW (h) (A 27) 1 (A 32) (A 35) v) (A 27) 0 (A 31) (A 34) u := by
  rw [mW_comm (by decide) (fun z => absurd ((hA_27_32 hA).mp z) (by decide)) (fun z => absurd ((hA_27_35 hA).mp z) (by decide)) (fun z => absurd ((hA_27_31 hA).mp z) (by decide)) (fun z => absurd ((hA_27_34 hA).mp z) (by decide)) (fun z => absurd ((hA_32_31 hA).mp z) (by decide)) (fun z => absurd ((hA_32_34 hA).mp z) (by decide)) (fun z => absurd ((hA_35_31 hA).mp z) (by decide)) (fun z => absurd ((hA_35_34 hA).mp z) (by decide)), mW_mW]
theorem cWx12 {A : Nat → Nat} {h : MH} {t u v : QT} (hA : inj40 A) : cW (cW (cW (h) (A 6) (A 10) (A 11) t) (A 7) (A 12) (A 13) u) (A 6) (A 10) (A 11) v = cW (cW (h) (A 6) (A 10) (A 11) v) (A 7) (A 12) (A 13) u := by
  rw [cW_comm (fun z => absurd ((hA_6_7 hA).mp z) (by decide)) (fun z => absurd ((hA_6_12 hA).mp z) (by decide)) (fun z => absurd ((hA_6_13 hA).mp z) (by decide)) (fun z => absurd ((hA_10_7 hA).mp z) (by decide)) (fun z => absurd ((hA_10_12 hA).mp z) (by decide)) (fun z => absurd ((hA_10_13 hA).mp z) (by decide)) (fun z => absurd ((hA_11_7 hA).mp z) (by decide)) (fun z => absurd ((hA_11_12 hA).mp z) (by decide)) (fun z => absurd ((hA_11_13 hA).mp z) (by decide)), cW_cW]
theorem mWx12 {A : Nat → Nat} {h : MH} {t u v : QT} (hA : inj40 A) : mW (mW (mW (h) (A 27) 1 (A 32) (A 35) t) (A 27) 2 (A 33) (A 36) u) (A 27) 1 (A 32) (A 35) v = mW (mW (h) (A 27) 1 (A 32) (A 35) v) (A 27) 2 (A 33) (A 36) u := by
  rw [mW_comm (by decide) (fun z => absurd ((hA_27_32 hA).mp z) (by decide)) (fun z => absurd ((hA_27_35 hA).mp z) (by decide)) (fun z => absurd ((hA_27_33 hA).mp z) (by decide)) (fun z => absurd ((hA_27_36 hA).mp z) (by decide)) (fun z => absurd ((hA_32_33 hA).mp z) (by decide)) (fun z => absurd ((hA_32_36 hA).mp z) (by decide)) (fun z => absurd ((hA_35_33 hA).mp z) (by decide)) (fun z => absurd ((hA_35_36 hA).mp z) (by decide)), mW_mW]
theorem cWx20 {A : Nat → Nat} {h : MH} {t u v : QT} (hA : inj40 A) : cW (cW (cW (h) (A 7) (A 12) (A 13) t) (A 5) (A 8) (A 9) u) (A 7) (A 12) (A 13) v = cW (cW (h) (A 7) (A 12) (A 13) v) (A 5) (A 8) (A 9) u := by
  rw [cW_comm (fun z => absurd ((hA_7_5 hA).mp z) (by decide)) (fun z => absurd ((hA_7_8 hA).mp z) (by decide)) (fun z => absurd ((hA_7_9 hA).mp z) (by decide)) (fun z => absurd ((hA_12_5 hA).mp z) (by decide)) (fun z => absurd ((hA_12_8 hA).mp z) (by decide)) (fun z => absurd ((hA_12_9 hA).mp z) (by decide)) (fun z => absurd ((hA_13_5 hA).mp z) (by decide)) (fun z => absurd ((hA_13_8 hA).mp z) (by decide)) (fun z => absurd ((hA_13_9 hA).mp z) (by decide)), cW_cW]
theorem mWx20 {A : Nat → Nat} {h : MH} {t u v : QT} (hA : inj40 A) : mW (mW (mW (h) (A 27) 2 (A 33) (A 36) t) (A 27) 0 (A 31) (A 34) u) (A 27) 2 (A 33) (A 36) v = mW (mW (h) (A 27) 2 (A 33) (A 36) v) (A 27) 0 (A 31) (A 34) u := by
  rw [mW_comm (by decide) (fun z => absurd ((hA_27_33 hA).mp z) (by decide)) (fun z => absurd ((hA_27_36 hA).mp z) (by decide)) (fun z => absurd ((hA_27_31 hA).mp z) (by decide)) (fun z => absurd ((hA_27_34 hA).mp z) (by decide)) (fun z => absurd ((hA_33_31 hA).mp z) (by decide)) (fun z => absurd ((hA_33_34 hA).mp z) (by decide)) (fun z => absurd ((hA_36_31 hA).mp z) (by decide)) (fun z => absurd ((hA_36_34 hA).mp z) (by decide)), mW_mW]
theorem cWx21 {A : Nat → Nat} {h : MH} {t u v : QT} (hA : inj40 A) : cW (cW (cW (h) (A 7) (A 12) (A 13) t) (A 6) (A 10) (A 11) u) (A 7) (A 12) (A 13) v = cW (cW (h) (A 7) (A 12) (A 13) v) (A 6) (A 10) (A 11) u := by
  rw [cW_comm (fun z => absurd ((hA_7_6 hA).mp z) (by decide)) (fun z => absurd ((hA_7_10 hA).mp z) (by decide)) (fun z => absurd ((hA_7_11 hA).mp z) (by decide)) (fun z => absurd ((hA_12_6 hA).mp z) (by decide)) (fun z => absurd ((hA_12_10 hA).mp z) (by decide)) (fun z => absurd ((hA_12_11 hA).mp z) (by decide)) (fun z => absurd ((hA_13_6 hA).mp z) (by decide)) (fun z => absurd ((hA_13_10 hA).mp z) (by decide)) (fun z => absurd ((hA_13_11 hA).mp z) (by decide)), cW_cW]
theorem mWx21 {A : Nat → Nat} {h : MH} {t u v : QT} (hA : inj40 A) : mW (mW (mW (h) (A 27) 2 (A 33) (A 36) t) (A 27) 1 (A 32) (A 35) u) (A 27) 2 (A 33) (A 36) v = mW (mW (h) (A 27) 2 (A 33) (A 36) v) (A 27) 1 (A 32) (A 35) u := by
  rw [mW_comm (by decide) (fun z => absurd ((hA_27_33 hA).mp z) (by decide)) (fun z => absurd ((hA_27_36 hA).mp z) (by decide)) (fun z => absurd ((hA_27_32 hA).mp z) (by decide)) (fun z => absurd ((hA_27_35 hA).mp z) (by decide)) (fun z => absurd ((hA_33_32 hA).mp z) (by decide)) (fun z => absurd ((hA_33_35 hA).mp z) (by decide)) (fun z => absurd ((hA_36_32 hA).mp z) (by decide)) (fun z => absurd ((hA_36_35 hA).mp z) (by decide)), mW_mW]
theorem i27_mW0 {A : Nat → Nat} {h : MH} {t : QT} (hA : inj40 A) {k : Nat} (hk : ¬ k = 0) : g_i (mW (h) (A 27) 0 (A 31) (A 34) t) (A 27) k = g_i h (A 27) k := by
  simp only [mW, mi_pi, (hA_27_31 hA), (hA_27_34 hA), Nat.reduceEqDiff, hk, and_false, false_and, if_false]
theorem i27_mW1 {A : Nat → Nat} {h : MH} {t : QT} (hA : inj40 A) {k : Nat} (hk : ¬ k = 1) : g_i (mW (h) (A 27) 1 (A 32) (A 35) t) (A 27) k = g_i h (A 27) k := by
  simp only [mW, mi_pi, (hA_27_32 hA), (hA_27_35 hA), Nat.reduceEqDiff, hk, and_false, false_and, if_false]
theorem i27_mW2 {A : Nat → Nat} {h : MH} {t : QT} (hA : inj40 A) {k : Nat} (hk : ¬ k = 2) : g_i (mW (h) (A 27) 2 (A 33) (A 36) t) (A 27) k = g_i h (A 27) k := by
  simp only [mW, mi_pi, (hA_27_33 hA), (hA_27_36 hA), Nat.reduceEqDiff, hk, and_false, false_and, if_false]
end

section
theorem pcs01 {A : Nat → Nat} {h : MH} {t u : QT} {rc : Nat → Int64} {n M : Nat} {Q : MR → MH → Prop} (vk : K A h) (vcn : Cn A h) (m1 : t ∈ QS0) (m2 : u ∈ QS1) (e1 : ¬ t.2.2.2.2.1 - t.2.2.2.1 = 0) (e2 : ¬ u.2.1 - u.1 = 0) (hn : (Int32.ofNat n < Int32.ofNat M) = True) : Ok 73 37 [.ref (A 0), .int 0, .int 1, .ref (A 5), .ref (A 6), .int (Int32.ofNat M), .int (Int32.ofNat n)] [] (cW (cW (p_L h (A 3) (rc)) (A 5) (A 8) (A 9) t) (A 6) (A 10) (A 11) u) 1 6 Q ↔ Ok 73 37 [.ref (A 0), .int 0, .int 1, .ref (A 5), .ref (A 6), .int (Int32.ofNat M), .int (Int32.ofNat (n + 1))] [] (cW (cW (p_L h (A 3) (fun x => if x = (6 + u.1).toNatClampNeg then rc (1 + t.2.2.2.1).toNatClampNeg else rc x)) (A 5) (A 8) (A 9) (seF 1 5 (goF t))) (A 6) (A 10) (A 11) (seF 1 3 (ciF u))) 1 6 Q := by
  have vk0 := vk
  have vcn0 := vcn
  (refine K_el vk0 ?_; intros hA kc0 kc1 kc2 kc3 kc4 kc5 kc6 kc7 kc8 kc9 kc10 kc11 kc12 kc13 kc14 kc15 kc16 kc17 kc18 kc19 kc20 kc21 kc22 kc23 kc24 kc25 kc26 kc27 kc28 kc29 kc30 kc31 kc32 kc33 kc34 kc35 kc36 kc37 kc38 kc39 kz kt kn3 kn4 kn18 kn21 kn23 kn24 kn25 kn26 kn27 kn29 kn30 kr0_0 kr0_1 kr0_2 kr0_3 kr0_4 kr0_5 kr0_7 kr0_8 kr0_9 kr0_10 kr1_0 kr2_0 kr5_0 kr5_1 kr6_0 kr6_1 kr7_0 kr7_1 kr8_0 kr9_0 kr10_0 kr11_0 kr12_0 kr13_0 kr14_0 kr15_0 kr16_0 kr17_0 kr19_0 kr19_1 kr22_0 kr22_1 kr22_2 kr22_3 kr22_4 kr22_5 kr22_7 kr22_8 kr25_0 kr25_1 kr25_2 kr26_0 kr26_1 kr26_2 kr29_0 kr29_1)
  (refine Cn_el vcn0 ?_; intros ki5_2 ki6_2 ki7_2 ki8_1 ki8_2 ki8_3 ki9_1 ki9_2 ki9_3 ki10_1 ki10_2 ki10_3 ki11_1 ki11_2 ki11_3 ki12_1 ki12_2 ki12_3 ki13_1 ki13_2 ki13_3 ki14_1 ki14_2 ki14_3 ki28_0 ki28_1 ki31_0 ki31_1 ki32_0 ki32_1 ki33_0 ki33_1 ki34_0 ki34_1 ki35_0 ki35_1 ki36_0 ki36_1)
  have hAe : ∀ i j, i < 40 → j < 40 → (A i = A j ↔ i = j) := hA
  obtain ⟨i1, i2, hj, hq1⟩ := (qO_0 _ m1).resolve_left e1
  obtain ⟨i3, i4, hk, hq2⟩ := (qI_1 _ m2).resolve_left e2
  have hn1 : Int32.ofNat n + 1 = Int32.ofNat (n + 1) := n_add n 1
  have nq : ¬ A 8 = A 9 := fun z => absurd ((hAe 8 9 (by decide) (by decide)).mp z) (by decide)
  have nq2 : ¬ A 10 = A 11 := fun z => absurd ((hAe 10 11 (by decide) (by decide)).mp z) (by decide)
  rw [o73_37]
  simp only [o73_39, o73_41, o73_44, o73_46, o73_49, o73_52, o73_54, o73_55, o73_58, o73_61, o73_64, c_X1_hasNoRest (w := A 10) (r := A 11), c_X1_goOut (w := A 8) (r := A 9) (rw := A 1) (cs := A 3) (n := 16) (sz := 5) (ring := 1), c_X1_comeIn (w := A 10) (r := A 11) (rw := A 1) (cs := A 3) (n := 16) (sz := 3) (ring := 1), mcs_0, mcs_r, Kn_v, Kn_0, true_and, not_true_eq_false, not_false_eq_true, false_implies, forall_const, if_true, if_false, Nat.reduceEqDiff, Nat.reduceLeDiff, Nat.reduceAdd, Nat.zero_le, lt_le, Nat.reduceLT, hAe, c_cW, n_cW, r_cW, z_cW, l_cW, i_cW_q2, i_cW_w1, i_cW_w2, i_cW_w3, i_cW_r1, i_cW_r2, (hA_10_6 hA), icw1_j5 hA, icw1_j8 hA, icw1_j9 hA, icw0_j6 hA, icw0_j10 hA, icw0_j11 hA, icx1_0 hA, icx1_1 hA, icx0_3 hA, icx0_4 hA, pL_c, pL_n, pL_r, pL_i, pL_z, pL_l, kc1, kc3, kc5, kc6, kc8, kc9, kc10, kc11, kn3, kr1_0, kr5_0, kr5_1, kr6_0, kr6_1, kr9_0, kr10_0, kz, ki5_2, ki6_2, ki8_2, ki9_1, ki9_2, ki10_1, ki10_2, ki10_3, ki11_2, hn, hn1, e1, e2, i1, i2, hj, i3, i4, hk, cT0_cW1 hA, cT0_cW hA, cT1_cW hA, cWx01 hA, cW_cW, p_l_cW, pL_pl]

theorem pce01 {A : Nat → Nat} {h : MH} {t u : QT} {rc : Nat → Int64} {n M : Nat} {Q : MR → MH → Prop} (vk : K A h) (vcn : Cn A h) (m1 : t ∈ QS0) (m2 : u ∈ QS1) (hs : (Int32.ofNat n < Int32.ofNat M) = False ∨ u.2.1 - u.1 = 0) : Ok 73 37 [.ref (A 0), .int 0, .int 1, .ref (A 5), .ref (A 6), .int (Int32.ofNat M), .int (Int32.ofNat n)] [] (cW (cW (p_L h (A 3) (rc)) (A 5) (A 8) (A 9) t) (A 6) (A 10) (A 11) u) 1 6 Q ↔ Ok 73 67 [.ref (A 0), .int 0, .int 1, .ref (A 5), .ref (A 6), .int (Int32.ofNat M), .int (Int32.ofNat n)] [] (cW (cW (p_L h (A 3) (rc)) (A 5) (A 8) (A 9) t) (A 6) (A 10) (A 11) u) 1 6 Q := by
  have vk0 := vk
  have vcn0 := vcn
  (refine K_el vk0 ?_; intros hA kc0 kc1 kc2 kc3 kc4 kc5 kc6 kc7 kc8 kc9 kc10 kc11 kc12 kc13 kc14 kc15 kc16 kc17 kc18 kc19 kc20 kc21 kc22 kc23 kc24 kc25 kc26 kc27 kc28 kc29 kc30 kc31 kc32 kc33 kc34 kc35 kc36 kc37 kc38 kc39 kz kt kn3 kn4 kn18 kn21 kn23 kn24 kn25 kn26 kn27 kn29 kn30 kr0_0 kr0_1 kr0_2 kr0_3 kr0_4 kr0_5 kr0_7 kr0_8 kr0_9 kr0_10 kr1_0 kr2_0 kr5_0 kr5_1 kr6_0 kr6_1 kr7_0 kr7_1 kr8_0 kr9_0 kr10_0 kr11_0 kr12_0 kr13_0 kr14_0 kr15_0 kr16_0 kr17_0 kr19_0 kr19_1 kr22_0 kr22_1 kr22_2 kr22_3 kr22_4 kr22_5 kr22_7 kr22_8 kr25_0 kr25_1 kr25_2 kr26_0 kr26_1 kr26_2 kr29_0 kr29_1)
  (refine Cn_el vcn0 ?_; intros ki5_2 ki6_2 ki7_2 ki8_1 ki8_2 ki8_3 ki9_1 ki9_2 ki9_3 ki10_1 ki10_2 ki10_3 ki11_1 ki11_2 ki11_3 ki12_1 ki12_2 ki12_3 ki13_1 ki13_2 ki13_3 ki14_1 ki14_2 ki14_3 ki28_0 ki28_1 ki31_0 ki31_1 ki32_0 ki32_1 ki33_0 ki33_1 ki34_0 ki34_1 ki35_0 ki35_1 ki36_0 ki36_1)
  have hAe : ∀ i j, i < 40 → j < 40 → (A i = A j ↔ i = j) := hA
  by_cases hn : Int32.ofNat n < Int32.ofNat M
  · have e2 : u.2.1 - u.1 = 0 := hs.resolve_left (fun z => by rw [z] at hn; exact hn)
    rw [o73_37]
    simp only [o73_39, o73_41, o73_44, o73_46, o73_49, o73_52, o73_54, o73_55, c_X1_hasNoRest (w := A 10) (r := A 11), mcs_0, mcs_r, Kn_v, true_and, and_true, not_true_eq_false, not_false_eq_true, false_implies, forall_const, if_true, Nat.reduceLeDiff, Nat.reduceAdd, Nat.zero_le, i10, lt_le, c_cW, r_cW, icx1_0 hA, icx1_1 hA, pL_c, pL_r, kc5, kc6, kc10, kc11, kr6_0, kr6_1, hn, e2]
    all_goals (try exact Iff.rfl)
  · rw [o73_37]
    simp only [o73_39, o73_41, o73_44, o73_46, mcs_0, true_and, and_true, not_true_eq_false, not_false_eq_true, false_implies, forall_const, Nat.zero_le, lt_le, hn]
    all_goals (try exact Iff.rfl)

theorem pms01 {A : Nat → Nat} {h : MH} {t u : QT} {rm : Nat → Int64} {n : Nat} {Q : MR → MH → Prop} (vk : K A h) (vcn : Cn A h) (m1 : t ∈ QS0) (m2 : u ∈ QS1) (e1 : ¬ t.2.2.2.2.1 - t.2.2.2.1 = 0) (e2 : ¬ u.2.1 - u.1 = 0) : Ok 196 40 [.ref (A 22), .int 0, .int 1, .int (Int32.ofNat n)] [] (mW (mW (p_L h (A 23) (rm)) (A 27) 0 (A 31) (A 34) t) (A 27) 1 (A 32) (A 35) u) 0 0 Q ↔ Ok 196 40 [.ref (A 22), .int 0, .int 1, .int (Int32.ofNat (n + 1))] [] (mW (mW (p_L h (A 23) (fun x => if x = (6 + u.1).toNatClampNeg then rm (1 + t.2.2.2.1).toNatClampNeg else rm x)) (A 27) 0 (A 31) (A 34) (seF 1 5 (goF t))) (A 27) 1 (A 32) (A 35) (seF 1 3 (ciF u))) 0 0 Q := by
  have vk0 := vk
  have vcn0 := vcn
  (refine K_el vk0 ?_; intros hA kc0 kc1 kc2 kc3 kc4 kc5 kc6 kc7 kc8 kc9 kc10 kc11 kc12 kc13 kc14 kc15 kc16 kc17 kc18 kc19 kc20 kc21 kc22 kc23 kc24 kc25 kc26 kc27 kc28 kc29 kc30 kc31 kc32 kc33 kc34 kc35 kc36 kc37 kc38 kc39 kz kt kn3 kn4 kn18 kn21 kn23 kn24 kn25 kn26 kn27 kn29 kn30 kr0_0 kr0_1 kr0_2 kr0_3 kr0_4 kr0_5 kr0_7 kr0_8 kr0_9 kr0_10 kr1_0 kr2_0 kr5_0 kr5_1 kr6_0 kr6_1 kr7_0 kr7_1 kr8_0 kr9_0 kr10_0 kr11_0 kr12_0 kr13_0 kr14_0 kr15_0 kr16_0 kr17_0 kr19_0 kr19_1 kr22_0 kr22_1 kr22_2 kr22_3 kr22_4 kr22_5 kr22_7 kr22_8 kr25_0 kr25_1 kr25_2 kr26_0 kr26_1 kr26_2 kr29_0 kr29_1)
  (refine Cn_el vcn0 ?_; intros ki5_2 ki6_2 ki7_2 ki8_1 ki8_2 ki8_3 ki9_1 ki9_2 ki9_3 ki10_1 ki10_2 ki10_3 ki11_1 ki11_2 ki11_3 ki12_1 ki12_2 ki12_3 ki13_1 ki13_2 ki13_3 ki14_1 ki14_2 ki14_3 ki28_0 ki28_1 ki31_0 ki31_1 ki32_0 ki32_1 ki33_0 ki33_1 ki34_0 ki34_1 ki35_0 ki35_1 ki36_0 ki36_1)
  have hAe : ∀ i j, i < 40 → j < 40 → (A i = A j ↔ i = j) := hA
  obtain ⟨i1, i2, hj, hq1⟩ := (qO_0 _ m1).resolve_left e1
  obtain ⟨i3, i4, hk, hq2⟩ := (qI_1 _ m2).resolve_left e2
  have ar0 : arok 0 t.2.2.2.2.2.2 := fun z => absurd (by decide) z
  have ar1 : arok 1 u.2.2.2.2.2.2 := fun z => absurd (by decide) z
  have e3 : (0 < t.2.2.2.2.1 - t.2.2.2.1) = True := eq_true ((qN_0 _ m1).2.1 e1).1
  have e4 : (0 < u.2.1 - u.1) = True := eq_true ((qN_1 _ m2).2.2.2.2.2 e2)
  have hj2 := hj.2.2
  have hk2 := hk.2.2
  have hn1 : Int32.ofNat n + 1 = Int32.ofNat (n + 1) := n_add n 1
  rw [o196_40]
  simp only [o196_41, o196_44, o196_45, o196_46, o196_49, o196_52, o196_53, o196_56, o196_57, o196_58, o196_61, o196_64, o196_65, o196_66, o196_67, o196_68, o196_71, o196_74, o196_77, c_X7_rests, c_X8_goOut (x2 := A 25) (x3 := A 26) (a := A 27) (w := A 31) (r := A 34) (lr := A 23) (sz := 5), c_X8_comeIn (x2 := A 25) (x3 := A 26) (a := A 27) (w := A 32) (r := A 35) (lr := A 23) (sz := 3), mcs_0, mcs_i, mcs_r, Kn_v, Kn_0, mrf_some, true_and, not_true_eq_false, not_false_eq_true, false_implies, forall_const, if_true, and_self, Nat.reduceEqDiff, Nat.reduceLeDiff, Nat.reduceAdd, Nat.zero_le, lt_le, Int32.reduceLT, cl0, cl1, Nat.reduceLT, hAe, c_mW, n_mW, r_mW, z_mW, l_mW, i_mW_w0, i_mW_w1, i_mW_r0, i_mW_r1, imw0_j32 hA, imw0_j35 hA, imw1_j31 hA, imw1_j34 hA, (hA_31_27 hA), (hA_34_27 hA), (hA_32_27 hA), (hA_35_27 hA), imw1_j31 hA, imw1_j34 hA, imw0_j32 hA, imw0_j35 hA, imx1_0 hA, imx1_1 hA, imx0_3 hA, imx0_4 hA, imx0_6 hA, imx1_6 hA, i27_mW1 hA (k := 0) (by decide), pL_c, pL_n, pL_r, pL_i, pL_z, pL_l, kc22, kc23, kc25, kc26, kc27, kc31, kc32, kc34, kc35, kn23, kn25, kn26, kn27, kr22_0, kr22_2, kr22_3, kr22_4, kr25_0, kr25_1, kr26_0, kr26_1, kz, ki31_1, ki32_0, ki32_1, ki34_0, ki34_1, ki35_1, ar0, ar1, vq3, cl0, cl1, Int32.reduceLT, hn1, e3, e4, hj2, hk2, mT0_mW1 hA, mT0_mW hA, mT1_mW hA, mWx01 hA, mW_mW, p_l_mW, pL_pl]

theorem pme01 {A : Nat → Nat} {h : MH} {t u : QT} {rm : Nat → Int64} {n : Nat} {Q : MR → MH → Prop} (vk : K A h) (vcn : Cn A h) (m1 : t ∈ QS0) (m2 : u ∈ QS1) (hs : t.2.2.2.2.1 - t.2.2.2.1 = 0 ∨ u.2.1 - u.1 = 0) : Ok 196 40 [.ref (A 22), .int 0, .int 1, .int (Int32.ofNat n)] [] (mW (mW (p_L h (A 23) (rm)) (A 27) 0 (A 31) (A 34) t) (A 27) 1 (A 32) (A 35) u) 0 0 Q ↔ Ok 196 80 [.ref (A 22), .int 0, .int 1, .int (Int32.ofNat n)] [] (mW (mW (p_L h (A 23) (rm)) (A 27) 0 (A 31) (A 34) t) (A 27) 1 (A 32) (A 35) u) 0 0 Q := by
  have vk0 := vk
  have vcn0 := vcn
  (refine K_el vk0 ?_; intros hA kc0 kc1 kc2 kc3 kc4 kc5 kc6 kc7 kc8 kc9 kc10 kc11 kc12 kc13 kc14 kc15 kc16 kc17 kc18 kc19 kc20 kc21 kc22 kc23 kc24 kc25 kc26 kc27 kc28 kc29 kc30 kc31 kc32 kc33 kc34 kc35 kc36 kc37 kc38 kc39 kz kt kn3 kn4 kn18 kn21 kn23 kn24 kn25 kn26 kn27 kn29 kn30 kr0_0 kr0_1 kr0_2 kr0_3 kr0_4 kr0_5 kr0_7 kr0_8 kr0_9 kr0_10 kr1_0 kr2_0 kr5_0 kr5_1 kr6_0 kr6_1 kr7_0 kr7_1 kr8_0 kr9_0 kr10_0 kr11_0 kr12_0 kr13_0 kr14_0 kr15_0 kr16_0 kr17_0 kr19_0 kr19_1 kr22_0 kr22_1 kr22_2 kr22_3 kr22_4 kr22_5 kr22_7 kr22_8 kr25_0 kr25_1 kr25_2 kr26_0 kr26_1 kr26_2 kr29_0 kr29_1)
  (refine Cn_el vcn0 ?_; intros ki5_2 ki6_2 ki7_2 ki8_1 ki8_2 ki8_3 ki9_1 ki9_2 ki9_3 ki10_1 ki10_2 ki10_3 ki11_1 ki11_2 ki11_3 ki12_1 ki12_2 ki12_3 ki13_1 ki13_2 ki13_3 ki14_1 ki14_2 ki14_3 ki28_0 ki28_1 ki31_0 ki31_1 ki32_0 ki32_1 ki33_0 ki33_1 ki34_0 ki34_1 ki35_0 ki35_1 ki36_0 ki36_1)
  have hAe : ∀ i j, i < 40 → j < 40 → (A i = A j ↔ i = j) := hA
  by_cases e1 : t.2.2.2.2.1 - t.2.2.2.1 = 0
  · have e3 : (0 < t.2.2.2.2.1 - t.2.2.2.1) = False := eq_false ((qN_0 _ m1).1 e1).2
    rw [o196_40]
    simp only [o196_41, o196_44, o196_45, o196_46, o196_49, o196_52, o196_53, o196_56, o196_57, o196_58, o196_61, o196_64, o196_65, o196_66, o196_67, o196_68, c_X7_rests, mcs_0, mcs_i, mcs_r, Kn_v, mrf_some, true_and, and_true, not_true_eq_false, not_false_eq_true, false_implies, forall_const, and_self, Nat.reduceLeDiff, Nat.reduceAdd, Nat.zero_le, lt_le, Classical.not_not, cl0, cl1, c_mW, n_mW, r_mW, imw1_j34 hA, imw1_j34 hA, imx1_0 hA, imx1_1 hA, imx0_3 hA, imx0_4 hA, pL_c, pL_n, pL_r, kc22, kc25, kc26, kc32, kc34, kn25, kn26, kr22_2, kr22_3, kr25_1, kr26_0, e3, vq3, cl0, cl1]
    all_goals (try exact Iff.rfl)
  · have e3 : (0 < t.2.2.2.2.1 - t.2.2.2.1) = True := eq_true ((qN_0 _ m1).2.1 e1).1
    have e4 : (0 < u.2.1 - u.1) = False := eq_false ((qN_1 _ m2).2.2.2.2.1 (hs.resolve_left e1))
    rw [o196_40]
    simp only [o196_41, o196_44, o196_45, o196_46, o196_49, o196_52, o196_53, o196_56, o196_57, o196_58, o196_61, o196_64, o196_65, o196_66, o196_67, o196_68, c_X7_rests, mcs_0, mcs_i, mcs_r, Kn_v, mrf_some, true_and, and_true, not_true_eq_false, not_false_eq_true, false_implies, forall_const, and_self, Nat.reduceLeDiff, Nat.reduceAdd, Nat.zero_le, lt_le, cl0, cl1, c_mW, n_mW, r_mW, imw1_j34 hA, imw1_j34 hA, imx1_0 hA, imx1_1 hA, imx0_3 hA, imx0_4 hA, pL_c, pL_n, pL_r, kc22, kc25, kc26, kc32, kc34, kn25, kn26, kr22_2, kr22_3, kr25_1, kr26_0, e3, e4, vq3, cl0, cl1]
    all_goals (try exact Iff.rfl)
end

section
theorem pcs02 {A : Nat → Nat} {h : MH} {t u : QT} {rc : Nat → Int64} {n M : Nat} {Q : MR → MH → Prop} (vk : K A h) (vcn : Cn A h) (m1 : t ∈ QS0) (m2 : u ∈ QS2) (e1 : ¬ t.2.2.2.2.1 - t.2.2.2.1 = 0) (e2 : ¬ u.2.1 - u.1 = 0) (hn : (Int32.ofNat n < Int32.ofNat M) = True) : Ok 73 37 [.ref (A 0), .int 0, .int 2, .ref (A 5), .ref (A 7), .int (Int32.ofNat M), .int (Int32.ofNat n)] [] (cW (cW (p_L h (A 3) (rc)) (A 5) (A 8) (A 9) t) (A 7) (A 12) (A 13) u) 1 6 Q ↔ Ok 73 37 [.ref (A 0), .int 0, .int 2, .ref (A 5), .ref (A 7), .int (Int32.ofNat M), .int (Int32.ofNat (n + 1))] [] (cW (cW (p_L h (A 3) (fun x => if x = (9 + u.1).toNatClampNeg then rc (1 + t.2.2.2.1).toNatClampNeg else rc x)) (A 5) (A 8) (A 9) (seF 1 5 (goF t))) (A 7) (A 12) (A 13) (seF 0 6 (ciF u))) 1 6 Q := by
  have vk0 := vk
  have vcn0 := vcn
  (refine K_el vk0 ?_; intros hA kc0 kc1 kc2 kc3 kc4 kc5 kc6 kc7 kc8 kc9 kc10 kc11 kc12 kc13 kc14 kc15 kc16 kc17 kc18 kc19 kc20 kc21 kc22 kc23 kc24 kc25 kc26 kc27 kc28 kc29 kc30 kc31 kc32 kc33 kc34 kc35 kc36 kc37 kc38 kc39 kz kt kn3 kn4 kn18 kn21 kn23 kn24 kn25 kn26 kn27 kn29 kn30 kr0_0 kr0_1 kr0_2 kr0_3 kr0_4 kr0_5 kr0_7 kr0_8 kr0_9 kr0_10 kr1_0 kr2_0 kr5_0 kr5_1 kr6_0 kr6_1 kr7_0 kr7_1 kr8_0 kr9_0 kr10_0 kr11_0 kr12_0 kr13_0 kr14_0 kr15_0 kr16_0 kr17_0 kr19_0 kr19_1 kr22_0 kr22_1 kr22_2 kr22_3 kr22_4 kr22_5 kr22_7 kr22_8 kr25_0 kr25_1 kr25_2 kr26_0 kr26_1 kr26_2 kr29_0 kr29_1)
  (refine Cn_el vcn0 ?_; intros ki5_2 ki6_2 ki7_2 ki8_1 ki8_2 ki8_3 ki9_1 ki9_2 ki9_3 ki10_1 ki10_2 ki10_3 ki11_1 ki11_2 ki11_3 ki12_1 ki12_2 ki12_3 ki13_1 ki13_2 ki13_3 ki14_1 ki14_2 ki14_3 ki28_0 ki28_1 ki31_0 ki31_1 ki32_0 ki32_1 ki33_0 ki33_1 ki34_0 ki34_1 ki35_0 ki35_1 ki36_0 ki36_1)
  have hAe : ∀ i j, i < 40 → j < 40 → (A i = A j ↔ i = j) := hA
  obtain ⟨i1, i2, hj, hq1⟩ := (qO_0 _ m1).resolve_left e1
  obtain ⟨i3, i4, hk, hq2⟩ := (qI_2 _ m2).resolve_left e2
  have hn1 : Int32.ofNat n + 1 = Int32.ofNat (n + 1) := n_add n 1
  have nq : ¬ A 8 = A 9 := fun z => absurd ((hAe 8 9 (by decide) (by decide)).mp z) (by decide)
  have nq2 : ¬ A 12 = A 13 := fun z => absurd ((hAe 12 13 (by decide) (by decide)).mp z) (by decide)
  rw [o73_37]
  simp only [o73_39, o73_41, o73_44, o73_46, o73_49, o73_52, o73_54, o73_55, o73_58, o73_61, o73_64, c_X1_hasNoRest (w := A 12) (r := A 13), c_X1_goOut (w := A 8) (r := A 9) (rw := A 1) (cs := A 3) (n := 16) (sz := 5) (ring := 1), c_X1_comeIn (w := A 12) (r := A 13) (rw := A 1) (cs := A 3) (n := 16) (sz := 6) (ring := 0), mcs_0, mcs_r, Kn_v, Kn_0, true_and, not_true_eq_false, not_false_eq_true, false_implies, forall_const, if_true, if_false, Nat.reduceEqDiff, Nat.reduceLeDiff, Nat.reduceAdd, Nat.zero_le, lt_le, Nat.reduceLT, hAe, c_cW, n_cW, r_cW, z_cW, l_cW, i_cW_q2, i_cW_w1, i_cW_w2, i_cW_w3, i_cW_r1, i_cW_r2, (hA_12_7 hA), icw2_j5 hA, icw2_j8 hA, icw2_j9 hA, icw0_j7 hA, icw0_j12 hA, icw0_j13 hA, icx2_0 hA, icx2_1 hA, icx0_3 hA, icx0_4 hA, pL_c, pL_n, pL_r, pL_i, pL_z, pL_l, kc1, kc3, kc5, kc7, kc8, kc9, kc12, kc13, kn3, kr1_0, kr5_0, kr5_1, kr7_0, kr7_1, kr9_0, kr12_0, kz, ki5_2, ki7_2, ki8_2, ki9_1, ki9_2, ki12_1, ki12_2, ki12_3, ki13_2, hn, hn1, e1, e2, i1, i2, hj, i3, i4, hk, cT0_cW2 hA, cT0_cW hA, cT2_cW hA, cWx02 hA, cW_cW, p_l_cW, pL_pl]

theorem pce02 {A : Nat → Nat} {h : MH} {t u : QT} {rc : Nat → Int64} {n M : Nat} {Q : MR → MH → Prop} (vk : K A h) (vcn : Cn A h) (m1 : t ∈ QS0) (m2 : u ∈ QS2) (hs : (Int32.ofNat n < Int32.ofNat M) = False ∨ u.2.1 - u.1 = 0) : Ok 73 37 [.ref (A 0), .int 0, .int 2, .ref (A 5), .ref (A 7), .int (Int32.ofNat M), .int (Int32.ofNat n)] [] (cW (cW (p_L h (A 3) (rc)) (A 5) (A 8) (A 9) t) (A 7) (A 12) (A 13) u) 1 6 Q ↔ Ok 73 67 [.ref (A 0), .int 0, .int 2, .ref (A 5), .ref (A 7), .int (Int32.ofNat M), .int (Int32.ofNat n)] [] (cW (cW (p_L h (A 3) (rc)) (A 5) (A 8) (A 9) t) (A 7) (A 12) (A 13) u) 1 6 Q := by
  have vk0 := vk
  have vcn0 := vcn
  (refine K_el vk0 ?_; intros hA kc0 kc1 kc2 kc3 kc4 kc5 kc6 kc7 kc8 kc9 kc10 kc11 kc12 kc13 kc14 kc15 kc16 kc17 kc18 kc19 kc20 kc21 kc22 kc23 kc24 kc25 kc26 kc27 kc28 kc29 kc30 kc31 kc32 kc33 kc34 kc35 kc36 kc37 kc38 kc39 kz kt kn3 kn4 kn18 kn21 kn23 kn24 kn25 kn26 kn27 kn29 kn30 kr0_0 kr0_1 kr0_2 kr0_3 kr0_4 kr0_5 kr0_7 kr0_8 kr0_9 kr0_10 kr1_0 kr2_0 kr5_0 kr5_1 kr6_0 kr6_1 kr7_0 kr7_1 kr8_0 kr9_0 kr10_0 kr11_0 kr12_0 kr13_0 kr14_0 kr15_0 kr16_0 kr17_0 kr19_0 kr19_1 kr22_0 kr22_1 kr22_2 kr22_3 kr22_4 kr22_5 kr22_7 kr22_8 kr25_0 kr25_1 kr25_2 kr26_0 kr26_1 kr26_2 kr29_0 kr29_1)
  (refine Cn_el vcn0 ?_; intros ki5_2 ki6_2 ki7_2 ki8_1 ki8_2 ki8_3 ki9_1 ki9_2 ki9_3 ki10_1 ki10_2 ki10_3 ki11_1 ki11_2 ki11_3 ki12_1 ki12_2 ki12_3 ki13_1 ki13_2 ki13_3 ki14_1 ki14_2 ki14_3 ki28_0 ki28_1 ki31_0 ki31_1 ki32_0 ki32_1 ki33_0 ki33_1 ki34_0 ki34_1 ki35_0 ki35_1 ki36_0 ki36_1)
  have hAe : ∀ i j, i < 40 → j < 40 → (A i = A j ↔ i = j) := hA
  by_cases hn : Int32.ofNat n < Int32.ofNat M
  · have e2 : u.2.1 - u.1 = 0 := hs.resolve_left (fun z => by rw [z] at hn; exact hn)
    rw [o73_37]
    simp only [o73_39, o73_41, o73_44, o73_46, o73_49, o73_52, o73_54, o73_55, c_X1_hasNoRest (w := A 12) (r := A 13), mcs_0, mcs_r, Kn_v, true_and, and_true, not_true_eq_false, not_false_eq_true, false_implies, forall_const, if_true, Nat.reduceLeDiff, Nat.reduceAdd, Nat.zero_le, i10, lt_le, c_cW, r_cW, icx2_0 hA, icx2_1 hA, pL_c, pL_r, kc5, kc7, kc12, kc13, kr7_0, kr7_1, hn, e2]
    all_goals (try exact Iff.rfl)
  · rw [o73_37]
    simp only [o73_39, o73_41, o73_44, o73_46, mcs_0, true_and, and_true, not_true_eq_false, not_false_eq_true, false_implies, forall_const, Nat.zero_le, lt_le, hn]
    all_goals (try exact Iff.rfl)

theorem pms02 {A : Nat → Nat} {h : MH} {t u : QT} {rm : Nat → Int64} {n : Nat} {Q : MR → MH → Prop} (vk : K A h) (vcn : Cn A h) (m1 : t ∈ QS0) (m2 : u ∈ QS2) (e1 : ¬ t.2.2.2.2.1 - t.2.2.2.1 = 0) (e2 : ¬ u.2.1 - u.1 = 0) : Ok 196 40 [.ref (A 22), .int 0, .int 2, .int (Int32.ofNat n)] [] (mW (mW (p_L h (A 23) (rm)) (A 27) 0 (A 31) (A 34) t) (A 27) 2 (A 33) (A 36) u) 0 0 Q ↔ Ok 196 40 [.ref (A 22), .int 0, .int 2, .int (Int32.ofNat (n + 1))] [] (mW (mW (p_L h (A 23) (fun x => if x = (9 + u.1).toNatClampNeg then rm (1 + t.2.2.2.1).toNatClampNeg else rm x)) (A 27) 0 (A 31) (A 34) (seF 1 5 (goF t))) (A 27) 2 (A 33) (A 36) (seF 0 6 (ciF u))) 0 0 Q := by
  have vk0 := vk
  have vcn0 := vcn
  (refine K_el vk0 ?_; intros hA kc0 kc1 kc2 kc3 kc4 kc5 kc6 kc7 kc8 kc9 kc10 kc11 kc12 kc13 kc14 kc15 kc16 kc17 kc18 kc19 kc20 kc21 kc22 kc23 kc24 kc25 kc26 kc27 kc28 kc29 kc30 kc31 kc32 kc33 kc34 kc35 kc36 kc37 kc38 kc39 kz kt kn3 kn4 kn18 kn21 kn23 kn24 kn25 kn26 kn27 kn29 kn30 kr0_0 kr0_1 kr0_2 kr0_3 kr0_4 kr0_5 kr0_7 kr0_8 kr0_9 kr0_10 kr1_0 kr2_0 kr5_0 kr5_1 kr6_0 kr6_1 kr7_0 kr7_1 kr8_0 kr9_0 kr10_0 kr11_0 kr12_0 kr13_0 kr14_0 kr15_0 kr16_0 kr17_0 kr19_0 kr19_1 kr22_0 kr22_1 kr22_2 kr22_3 kr22_4 kr22_5 kr22_7 kr22_8 kr25_0 kr25_1 kr25_2 kr26_0 kr26_1 kr26_2 kr29_0 kr29_1)
  (refine Cn_el vcn0 ?_; intros ki5_2 ki6_2 ki7_2 ki8_1 ki8_2 ki8_3 ki9_1 ki9_2 ki9_3 ki10_1 ki10_2 ki10_3 ki11_1 ki11_2 ki11_3 ki12_1 ki12_2 ki12_3 ki13_1 ki13_2 ki13_3 ki14_1 ki14_2 ki14_3 ki28_0 ki28_1 ki31_0 ki31_1 ki32_0 ki32_1 ki33_0 ki33_1 ki34_0 ki34_1 ki35_0 ki35_1 ki36_0 ki36_1)
  have hAe : ∀ i j, i < 40 → j < 40 → (A i = A j ↔ i = j) := hA
  obtain ⟨i1, i2, hj, hq1⟩ := (qO_0 _ m1).resolve_left e1
  obtain ⟨i3, i4, hk, hq2⟩ := (qI_2 _ m2).resolve_left e2
  have ar0 : arok 0 t.2.2.2.2.2.2 := fun z => absurd (by decide) z
  have ar2 : arok 2 u.2.2.2.2.2.2 := fun _ => (qA_2 _ m2).2.1
  have e3 : (0 < t.2.2.2.2.1 - t.2.2.2.1) = True := eq_true ((qN_0 _ m1).2.1 e1).1
  have e4 : (0 < u.2.1 - u.1) = True := eq_true ((qN_2 _ m2).2.2.2.2.2 e2)
  have hj2 := hj.2.2
  have hk2 := hk.2.2
  have hn1 : Int32.ofNat n + 1 = Int32.ofNat (n + 1) := n_add n 1
  rw [o196_40]
  simp only [o196_41, o196_44, o196_45, o196_46, o196_49, o196_52, o196_53, o196_56, o196_57, o196_58, o196_61, o196_64, o196_65, o196_66, o196_67, o196_68, o196_71, o196_74, o196_77, c_X7_rests, c_X8_goOut (x2 := A 25) (x3 := A 26) (a := A 27) (w := A 31) (r := A 34) (lr := A 23) (sz := 5), c_X8_comeIn (x2 := A 25) (x3 := A 26) (a := A 27) (w := A 33) (r := A 36) (lr := A 23) (sz := 6), mcs_0, mcs_i, mcs_r, Kn_v, Kn_0, mrf_some, true_and, not_true_eq_false, not_false_eq_true, false_implies, forall_const, if_true, if_false, and_self, Nat.reduceEqDiff, Nat.reduceLeDiff, Nat.reduceAdd, Nat.zero_le, lt_le, Int32.reduceLT, cl0, cl2, Nat.reduceLT, hAe, c_mW, n_mW, r_mW, z_mW, l_mW, i_mW_w0, i_mW_w1, i_mW_r0, i_mW_r1, imw0_j33 hA, imw0_j36 hA, imw2_j31 hA, imw2_j34 hA, (hA_31_27 hA), (hA_34_27 hA), (hA_33_27 hA), (hA_36_27 hA), imw2_j31 hA, imw2_j34 hA, imw0_j33 hA, imw0_j36 hA, imx2_0 hA, imx2_1 hA, imx0_3 hA, imx0_4 hA, imx0_6 hA, imx2_6 hA, i27_mW2 hA (k := 0) (by decide), pL_c, pL_n, pL_r, pL_i, pL_z, pL_l, kc22, kc23, kc25, kc26, kc27, kc31, kc33, kc34, kc36, kn23, kn25, kn26, kn27, kr22_0, kr22_2, kr22_3, kr22_4, kr25_0, kr25_2, kr26_0, kr26_2, kz, ki31_1, ki33_0, ki33_1, ki34_0, ki34_1, ki36_1, ar0, ar2, vq3, cl0, cl2, Int32.reduceLT, hn1, e3, e4, hj2, hk2, mT0_mW2 hA, mT0_mW hA, mT2_mW hA, mWx02 hA, mW_mW, p_l_mW, pL_pl]

theorem pme02 {A : Nat → Nat} {h : MH} {t u : QT} {rm : Nat → Int64} {n : Nat} {Q : MR → MH → Prop} (vk : K A h) (vcn : Cn A h) (m1 : t ∈ QS0) (m2 : u ∈ QS2) (hs : t.2.2.2.2.1 - t.2.2.2.1 = 0 ∨ u.2.1 - u.1 = 0) : Ok 196 40 [.ref (A 22), .int 0, .int 2, .int (Int32.ofNat n)] [] (mW (mW (p_L h (A 23) (rm)) (A 27) 0 (A 31) (A 34) t) (A 27) 2 (A 33) (A 36) u) 0 0 Q ↔ Ok 196 80 [.ref (A 22), .int 0, .int 2, .int (Int32.ofNat n)] [] (mW (mW (p_L h (A 23) (rm)) (A 27) 0 (A 31) (A 34) t) (A 27) 2 (A 33) (A 36) u) 0 0 Q := by
  have vk0 := vk
  have vcn0 := vcn
  (refine K_el vk0 ?_; intros hA kc0 kc1 kc2 kc3 kc4 kc5 kc6 kc7 kc8 kc9 kc10 kc11 kc12 kc13 kc14 kc15 kc16 kc17 kc18 kc19 kc20 kc21 kc22 kc23 kc24 kc25 kc26 kc27 kc28 kc29 kc30 kc31 kc32 kc33 kc34 kc35 kc36 kc37 kc38 kc39 kz kt kn3 kn4 kn18 kn21 kn23 kn24 kn25 kn26 kn27 kn29 kn30 kr0_0 kr0_1 kr0_2 kr0_3 kr0_4 kr0_5 kr0_7 kr0_8 kr0_9 kr0_10 kr1_0 kr2_0 kr5_0 kr5_1 kr6_0 kr6_1 kr7_0 kr7_1 kr8_0 kr9_0 kr10_0 kr11_0 kr12_0 kr13_0 kr14_0 kr15_0 kr16_0 kr17_0 kr19_0 kr19_1 kr22_0 kr22_1 kr22_2 kr22_3 kr22_4 kr22_5 kr22_7 kr22_8 kr25_0 kr25_1 kr25_2 kr26_0 kr26_1 kr26_2 kr29_0 kr29_1)
  (refine Cn_el vcn0 ?_; intros ki5_2 ki6_2 ki7_2 ki8_1 ki8_2 ki8_3 ki9_1 ki9_2 ki9_3 ki10_1 ki10_2 ki10_3 ki11_1 ki11_2 ki11_3 ki12_1 ki12_2 ki12_3 ki13_1 ki13_2 ki13_3 ki14_1 ki14_2 ki14_3 ki28_0 ki28_1 ki31_0 ki31_1 ki32_0 ki32_1 ki33_0 ki33_1 ki34_0 ki34_1 ki35_0 ki35_1 ki36_0 ki36_1)
  have hAe : ∀ i j, i < 40 → j < 40 → (A i = A j ↔ i = j) := hA
  by_cases e1 : t.2.2.2.2.1 - t.2.2.2.1 = 0
  · have e3 : (0 < t.2.2.2.2.1 - t.2.2.2.1) = False := eq_false ((qN_0 _ m1).1 e1).2
    rw [o196_40]
    simp only [o196_41, o196_44, o196_45, o196_46, o196_49, o196_52, o196_53, o196_56, o196_57, o196_58, o196_61, o196_64, o196_65, o196_66, o196_67, o196_68, c_X7_rests, mcs_0, mcs_i, mcs_r, Kn_v, mrf_some, true_and, and_true, not_true_eq_false, not_false_eq_true, false_implies, forall_const, and_self, Nat.reduceLeDiff, Nat.reduceAdd, Nat.zero_le, lt_le, Classical.not_not, cl0, cl2, c_mW, n_mW, r_mW, imw2_j34 hA, imw2_j34 hA, imx2_0 hA, imx2_1 hA, imx0_3 hA, imx0_4 hA, pL_c, pL_n, pL_r, kc22, kc25, kc26, kc33, kc34, kn25, kn26, kr22_2, kr22_3, kr25_2, kr26_0, e3, vq3, cl0, cl2]
    all_goals (try exact Iff.rfl)
  · have e3 : (0 < t.2.2.2.2.1 - t.2.2.2.1) = True := eq_true ((qN_0 _ m1).2.1 e1).1
    have e4 : (0 < u.2.1 - u.1) = False := eq_false ((qN_2 _ m2).2.2.2.2.1 (hs.resolve_left e1))
    rw [o196_40]
    simp only [o196_41, o196_44, o196_45, o196_46, o196_49, o196_52, o196_53, o196_56, o196_57, o196_58, o196_61, o196_64, o196_65, o196_66, o196_67, o196_68, c_X7_rests, mcs_0, mcs_i, mcs_r, Kn_v, mrf_some, true_and, and_true, not_true_eq_false, not_false_eq_true, false_implies, forall_const, and_self, Nat.reduceLeDiff, Nat.reduceAdd, Nat.zero_le, lt_le, cl0, cl2, c_mW, n_mW, r_mW, imw2_j34 hA, imw2_j34 hA, imx2_0 hA, imx2_1 hA, imx0_3 hA, imx0_4 hA, pL_c, pL_n, pL_r, kc22, kc25, kc26, kc33, kc34, kn25, kn26, kr22_2, kr22_3, kr25_2, kr26_0, e3, e4, vq3, cl0, cl2]
    all_goals (try exact Iff.rfl)

theorem pcs10 {A : Nat → Nat} {h : MH} {t u : QT} {rc : Nat → Int64} {n M : Nat} {Q : MR → MH → Prop} (vk : K A h) (vcn : Cn A h) (m1 : t ∈ QS1) (m2 : u ∈ QS0) (e1 : ¬ t.2.2.2.2.1 - t.2.2.2.1 = 0) (e2 : ¬ u.2.1 - u.1 = 0) (hn : (Int32.ofNat n < Int32.ofNat M) = True) : Ok 73 37 [.ref (A 0), .int 1, .int 0, .ref (A 6), .ref (A 5), .int (Int32.ofNat M), .int (Int32.ofNat n)] [] (cW (cW (p_L h (A 3) (rc)) (A 6) (A 10) (A 11) t) (A 5) (A 8) (A 9) u) 1 6 Q ↔ Ok 73 37 [.ref (A 0), .int 1, .int 0, .ref (A 6), .ref (A 5), .int (Int32.ofNat M), .int (Int32.ofNat (n + 1))] [] (cW (cW (p_L h (A 3) (fun x => if x = (1 + u.1).toNatClampNeg then rc (6 + t.2.2.2.1).toNatClampNeg else rc x)) (A 6) (A 10) (A 11) (seF 1 3 (goF t))) (A 5) (A 8) (A 9) (seF 1 5 (ciF u))) 1 6 Q := by
  have vk0 := vk
  have vcn0 := vcn
  (refine K_el vk0 ?_; intros hA kc0 kc1 kc2 kc3 kc4 kc5 kc6 kc7 kc8 kc9 kc10 kc11 kc12 kc13 kc14 kc15 kc16 kc17 kc18 kc19 kc20 kc21 kc22 kc23 kc24 kc25 kc26 kc27 kc28 kc29 kc30 kc31 kc32 kc33 kc34 kc35 kc36 kc37 kc38 kc39 kz kt kn3 kn4 kn18 kn21 kn23 kn24 kn25 kn26 kn27 kn29 kn30 kr0_0 kr0_1 kr0_2 kr0_3 kr0_4 kr0_5 kr0_7 kr0_8 kr0_9 kr0_10 kr1_0 kr2_0 kr5_0 kr5_1 kr6_0 kr6_1 kr7_0 kr7_1 kr8_0 kr9_0 kr10_0 kr11_0 kr12_0 kr13_0 kr14_0 kr15_0 kr16_0 kr17_0 kr19_0 kr19_1 kr22_0 kr22_1 kr22_2 kr22_3 kr22_4 kr22_5 kr22_7 kr22_8 kr25_0 kr25_1 kr25_2 kr26_0 kr26_1 kr26_2 kr29_0 kr29_1)
  (refine Cn_el vcn0 ?_; intros ki5_2 ki6_2 ki7_2 ki8_1 ki8_2 ki8_3 ki9_1 ki9_2 ki9_3 ki10_1 ki10_2 ki10_3 ki11_1 ki11_2 ki11_3 ki12_1 ki12_2 ki12_3 ki13_1 ki13_2 ki13_3 ki14_1 ki14_2 ki14_3 ki28_0 ki28_1 ki31_0 ki31_1 ki32_0 ki32_1 ki33_0 ki33_1 ki34_0 ki34_1 ki35_0 ki35_1 ki36_0 ki36_1)
  have hAe : ∀ i j, i < 40 → j < 40 → (A i = A j ↔ i = j) := hA
  obtain ⟨i1, i2, hj, hq1⟩ := (qO_1 _ m1).resolve_left e1
  obtain ⟨i3, i4, hk, hq2⟩ := (qI_0 _ m2).resolve_left e2
  have hn1 : Int32.ofNat n + 1 = Int32.ofNat (n + 1) := n_add n 1
  have nq : ¬ A 10 = A 11 := fun z => absurd ((hAe 10 11 (by decide) (by decide)).mp z) (by decide)
  have nq2 : ¬ A 8 = A 9 := fun z => absurd ((hAe 8 9 (by decide) (by decide)).mp z) (by decide)
  rw [o73_37]
  simp only [o73_39, o73_41, o73_44, o73_46, o73_49, o73_52, o73_54, o73_55, o73_58, o73_61, o73_64, c_X1_hasNoRest (w := A 8) (r := A 9), c_X1_goOut (w := A 10) (r := A 11) (rw := A 1) (cs := A 3) (n := 16) (sz := 3) (ring := 1), c_X1_comeIn (w := A 8) (r := A 9) (rw := A 1) (cs := A 3) (n := 16) (sz := 5) (ring := 1), mcs_0, mcs_r, Kn_v, Kn_0, true_and, not_true_eq_false, not_false_eq_true, false_implies, forall_const, if_true, if_false, Nat.reduceEqDiff, Nat.reduceLeDiff, Nat.reduceAdd, Nat.zero_le, lt_le, Nat.reduceLT, hAe, c_cW, n_cW, r_cW, z_cW, l_cW, i_cW_q2, i_cW_w1, i_cW_w2, i_cW_w3, i_cW_r1, i_cW_r2, (hA_8_5 hA), icw0_j6 hA, icw0_j10 hA, icw0_j11 hA, icw1_j5 hA, icw1_j8 hA, icw1_j9 hA, icx0_0 hA, icx0_1 hA, icx1_3 hA, icx1_4 hA, pL_c, pL_n, pL_r, pL_i, pL_z, pL_l, kc1, kc3, kc5, kc6, kc8, kc9, kc10, kc11, kn3, kr1_0, kr5_0, kr5_1, kr6_0, kr6_1, kr8_0, kr11_0, kz, ki5_2, ki6_2, ki8_1, ki8_2, ki8_3, ki9_2, ki10_2, ki11_1, ki11_2, hn, hn1, e1, e2, i1, i2, hj, i3, i4, hk, cT1_cW0 hA, cT1_cW hA, cT0_cW hA, cWx10 hA, cW_cW, p_l_cW, pL_pl]

theorem pce10 {A : Nat → Nat} {h : MH} {t u : QT} {rc : Nat → Int64} {n M : Nat} {Q : MR → MH → Prop} (vk : K A h) (vcn : Cn A h) (m1 : t ∈ QS1) (m2 : u ∈ QS0) (hs : (Int32.ofNat n < Int32.ofNat M) = False ∨ u.2.1 - u.1 = 0) : Ok 73 37 [.ref (A 0), .int 1, .int 0, .ref (A 6), .ref (A 5), .int (Int32.ofNat M), .int (Int32.ofNat n)] [] (cW (cW (p_L h (A 3) (rc)) (A 6) (A 10) (A 11) t) (A 5) (A 8) (A 9) u) 1 6 Q ↔ Ok 73 67 [.ref (A 0), .int 1, .int 0, .ref (A 6), .ref (A 5), .int (Int32.ofNat M), .int (Int32.ofNat n)] [] (cW (cW (p_L h (A 3) (rc)) (A 6) (A 10) (A 11) t) (A 5) (A 8) (A 9) u) 1 6 Q := by
  have vk0 := vk
  have vcn0 := vcn
  (refine K_el vk0 ?_; intros hA kc0 kc1 kc2 kc3 kc4 kc5 kc6 kc7 kc8 kc9 kc10 kc11 kc12 kc13 kc14 kc15 kc16 kc17 kc18 kc19 kc20 kc21 kc22 kc23 kc24 kc25 kc26 kc27 kc28 kc29 kc30 kc31 kc32 kc33 kc34 kc35 kc36 kc37 kc38 kc39 kz kt kn3 kn4 kn18 kn21 kn23 kn24 kn25 kn26 kn27 kn29 kn30 kr0_0 kr0_1 kr0_2 kr0_3 kr0_4 kr0_5 kr0_7 kr0_8 kr0_9 kr0_10 kr1_0 kr2_0 kr5_0 kr5_1 kr6_0 kr6_1 kr7_0 kr7_1 kr8_0 kr9_0 kr10_0 kr11_0 kr12_0 kr13_0 kr14_0 kr15_0 kr16_0 kr17_0 kr19_0 kr19_1 kr22_0 kr22_1 kr22_2 kr22_3 kr22_4 kr22_5 kr22_7 kr22_8 kr25_0 kr25_1 kr25_2 kr26_0 kr26_1 kr26_2 kr29_0 kr29_1)
  (refine Cn_el vcn0 ?_; intros ki5_2 ki6_2 ki7_2 ki8_1 ki8_2 ki8_3 ki9_1 ki9_2 ki9_3 ki10_1 ki10_2 ki10_3 ki11_1 ki11_2 ki11_3 ki12_1 ki12_2 ki12_3 ki13_1 ki13_2 ki13_3 ki14_1 ki14_2 ki14_3 ki28_0 ki28_1 ki31_0 ki31_1 ki32_0 ki32_1 ki33_0 ki33_1 ki34_0 ki34_1 ki35_0 ki35_1 ki36_0 ki36_1)
  have hAe : ∀ i j, i < 40 → j < 40 → (A i = A j ↔ i = j) := hA
  by_cases hn : Int32.ofNat n < Int32.ofNat M
  · have e2 : u.2.1 - u.1 = 0 := hs.resolve_left (fun z => by rw [z] at hn; exact hn)
    rw [o73_37]
    simp only [o73_39, o73_41, o73_44, o73_46, o73_49, o73_52, o73_54, o73_55, c_X1_hasNoRest (w := A 8) (r := A 9), mcs_0, mcs_r, Kn_v, true_and, and_true, not_true_eq_false, not_false_eq_true, false_implies, forall_const, if_true, Nat.reduceLeDiff, Nat.reduceAdd, Nat.zero_le, i10, lt_le, c_cW, r_cW, icx0_0 hA, icx0_1 hA, pL_c, pL_r, kc5, kc6, kc8, kc9, kr5_0, kr5_1, hn, e2]
    all_goals (try exact Iff.rfl)
  · rw [o73_37]
    simp only [o73_39, o73_41, o73_44, o73_46, mcs_0, true_and, and_true, not_true_eq_false, not_false_eq_true, false_implies, forall_const, Nat.zero_le, lt_le, hn]
    all_goals (try exact Iff.rfl)

theorem pms10 {A : Nat → Nat} {h : MH} {t u : QT} {rm : Nat → Int64} {n : Nat} {Q : MR → MH → Prop} (vk : K A h) (vcn : Cn A h) (m1 : t ∈ QS1) (m2 : u ∈ QS0) (e1 : ¬ t.2.2.2.2.1 - t.2.2.2.1 = 0) (e2 : ¬ u.2.1 - u.1 = 0) : Ok 196 40 [.ref (A 22), .int 1, .int 0, .int (Int32.ofNat n)] [] (mW (mW (p_L h (A 23) (rm)) (A 27) 1 (A 32) (A 35) t) (A 27) 0 (A 31) (A 34) u) 0 0 Q ↔ Ok 196 40 [.ref (A 22), .int 1, .int 0, .int (Int32.ofNat (n + 1))] [] (mW (mW (p_L h (A 23) (fun x => if x = (1 + u.1).toNatClampNeg then rm (6 + t.2.2.2.1).toNatClampNeg else rm x)) (A 27) 1 (A 32) (A 35) (seF 1 3 (goF t))) (A 27) 0 (A 31) (A 34) (seF 1 5 (ciF u))) 0 0 Q := by
  have vk0 := vk
  have vcn0 := vcn
  (refine K_el vk0 ?_; intros hA kc0 kc1 kc2 kc3 kc4 kc5 kc6 kc7 kc8 kc9 kc10 kc11 kc12 kc13 kc14 kc15 kc16 kc17 kc18 kc19 kc20 kc21 kc22 kc23 kc24 kc25 kc26 kc27 kc28 kc29 kc30 kc31 kc32 kc33 kc34 kc35 kc36 kc37 kc38 kc39 kz kt kn3 kn4 kn18 kn21 kn23 kn24 kn25 kn26 kn27 kn29 kn30 kr0_0 kr0_1 kr0_2 kr0_3 kr0_4 kr0_5 kr0_7 kr0_8 kr0_9 kr0_10 kr1_0 kr2_0 kr5_0 kr5_1 kr6_0 kr6_1 kr7_0 kr7_1 kr8_0 kr9_0 kr10_0 kr11_0 kr12_0 kr13_0 kr14_0 kr15_0 kr16_0 kr17_0 kr19_0 kr19_1 kr22_0 kr22_1 kr22_2 kr22_3 kr22_4 kr22_5 kr22_7 kr22_8 kr25_0 kr25_1 kr25_2 kr26_0 kr26_1 kr26_2 kr29_0 kr29_1)
  (refine Cn_el vcn0 ?_; intros ki5_2 ki6_2 ki7_2 ki8_1 ki8_2 ki8_3 ki9_1 ki9_2 ki9_3 ki10_1 ki10_2 ki10_3 ki11_1 ki11_2 ki11_3 ki12_1 ki12_2 ki12_3 ki13_1 ki13_2 ki13_3 ki14_1 ki14_2 ki14_3 ki28_0 ki28_1 ki31_0 ki31_1 ki32_0 ki32_1 ki33_0 ki33_1 ki34_0 ki34_1 ki35_0 ki35_1 ki36_0 ki36_1)
  have hAe : ∀ i j, i < 40 → j < 40 → (A i = A j ↔ i = j) := hA
  obtain ⟨i1, i2, hj, hq1⟩ := (qO_1 _ m1).resolve_left e1
  obtain ⟨i3, i4, hk, hq2⟩ := (qI_0 _ m2).resolve_left e2
  have ar1 : arok 1 t.2.2.2.2.2.2 := fun z => absurd (by decide) z
  have ar0 : arok 0 u.2.2.2.2.2.2 := fun z => absurd (by decide) z
  have e3 : (0 < t.2.2.2.2.1 - t.2.2.2.1) = True := eq_true ((qN_1 _ m1).2.1 e1).1
  have e4 : (0 < u.2.1 - u.1) = True := eq_true ((qN_0 _ m2).2.2.2.2.2 e2)
  have hj2 := hj.2.2
  have hk2 := hk.2.2
  have hn1 : Int32.ofNat n + 1 = Int32.ofNat (n + 1) := n_add n 1
  rw [o196_40]
  simp only [o196_41, o196_44, o196_45, o196_46, o196_49, o196_52, o196_53, o196_56, o196_57, o196_58, o196_61, o196_64, o196_65, o196_66, o196_67, o196_68, o196_71, o196_74, o196_77, c_X7_rests, c_X8_goOut (x2 := A 25) (x3 := A 26) (a := A 27) (w := A 32) (r := A 35) (lr := A 23) (sz := 3), c_X8_comeIn (x2 := A 25) (x3 := A 26) (a := A 27) (w := A 31) (r := A 34) (lr := A 23) (sz := 5), mcs_0, mcs_i, mcs_r, Kn_v, Kn_0, mrf_some, true_and, not_true_eq_false, not_false_eq_true, false_implies, forall_const, if_true, and_self, Nat.reduceEqDiff, Nat.reduceLeDiff, Nat.reduceAdd, Nat.zero_le, lt_le, Int32.reduceLT, cl0, cl1, Nat.reduceLT, hAe, c_mW, n_mW, r_mW, z_mW, l_mW, i_mW_w0, i_mW_w1, i_mW_r0, i_mW_r1, imw1_j31 hA, imw1_j34 hA, imw0_j32 hA, imw0_j35 hA, (hA_32_27 hA), (hA_35_27 hA), (hA_31_27 hA), (hA_34_27 hA), imw0_j32 hA, imw0_j35 hA, imw1_j31 hA, imw1_j34 hA, imx0_0 hA, imx0_1 hA, imx1_3 hA, imx1_4 hA, imx1_6 hA, imx0_6 hA, i27_mW0 hA (k := 1) (by decide), pL_c, pL_n, pL_r, pL_i, pL_z, pL_l, kc22, kc23, kc25, kc26, kc27, kc31, kc32, kc34, kc35, kn23, kn25, kn26, kn27, kr22_0, kr22_2, kr22_3, kr22_4, kr25_0, kr25_1, kr26_0, kr26_1, kz, ki31_0, ki31_1, ki32_1, ki34_1, ki35_0, ki35_1, ar1, ar0, vq3, cl0, cl1, Int32.reduceLT, hn1, e3, e4, hj2, hk2, mT1_mW0 hA, mT1_mW hA, mT0_mW hA, mWx10 hA, mW_mW, p_l_mW, pL_pl]

theorem pme10 {A : Nat → Nat} {h : MH} {t u : QT} {rm : Nat → Int64} {n : Nat} {Q : MR → MH → Prop} (vk : K A h) (vcn : Cn A h) (m1 : t ∈ QS1) (m2 : u ∈ QS0) (hs : t.2.2.2.2.1 - t.2.2.2.1 = 0 ∨ u.2.1 - u.1 = 0) : Ok 196 40 [.ref (A 22), .int 1, .int 0, .int (Int32.ofNat n)] [] (mW (mW (p_L h (A 23) (rm)) (A 27) 1 (A 32) (A 35) t) (A 27) 0 (A 31) (A 34) u) 0 0 Q ↔ Ok 196 80 [.ref (A 22), .int 1, .int 0, .int (Int32.ofNat n)] [] (mW (mW (p_L h (A 23) (rm)) (A 27) 1 (A 32) (A 35) t) (A 27) 0 (A 31) (A 34) u) 0 0 Q := by
  have vk0 := vk
  have vcn0 := vcn
  (refine K_el vk0 ?_; intros hA kc0 kc1 kc2 kc3 kc4 kc5 kc6 kc7 kc8 kc9 kc10 kc11 kc12 kc13 kc14 kc15 kc16 kc17 kc18 kc19 kc20 kc21 kc22 kc23 kc24 kc25 kc26 kc27 kc28 kc29 kc30 kc31 kc32 kc33 kc34 kc35 kc36 kc37 kc38 kc39 kz kt kn3 kn4 kn18 kn21 kn23 kn24 kn25 kn26 kn27 kn29 kn30 kr0_0 kr0_1 kr0_2 kr0_3 kr0_4 kr0_5 kr0_7 kr0_8 kr0_9 kr0_10 kr1_0 kr2_0 kr5_0 kr5_1 kr6_0 kr6_1 kr7_0 kr7_1 kr8_0 kr9_0 kr10_0 kr11_0 kr12_0 kr13_0 kr14_0 kr15_0 kr16_0 kr17_0 kr19_0 kr19_1 kr22_0 kr22_1 kr22_2 kr22_3 kr22_4 kr22_5 kr22_7 kr22_8 kr25_0 kr25_1 kr25_2 kr26_0 kr26_1 kr26_2 kr29_0 kr29_1)
  (refine Cn_el vcn0 ?_; intros ki5_2 ki6_2 ki7_2 ki8_1 ki8_2 ki8_3 ki9_1 ki9_2 ki9_3 ki10_1 ki10_2 ki10_3 ki11_1 ki11_2 ki11_3 ki12_1 ki12_2 ki12_3 ki13_1 ki13_2 ki13_3 ki14_1 ki14_2 ki14_3 ki28_0 ki28_1 ki31_0 ki31_1 ki32_0 ki32_1 ki33_0 ki33_1 ki34_0 ki34_1 ki35_0 ki35_1 ki36_0 ki36_1)
  have hAe : ∀ i j, i < 40 → j < 40 → (A i = A j ↔ i = j) := hA
  by_cases e1 : t.2.2.2.2.1 - t.2.2.2.1 = 0
  · have e3 : (0 < t.2.2.2.2.1 - t.2.2.2.1) = False := eq_false ((qN_1 _ m1).1 e1).2
    rw [o196_40]
    simp only [o196_41, o196_44, o196_45, o196_46, o196_49, o196_52, o196_53, o196_56, o196_57, o196_58, o196_61, o196_64, o196_65, o196_66, o196_67, o196_68, c_X7_rests, mcs_0, mcs_i, mcs_r, Kn_v, mrf_some, true_and, and_true, not_true_eq_false, not_false_eq_true, false_implies, forall_const, and_self, Nat.reduceLeDiff, Nat.reduceAdd, Nat.zero_le, lt_le, Classical.not_not, cl0, cl1, c_mW, n_mW, r_mW, imw0_j35 hA, imw0_j35 hA, imx0_0 hA, imx0_1 hA, imx1_3 hA, imx1_4 hA, pL_c, pL_n, pL_r, kc22, kc25, kc26, kc31, kc35, kn25, kn26, kr22_2, kr22_3, kr25_0, kr26_1, e3, vq3, cl0, cl1]
    all_goals (try exact Iff.rfl)
  · have e3 : (0 < t.2.2.2.2.1 - t.2.2.2.1) = True := eq_true ((qN_1 _ m1).2.1 e1).1
    have e4 : (0 < u.2.1 - u.1) = False := eq_false ((qN_0 _ m2).2.2.2.2.1 (hs.resolve_left e1))
    rw [o196_40]
    simp only [o196_41, o196_44, o196_45, o196_46, o196_49, o196_52, o196_53, o196_56, o196_57, o196_58, o196_61, o196_64, o196_65, o196_66, o196_67, o196_68, c_X7_rests, mcs_0, mcs_i, mcs_r, Kn_v, mrf_some, true_and, and_true, not_true_eq_false, not_false_eq_true, false_implies, forall_const, and_self, Nat.reduceLeDiff, Nat.reduceAdd, Nat.zero_le, lt_le, cl0, cl1, c_mW, n_mW, r_mW, imw0_j35 hA, imw0_j35 hA, imx0_0 hA, imx0_1 hA, imx1_3 hA, imx1_4 hA, pL_c, pL_n, pL_r, kc22, kc25, kc26, kc31, kc35, kn25, kn26, kr22_2, kr22_3, kr25_0, kr26_1, e3, e4, vq3, cl0, cl1]
    all_goals (try exact Iff.rfl)

theorem pcs12 {A : Nat → Nat} {h : MH} {t u : QT} {rc : Nat → Int64} {n M : Nat} {Q : MR → MH → Prop} (vk : K A h) (vcn : Cn A h) (m1 : t ∈ QS1) (m2 : u ∈ QS2) (e1 : ¬ t.2.2.2.2.1 - t.2.2.2.1 = 0) (e2 : ¬ u.2.1 - u.1 = 0) (hn : (Int32.ofNat n < Int32.ofNat M) = True) : Ok 73 37 [.ref (A 0), .int 1, .int 2, .ref (A 6), .ref (A 7), .int (Int32.ofNat M), .int (Int32.ofNat n)] [] (cW (cW (p_L h (A 3) (rc)) (A 6) (A 10) (A 11) t) (A 7) (A 12) (A 13) u) 1 6 Q ↔ Ok 73 37 [.ref (A 0), .int 1, .int 2, .ref (A 6), .ref (A 7), .int (Int32.ofNat M), .int (Int32.ofNat (n + 1))] [] (cW (cW (p_L h (A 3) (fun x => if x = (9 + u.1).toNatClampNeg then rc (6 + t.2.2.2.1).toNatClampNeg else rc x)) (A 6) (A 10) (A 11) (seF 1 3 (goF t))) (A 7) (A 12) (A 13) (seF 0 6 (ciF u))) 1 6 Q := by
  have vk0 := vk
  have vcn0 := vcn
  (refine K_el vk0 ?_; intros hA kc0 kc1 kc2 kc3 kc4 kc5 kc6 kc7 kc8 kc9 kc10 kc11 kc12 kc13 kc14 kc15 kc16 kc17 kc18 kc19 kc20 kc21 kc22 kc23 kc24 kc25 kc26 kc27 kc28 kc29 kc30 kc31 kc32 kc33 kc34 kc35 kc36 kc37 kc38 kc39 kz kt kn3 kn4 kn18 kn21 kn23 kn24 kn25 kn26 kn27 kn29 kn30 kr0_0 kr0_1 kr0_2 kr0_3 kr0_4 kr0_5 kr0_7 kr0_8 kr0_9 kr0_10 kr1_0 kr2_0 kr5_0 kr5_1 kr6_0 kr6_1 kr7_0 kr7_1 kr8_0 kr9_0 kr10_0 kr11_0 kr12_0 kr13_0 kr14_0 kr15_0 kr16_0 kr17_0 kr19_0 kr19_1 kr22_0 kr22_1 kr22_2 kr22_3 kr22_4 kr22_5 kr22_7 kr22_8 kr25_0 kr25_1 kr25_2 kr26_0 kr26_1 kr26_2 kr29_0 kr29_1)
  (refine Cn_el vcn0 ?_; intros ki5_2 ki6_2 ki7_2 ki8_1 ki8_2 ki8_3 ki9_1 ki9_2 ki9_3 ki10_1 ki10_2 ki10_3 ki11_1 ki11_2 ki11_3 ki12_1 ki12_2 ki12_3 ki13_1 ki13_2 ki13_3 ki14_1 ki14_2 ki14_3 ki28_0 ki28_1 ki31_0 ki31_1 ki32_0 ki32_1 ki33_0 ki33_1 ki34_0 ki34_1 ki35_0 ki35_1 ki36_0 ki36_1)
  have hAe : ∀ i j, i < 40 → j < 40 → (A i = A j ↔ i = j) := hA
  obtain ⟨i1, i2, hj, hq1⟩ := (qO_1 _ m1).resolve_left e1
  obtain ⟨i3, i4, hk, hq2⟩ := (qI_2 _ m2).resolve_left e2
  have hn1 : Int32.ofNat n + 1 = Int32.ofNat (n + 1) := n_add n 1
  have nq : ¬ A 10 = A 11 := fun z => absurd ((hAe 10 11 (by decide) (by decide)).mp z) (by decide)
  have nq2 : ¬ A 12 = A 13 := fun z => absurd ((hAe 12 13 (by decide) (by decide)).mp z) (by decide)
  rw [o73_37]
  simp only [o73_39, o73_41, o73_44, o73_46, o73_49, o73_52, o73_54, o73_55, o73_58, o73_61, o73_64, c_X1_hasNoRest (w := A 12) (r := A 13), c_X1_goOut (w := A 10) (r := A 11) (rw := A 1) (cs := A 3) (n := 16) (sz := 3) (ring := 1), c_X1_comeIn (w := A 12) (r := A 13) (rw := A 1) (cs := A 3) (n := 16) (sz := 6) (ring := 0), mcs_0, mcs_r, Kn_v, Kn_0, true_and, not_true_eq_false, not_false_eq_true, false_implies, forall_const, if_true, if_false, Nat.reduceEqDiff, Nat.reduceLeDiff, Nat.reduceAdd, Nat.zero_le, lt_le, Nat.reduceLT, hAe, c_cW, n_cW, r_cW, z_cW, l_cW, i_cW_q2, i_cW_w1, i_cW_w2, i_cW_w3, i_cW_r1, i_cW_r2, (hA_12_7 hA), icw2_j6 hA, icw2_j10 hA, icw2_j11 hA, icw1_j7 hA, icw1_j12 hA, icw1_j13 hA, icx2_0 hA, icx2_1 hA, icx1_3 hA, icx1_4 hA, pL_c, pL_n, pL_r, pL_i, pL_z, pL_l, kc1, kc3, kc6, kc7, kc10, kc11, kc12, kc13, kn3, kr1_0, kr6_0, kr6_1, kr7_0, kr7_1, kr11_0, kr12_0, kz, ki6_2, ki7_2, ki10_2, ki11_1, ki11_2, ki12_1, ki12_2, ki12_3, ki13_2, hn, hn1, e1, e2, i1, i2, hj, i3, i4, hk, cT1_cW2 hA, cT1_cW hA, cT2_cW hA, cWx12 hA, cW_cW, p_l_cW, pL_pl]

theorem pce12 {A : Nat → Nat} {h : MH} {t u : QT} {rc : Nat → Int64} {n M : Nat} {Q : MR → MH → Prop} (vk : K A h) (vcn : Cn A h) (m1 : t ∈ QS1) (m2 : u ∈ QS2) (hs : (Int32.ofNat n < Int32.ofNat M) = False ∨ u.2.1 - u.1 = 0) : Ok 73 37 [.ref (A 0), .int 1, .int 2, .ref (A 6), .ref (A 7), .int (Int32.ofNat M), .int (Int32.ofNat n)] [] (cW (cW (p_L h (A 3) (rc)) (A 6) (A 10) (A 11) t) (A 7) (A 12) (A 13) u) 1 6 Q ↔ Ok 73 67 [.ref (A 0), .int 1, .int 2, .ref (A 6), .ref (A 7), .int (Int32.ofNat M), .int (Int32.ofNat n)] [] (cW (cW (p_L h (A 3) (rc)) (A 6) (A 10) (A 11) t) (A 7) (A 12) (A 13) u) 1 6 Q := by
  have vk0 := vk
  have vcn0 := vcn
  (refine K_el vk0 ?_; intros hA kc0 kc1 kc2 kc3 kc4 kc5 kc6 kc7 kc8 kc9 kc10 kc11 kc12 kc13 kc14 kc15 kc16 kc17 kc18 kc19 kc20 kc21 kc22 kc23 kc24 kc25 kc26 kc27 kc28 kc29 kc30 kc31 kc32 kc33 kc34 kc35 kc36 kc37 kc38 kc39 kz kt kn3 kn4 kn18 kn21 kn23 kn24 kn25 kn26 kn27 kn29 kn30 kr0_0 kr0_1 kr0_2 kr0_3 kr0_4 kr0_5 kr0_7 kr0_8 kr0_9 kr0_10 kr1_0 kr2_0 kr5_0 kr5_1 kr6_0 kr6_1 kr7_0 kr7_1 kr8_0 kr9_0 kr10_0 kr11_0 kr12_0 kr13_0 kr14_0 kr15_0 kr16_0 kr17_0 kr19_0 kr19_1 kr22_0 kr22_1 kr22_2 kr22_3 kr22_4 kr22_5 kr22_7 kr22_8 kr25_0 kr25_1 kr25_2 kr26_0 kr26_1 kr26_2 kr29_0 kr29_1)
  (refine Cn_el vcn0 ?_; intros ki5_2 ki6_2 ki7_2 ki8_1 ki8_2 ki8_3 ki9_1 ki9_2 ki9_3 ki10_1 ki10_2 ki10_3 ki11_1 ki11_2 ki11_3 ki12_1 ki12_2 ki12_3 ki13_1 ki13_2 ki13_3 ki14_1 ki14_2 ki14_3 ki28_0 ki28_1 ki31_0 ki31_1 ki32_0 ki32_1 ki33_0 ki33_1 ki34_0 ki34_1 ki35_0 ki35_1 ki36_0 ki36_1)
  have hAe : ∀ i j, i < 40 → j < 40 → (A i = A j ↔ i = j) := hA
  by_cases hn : Int32.ofNat n < Int32.ofNat M
  · have e2 : u.2.1 - u.1 = 0 := hs.resolve_left (fun z => by rw [z] at hn; exact hn)
    rw [o73_37]
    simp only [o73_39, o73_41, o73_44, o73_46, o73_49, o73_52, o73_54, o73_55, c_X1_hasNoRest (w := A 12) (r := A 13), mcs_0, mcs_r, Kn_v, true_and, and_true, not_true_eq_false, not_false_eq_true, false_implies, forall_const, if_true, Nat.reduceLeDiff, Nat.reduceAdd, Nat.zero_le, i10, lt_le, c_cW, r_cW, icx2_0 hA, icx2_1 hA, pL_c, pL_r, kc6, kc7, kc12, kc13, kr7_0, kr7_1, hn, e2]
    all_goals (try exact Iff.rfl)
  · rw [o73_37]
    simp only [o73_39, o73_41, o73_44, o73_46, mcs_0, true_and, and_true, not_true_eq_false, not_false_eq_true, false_implies, forall_const, Nat.zero_le, lt_le, hn]
    all_goals (try exact Iff.rfl)

theorem pms12 {A : Nat → Nat} {h : MH} {t u : QT} {rm : Nat → Int64} {n : Nat} {Q : MR → MH → Prop} (vk : K A h) (vcn : Cn A h) (m1 : t ∈ QS1) (m2 : u ∈ QS2) (e1 : ¬ t.2.2.2.2.1 - t.2.2.2.1 = 0) (e2 : ¬ u.2.1 - u.1 = 0) : Ok 196 40 [.ref (A 22), .int 1, .int 2, .int (Int32.ofNat n)] [] (mW (mW (p_L h (A 23) (rm)) (A 27) 1 (A 32) (A 35) t) (A 27) 2 (A 33) (A 36) u) 0 0 Q ↔ Ok 196 40 [.ref (A 22), .int 1, .int 2, .int (Int32.ofNat (n + 1))] [] (mW (mW (p_L h (A 23) (fun x => if x = (9 + u.1).toNatClampNeg then rm (6 + t.2.2.2.1).toNatClampNeg else rm x)) (A 27) 1 (A 32) (A 35) (seF 1 3 (goF t))) (A 27) 2 (A 33) (A 36) (seF 0 6 (ciF u))) 0 0 Q := by
  have vk0 := vk
  have vcn0 := vcn
  (refine K_el vk0 ?_; intros hA kc0 kc1 kc2 kc3 kc4 kc5 kc6 kc7 kc8 kc9 kc10 kc11 kc12 kc13 kc14 kc15 kc16 kc17 kc18 kc19 kc20 kc21 kc22 kc23 kc24 kc25 kc26 kc27 kc28 kc29 kc30 kc31 kc32 kc33 kc34 kc35 kc36 kc37 kc38 kc39 kz kt kn3 kn4 kn18 kn21 kn23 kn24 kn25 kn26 kn27 kn29 kn30 kr0_0 kr0_1 kr0_2 kr0_3 kr0_4 kr0_5 kr0_7 kr0_8 kr0_9 kr0_10 kr1_0 kr2_0 kr5_0 kr5_1 kr6_0 kr6_1 kr7_0 kr7_1 kr8_0 kr9_0 kr10_0 kr11_0 kr12_0 kr13_0 kr14_0 kr15_0 kr16_0 kr17_0 kr19_0 kr19_1 kr22_0 kr22_1 kr22_2 kr22_3 kr22_4 kr22_5 kr22_7 kr22_8 kr25_0 kr25_1 kr25_2 kr26_0 kr26_1 kr26_2 kr29_0 kr29_1)
  (refine Cn_el vcn0 ?_; intros ki5_2 ki6_2 ki7_2 ki8_1 ki8_2 ki8_3 ki9_1 ki9_2 ki9_3 ki10_1 ki10_2 ki10_3 ki11_1 ki11_2 ki11_3 ki12_1 ki12_2 ki12_3 ki13_1 ki13_2 ki13_3 ki14_1 ki14_2 ki14_3 ki28_0 ki28_1 ki31_0 ki31_1 ki32_0 ki32_1 ki33_0 ki33_1 ki34_0 ki34_1 ki35_0 ki35_1 ki36_0 ki36_1)
  have hAe : ∀ i j, i < 40 → j < 40 → (A i = A j ↔ i = j) := hA
  obtain ⟨i1, i2, hj, hq1⟩ := (qO_1 _ m1).resolve_left e1
  obtain ⟨i3, i4, hk, hq2⟩ := (qI_2 _ m2).resolve_left e2
  have ar1 : arok 1 t.2.2.2.2.2.2 := fun z => absurd (by decide) z
  have ar2 : arok 2 u.2.2.2.2.2.2 := fun _ => (qA_2 _ m2).2.1
  have e3 : (0 < t.2.2.2.2.1 - t.2.2.2.1) = True := eq_true ((qN_1 _ m1).2.1 e1).1
  have e4 : (0 < u.2.1 - u.1) = True := eq_true ((qN_2 _ m2).2.2.2.2.2 e2)
  have hj2 := hj.2.2
  have hk2 := hk.2.2
  have hn1 : Int32.ofNat n + 1 = Int32.ofNat (n + 1) := n_add n 1
  rw [o196_40]
  simp only [o196_41, o196_44, o196_45, o196_46, o196_49, o196_52, o196_53, o196_56, o196_57, o196_58, o196_61, o196_64, o196_65, o196_66, o196_67, o196_68, o196_71, o196_74, o196_77, c_X7_rests, c_X8_goOut (x2 := A 25) (x3 := A 26) (a := A 27) (w := A 32) (r := A 35) (lr := A 23) (sz := 3), c_X8_comeIn (x2 := A 25) (x3 := A 26) (a := A 27) (w := A 33) (r := A 36) (lr := A 23) (sz := 6), mcs_0, mcs_i, mcs_r, Kn_v, Kn_0, mrf_some, true_and, not_true_eq_false, not_false_eq_true, false_implies, forall_const, if_true, if_false, and_self, Nat.reduceEqDiff, Nat.reduceLeDiff, Nat.reduceAdd, Nat.zero_le, lt_le, Int32.reduceLT, cl1, cl2, Nat.reduceLT, hAe, c_mW, n_mW, r_mW, z_mW, l_mW, i_mW_w0, i_mW_w1, i_mW_r0, i_mW_r1, imw1_j33 hA, imw1_j36 hA, imw2_j32 hA, imw2_j35 hA, (hA_32_27 hA), (hA_35_27 hA), (hA_33_27 hA), (hA_36_27 hA), imw2_j32 hA, imw2_j35 hA, imw1_j33 hA, imw1_j36 hA, imx2_0 hA, imx2_1 hA, imx1_3 hA, imx1_4 hA, imx1_6 hA, imx2_6 hA, i27_mW2 hA (k := 1) (by decide), pL_c, pL_n, pL_r, pL_i, pL_z, pL_l, kc22, kc23, kc25, kc26, kc27, kc32, kc33, kc35, kc36, kn23, kn25, kn26, kn27, kr22_0, kr22_2, kr22_3, kr22_4, kr25_1, kr25_2, kr26_1, kr26_2, kz, ki32_1, ki33_0, ki33_1, ki35_0, ki35_1, ki36_1, ar1, ar2, vq3, cl1, cl2, Int32.reduceLT, hn1, e3, e4, hj2, hk2, mT1_mW2 hA, mT1_mW hA, mT2_mW hA, mWx12 hA, mW_mW, p_l_mW, pL_pl]

theorem pme12 {A : Nat → Nat} {h : MH} {t u : QT} {rm : Nat → Int64} {n : Nat} {Q : MR → MH → Prop} (vk : K A h) (vcn : Cn A h) (m1 : t ∈ QS1) (m2 : u ∈ QS2) (hs : t.2.2.2.2.1 - t.2.2.2.1 = 0 ∨ u.2.1 - u.1 = 0) : Ok 196 40 [.ref (A 22), .int 1, .int 2, .int (Int32.ofNat n)] [] (mW (mW (p_L h (A 23) (rm)) (A 27) 1 (A 32) (A 35) t) (A 27) 2 (A 33) (A 36) u) 0 0 Q ↔ Ok 196 80 [.ref (A 22), .int 1, .int 2, .int (Int32.ofNat n)] [] (mW (mW (p_L h (A 23) (rm)) (A 27) 1 (A 32) (A 35) t) (A 27) 2 (A 33) (A 36) u) 0 0 Q := by
  have vk0 := vk
  have vcn0 := vcn
  (refine K_el vk0 ?_; intros hA kc0 kc1 kc2 kc3 kc4 kc5 kc6 kc7 kc8 kc9 kc10 kc11 kc12 kc13 kc14 kc15 kc16 kc17 kc18 kc19 kc20 kc21 kc22 kc23 kc24 kc25 kc26 kc27 kc28 kc29 kc30 kc31 kc32 kc33 kc34 kc35 kc36 kc37 kc38 kc39 kz kt kn3 kn4 kn18 kn21 kn23 kn24 kn25 kn26 kn27 kn29 kn30 kr0_0 kr0_1 kr0_2 kr0_3 kr0_4 kr0_5 kr0_7 kr0_8 kr0_9 kr0_10 kr1_0 kr2_0 kr5_0 kr5_1 kr6_0 kr6_1 kr7_0 kr7_1 kr8_0 kr9_0 kr10_0 kr11_0 kr12_0 kr13_0 kr14_0 kr15_0 kr16_0 kr17_0 kr19_0 kr19_1 kr22_0 kr22_1 kr22_2 kr22_3 kr22_4 kr22_5 kr22_7 kr22_8 kr25_0 kr25_1 kr25_2 kr26_0 kr26_1 kr26_2 kr29_0 kr29_1)
  (refine Cn_el vcn0 ?_; intros ki5_2 ki6_2 ki7_2 ki8_1 ki8_2 ki8_3 ki9_1 ki9_2 ki9_3 ki10_1 ki10_2 ki10_3 ki11_1 ki11_2 ki11_3 ki12_1 ki12_2 ki12_3 ki13_1 ki13_2 ki13_3 ki14_1 ki14_2 ki14_3 ki28_0 ki28_1 ki31_0 ki31_1 ki32_0 ki32_1 ki33_0 ki33_1 ki34_0 ki34_1 ki35_0 ki35_1 ki36_0 ki36_1)
  have hAe : ∀ i j, i < 40 → j < 40 → (A i = A j ↔ i = j) := hA
  by_cases e1 : t.2.2.2.2.1 - t.2.2.2.1 = 0
  · have e3 : (0 < t.2.2.2.2.1 - t.2.2.2.1) = False := eq_false ((qN_1 _ m1).1 e1).2
    rw [o196_40]
    simp only [o196_41, o196_44, o196_45, o196_46, o196_49, o196_52, o196_53, o196_56, o196_57, o196_58, o196_61, o196_64, o196_65, o196_66, o196_67, o196_68, c_X7_rests, mcs_0, mcs_i, mcs_r, Kn_v, mrf_some, true_and, and_true, not_true_eq_false, not_false_eq_true, false_implies, forall_const, and_self, Nat.reduceLeDiff, Nat.reduceAdd, Nat.zero_le, lt_le, Classical.not_not, cl1, cl2, c_mW, n_mW, r_mW, imw2_j35 hA, imw2_j35 hA, imx2_0 hA, imx2_1 hA, imx1_3 hA, imx1_4 hA, pL_c, pL_n, pL_r, kc22, kc25, kc26, kc33, kc35, kn25, kn26, kr22_2, kr22_3, kr25_2, kr26_1, e3, vq3, cl1, cl2]
    all_goals (try exact Iff.rfl)
  · have e3 : (0 < t.2.2.2.2.1 - t.2.2.2.1) = True := eq_true ((qN_1 _ m1).2.1 e1).1
    have e4 : (0 < u.2.1 - u.1) = False := eq_false ((qN_2 _ m2).2.2.2.2.1 (hs.resolve_left e1))
    rw [o196_40]
    simp only [o196_41, o196_44, o196_45, o196_46, o196_49, o196_52, o196_53, o196_56, o196_57, o196_58, o196_61, o196_64, o196_65, o196_66, o196_67, o196_68, c_X7_rests, mcs_0, mcs_i, mcs_r, Kn_v, mrf_some, true_and, and_true, not_true_eq_false, not_false_eq_true, false_implies, forall_const, and_self, Nat.reduceLeDiff, Nat.reduceAdd, Nat.zero_le, lt_le, cl1, cl2, c_mW, n_mW, r_mW, imw2_j35 hA, imw2_j35 hA, imx2_0 hA, imx2_1 hA, imx1_3 hA, imx1_4 hA, pL_c, pL_n, pL_r, kc22, kc25, kc26, kc33, kc35, kn25, kn26, kr22_2, kr22_3, kr25_2, kr26_1, e3, e4, vq3, cl1, cl2]
    all_goals (try exact Iff.rfl)

theorem pcs20 {A : Nat → Nat} {h : MH} {t u : QT} {rc : Nat → Int64} {n M : Nat} {Q : MR → MH → Prop} (vk : K A h) (vcn : Cn A h) (m1 : t ∈ QS2) (m2 : u ∈ QS0) (e1 : ¬ t.2.2.2.2.1 - t.2.2.2.1 = 0) (e2 : ¬ u.2.1 - u.1 = 0) (hn : (Int32.ofNat n < Int32.ofNat M) = True) : Ok 73 37 [.ref (A 0), .int 2, .int 0, .ref (A 7), .ref (A 5), .int (Int32.ofNat M), .int (Int32.ofNat n)] [] (cW (cW (p_L h (A 3) (rc)) (A 7) (A 12) (A 13) t) (A 5) (A 8) (A 9) u) 1 6 Q ↔ Ok 73 37 [.ref (A 0), .int 2, .int 0, .ref (A 7), .ref (A 5), .int (Int32.ofNat M), .int (Int32.ofNat (n + 1))] [] (cW (cW (p_L h (A 3) (fun x => if x = (1 + u.1).toNatClampNeg then rc (9 + t.2.2.2.1).toNatClampNeg else rc x)) (A 7) (A 12) (A 13) (seF 0 6 (goF t))) (A 5) (A 8) (A 9) (seF 1 5 (ciF u))) 1 6 Q := by
  have vk0 := vk
  have vcn0 := vcn
  (refine K_el vk0 ?_; intros hA kc0 kc1 kc2 kc3 kc4 kc5 kc6 kc7 kc8 kc9 kc10 kc11 kc12 kc13 kc14 kc15 kc16 kc17 kc18 kc19 kc20 kc21 kc22 kc23 kc24 kc25 kc26 kc27 kc28 kc29 kc30 kc31 kc32 kc33 kc34 kc35 kc36 kc37 kc38 kc39 kz kt kn3 kn4 kn18 kn21 kn23 kn24 kn25 kn26 kn27 kn29 kn30 kr0_0 kr0_1 kr0_2 kr0_3 kr0_4 kr0_5 kr0_7 kr0_8 kr0_9 kr0_10 kr1_0 kr2_0 kr5_0 kr5_1 kr6_0 kr6_1 kr7_0 kr7_1 kr8_0 kr9_0 kr10_0 kr11_0 kr12_0 kr13_0 kr14_0 kr15_0 kr16_0 kr17_0 kr19_0 kr19_1 kr22_0 kr22_1 kr22_2 kr22_3 kr22_4 kr22_5 kr22_7 kr22_8 kr25_0 kr25_1 kr25_2 kr26_0 kr26_1 kr26_2 kr29_0 kr29_1)
  (refine Cn_el vcn0 ?_; intros ki5_2 ki6_2 ki7_2 ki8_1 ki8_2 ki8_3 ki9_1 ki9_2 ki9_3 ki10_1 ki10_2 ki10_3 ki11_1 ki11_2 ki11_3 ki12_1 ki12_2 ki12_3 ki13_1 ki13_2 ki13_3 ki14_1 ki14_2 ki14_3 ki28_0 ki28_1 ki31_0 ki31_1 ki32_0 ki32_1 ki33_0 ki33_1 ki34_0 ki34_1 ki35_0 ki35_1 ki36_0 ki36_1)
  have hAe : ∀ i j, i < 40 → j < 40 → (A i = A j ↔ i = j) := hA
  obtain ⟨i1, i2, hj, hq1⟩ := (qO_2 _ m1).resolve_left e1
  obtain ⟨i3, i4, hk, hq2⟩ := (qI_0 _ m2).resolve_left e2
  have hn1 : Int32.ofNat n + 1 = Int32.ofNat (n + 1) := n_add n 1
  have nq : ¬ A 12 = A 13 := fun z => absurd ((hAe 12 13 (by decide) (by decide)).mp z) (by decide)
  have nq2 : ¬ A 8 = A 9 := fun z => absurd ((hAe 8 9 (by decide) (by decide)).mp z) (by decide)
  rw [o73_37]
  simp only [o73_39, o73_41, o73_44, o73_46, o73_49, o73_52, o73_54, o73_55, o73_58, o73_61, o73_64, c_X1_hasNoRest (w := A 8) (r := A 9), c_X1_goOut (w := A 12) (r := A 13) (rw := A 1) (cs := A 3) (n := 16) (sz := 6) (ring := 0), c_X1_comeIn (w := A 8) (r := A 9) (rw := A 1) (cs := A 3) (n := 16) (sz := 5) (ring := 1), mcs_0, mcs_r, Kn_v, Kn_0, true_and, not_true_eq_false, not_false_eq_true, false_implies, forall_const, if_true, if_false, Nat.reduceEqDiff, Nat.reduceLeDiff, Nat.reduceAdd, Nat.zero_le, lt_le, Nat.reduceLT, hAe, c_cW, n_cW, r_cW, z_cW, l_cW, i_cW_q2, i_cW_w1, i_cW_w2, i_cW_w3, i_cW_r1, i_cW_r2, (hA_8_5 hA), icw0_j7 hA, icw0_j12 hA, icw0_j13 hA, icw2_j5 hA, icw2_j8 hA, icw2_j9 hA, icx0_0 hA, icx0_1 hA, icx2_3 hA, icx2_4 hA, pL_c, pL_n, pL_r, pL_i, pL_z, pL_l, kc1, kc3, kc5, kc7, kc8, kc9, kc12, kc13, kn3, kr1_0, kr5_0, kr5_1, kr7_0, kr7_1, kr8_0, kr13_0, kz, ki5_2, ki7_2, ki8_1, ki8_2, ki8_3, ki9_2, ki12_2, ki13_1, ki13_2, hn, hn1, e1, e2, i1, i2, hj, i3, i4, hk, cT2_cW0 hA, cT2_cW hA, cT0_cW hA, cWx20 hA, cW_cW, p_l_cW, pL_pl]

theorem pce20 {A : Nat → Nat} {h : MH} {t u : QT} {rc : Nat → Int64} {n M : Nat} {Q : MR → MH → Prop} (vk : K A h) (vcn : Cn A h) (m1 : t ∈ QS2) (m2 : u ∈ QS0) (hs : (Int32.ofNat n < Int32.ofNat M) = False ∨ u.2.1 - u.1 = 0) : Ok 73 37 [.ref (A 0), .int 2, .int 0, .ref (A 7), .ref (A 5), .int (Int32.ofNat M), .int (Int32.ofNat n)] [] (cW (cW (p_L h (A 3) (rc)) (A 7) (A 12) (A 13) t) (A 5) (A 8) (A 9) u) 1 6 Q ↔ Ok 73 67 [.ref (A 0), .int 2, .int 0, .ref (A 7), .ref (A 5), .int (Int32.ofNat M), .int (Int32.ofNat n)] [] (cW (cW (p_L h (A 3) (rc)) (A 7) (A 12) (A 13) t) (A 5) (A 8) (A 9) u) 1 6 Q := by
  have vk0 := vk
  have vcn0 := vcn
  (refine K_el vk0 ?_; intros hA kc0 kc1 kc2 kc3 kc4 kc5 kc6 kc7 kc8 kc9 kc10 kc11 kc12 kc13 kc14 kc15 kc16 kc17 kc18 kc19 kc20 kc21 kc22 kc23 kc24 kc25 kc26 kc27 kc28 kc29 kc30 kc31 kc32 kc33 kc34 kc35 kc36 kc37 kc38 kc39 kz kt kn3 kn4 kn18 kn21 kn23 kn24 kn25 kn26 kn27 kn29 kn30 kr0_0 kr0_1 kr0_2 kr0_3 kr0_4 kr0_5 kr0_7 kr0_8 kr0_9 kr0_10 kr1_0 kr2_0 kr5_0 kr5_1 kr6_0 kr6_1 kr7_0 kr7_1 kr8_0 kr9_0 kr10_0 kr11_0 kr12_0 kr13_0 kr14_0 kr15_0 kr16_0 kr17_0 kr19_0 kr19_1 kr22_0 kr22_1 kr22_2 kr22_3 kr22_4 kr22_5 kr22_7 kr22_8 kr25_0 kr25_1 kr25_2 kr26_0 kr26_1 kr26_2 kr29_0 kr29_1)
  (refine Cn_el vcn0 ?_; intros ki5_2 ki6_2 ki7_2 ki8_1 ki8_2 ki8_3 ki9_1 ki9_2 ki9_3 ki10_1 ki10_2 ki10_3 ki11_1 ki11_2 ki11_3 ki12_1 ki12_2 ki12_3 ki13_1 ki13_2 ki13_3 ki14_1 ki14_2 ki14_3 ki28_0 ki28_1 ki31_0 ki31_1 ki32_0 ki32_1 ki33_0 ki33_1 ki34_0 ki34_1 ki35_0 ki35_1 ki36_0 ki36_1)
  have hAe : ∀ i j, i < 40 → j < 40 → (A i = A j ↔ i = j) := hA
  by_cases hn : Int32.ofNat n < Int32.ofNat M
  · have e2 : u.2.1 - u.1 = 0 := hs.resolve_left (fun z => by rw [z] at hn; exact hn)
    rw [o73_37]
    simp only [o73_39, o73_41, o73_44, o73_46, o73_49, o73_52, o73_54, o73_55, c_X1_hasNoRest (w := A 8) (r := A 9), mcs_0, mcs_r, Kn_v, true_and, and_true, not_true_eq_false, not_false_eq_true, false_implies, forall_const, if_true, Nat.reduceLeDiff, Nat.reduceAdd, Nat.zero_le, i10, lt_le, c_cW, r_cW, icx0_0 hA, icx0_1 hA, pL_c, pL_r, kc5, kc7, kc8, kc9, kr5_0, kr5_1, hn, e2]
    all_goals (try exact Iff.rfl)
  · rw [o73_37]
    simp only [o73_39, o73_41, o73_44, o73_46, mcs_0, true_and, and_true, not_true_eq_false, not_false_eq_true, false_implies, forall_const, Nat.zero_le, lt_le, hn]
    all_goals (try exact Iff.rfl)

theorem pms20 {A : Nat → Nat} {h : MH} {t u : QT} {rm : Nat → Int64} {n : Nat} {Q : MR → MH → Prop} (vk : K A h) (vcn : Cn A h) (m1 : t ∈ QS2) (m2 : u ∈ QS0) (e1 : ¬ t.2.2.2.2.1 - t.2.2.2.1 = 0) (e2 : ¬ u.2.1 - u.1 = 0) : Ok 196 40 [.ref (A 22), .int 2, .int 0, .int (Int32.ofNat n)] [] (mW (mW (p_L h (A 23) (rm)) (A 27) 2 (A 33) (A 36) t) (A 27) 0 (A 31) (A 34) u) 0 0 Q ↔ Ok 196 40 [.ref (A 22), .int 2, .int 0, .int (Int32.ofNat (n + 1))] [] (mW (mW (p_L h (A 23) (fun x => if x = (1 + u.1).toNatClampNeg then rm (9 + t.2.2.2.1).toNatClampNeg else rm x)) (A 27) 2 (A 33) (A 36) (seF 0 6 (goF t))) (A 27) 0 (A 31) (A 34) (seF 1 5 (ciF u))) 0 0 Q := by
  have vk0 := vk
  have vcn0 := vcn
  (refine K_el vk0 ?_; intros hA kc0 kc1 kc2 kc3 kc4 kc5 kc6 kc7 kc8 kc9 kc10 kc11 kc12 kc13 kc14 kc15 kc16 kc17 kc18 kc19 kc20 kc21 kc22 kc23 kc24 kc25 kc26 kc27 kc28 kc29 kc30 kc31 kc32 kc33 kc34 kc35 kc36 kc37 kc38 kc39 kz kt kn3 kn4 kn18 kn21 kn23 kn24 kn25 kn26 kn27 kn29 kn30 kr0_0 kr0_1 kr0_2 kr0_3 kr0_4 kr0_5 kr0_7 kr0_8 kr0_9 kr0_10 kr1_0 kr2_0 kr5_0 kr5_1 kr6_0 kr6_1 kr7_0 kr7_1 kr8_0 kr9_0 kr10_0 kr11_0 kr12_0 kr13_0 kr14_0 kr15_0 kr16_0 kr17_0 kr19_0 kr19_1 kr22_0 kr22_1 kr22_2 kr22_3 kr22_4 kr22_5 kr22_7 kr22_8 kr25_0 kr25_1 kr25_2 kr26_0 kr26_1 kr26_2 kr29_0 kr29_1)
  (refine Cn_el vcn0 ?_; intros ki5_2 ki6_2 ki7_2 ki8_1 ki8_2 ki8_3 ki9_1 ki9_2 ki9_3 ki10_1 ki10_2 ki10_3 ki11_1 ki11_2 ki11_3 ki12_1 ki12_2 ki12_3 ki13_1 ki13_2 ki13_3 ki14_1 ki14_2 ki14_3 ki28_0 ki28_1 ki31_0 ki31_1 ki32_0 ki32_1 ki33_0 ki33_1 ki34_0 ki34_1 ki35_0 ki35_1 ki36_0 ki36_1)
  have hAe : ∀ i j, i < 40 → j < 40 → (A i = A j ↔ i = j) := hA
  obtain ⟨i1, i2, hj, hq1⟩ := (qO_2 _ m1).resolve_left e1
  obtain ⟨i3, i4, hk, hq2⟩ := (qI_0 _ m2).resolve_left e2
  have ar2 : arok 2 t.2.2.2.2.2.2 := fun _ => (qA_2 _ m1).2.1
  have ar0 : arok 0 u.2.2.2.2.2.2 := fun z => absurd (by decide) z
  have e3 : (0 < t.2.2.2.2.1 - t.2.2.2.1) = True := eq_true ((qN_2 _ m1).2.1 e1).1
  have e4 : (0 < u.2.1 - u.1) = True := eq_true ((qN_0 _ m2).2.2.2.2.2 e2)
  have hj2 := hj.2.2
  have hk2 := hk.2.2
  have hn1 : Int32.ofNat n + 1 = Int32.ofNat (n + 1) := n_add n 1
  rw [o196_40]
  simp only [o196_41, o196_44, o196_45, o196_46, o196_49, o196_52, o196_53, o196_56, o196_57, o196_58, o196_61, o196_64, o196_65, o196_66, o196_67, o196_68, o196_71, o196_74, o196_77, c_X7_rests, c_X8_goOut (x2 := A 25) (x3 := A 26) (a := A 27) (w := A 33) (r := A 36) (lr := A 23) (sz := 6), c_X8_comeIn (x2 := A 25) (x3 := A 26) (a := A 27) (w := A 31) (r := A 34) (lr := A 23) (sz := 5), mcs_0, mcs_i, mcs_r, Kn_v, Kn_0, mrf_some, true_and, not_true_eq_false, not_false_eq_true, false_implies, forall_const, if_true, if_false, and_self, Nat.reduceEqDiff, Nat.reduceLeDiff, Nat.reduceAdd, Nat.zero_le, lt_le, Int32.reduceLT, cl0, cl2, Nat.reduceLT, hAe, c_mW, n_mW, r_mW, z_mW, l_mW, i_mW_w0, i_mW_w1, i_mW_r0, i_mW_r1, imw2_j31 hA, imw2_j34 hA, imw0_j33 hA, imw0_j36 hA, (hA_33_27 hA), (hA_36_27 hA), (hA_31_27 hA), (hA_34_27 hA), imw0_j33 hA, imw0_j36 hA, imw2_j31 hA, imw2_j34 hA, imx0_0 hA, imx0_1 hA, imx2_3 hA, imx2_4 hA, imx2_6 hA, imx0_6 hA, i27_mW0 hA (k := 2) (by decide), pL_c, pL_n, pL_r, pL_i, pL_z, pL_l, kc22, kc23, kc25, kc26, kc27, kc31, kc33, kc34, kc36, kn23, kn25, kn26, kn27, kr22_0, kr22_2, kr22_3, kr22_4, kr25_0, kr25_2, kr26_0, kr26_2, kz, ki31_0, ki31_1, ki33_1, ki34_1, ki36_0, ki36_1, ar2, ar0, vq3, cl0, cl2, Int32.reduceLT, hn1, e3, e4, hj2, hk2, mT2_mW0 hA, mT2_mW hA, mT0_mW hA, mWx20 hA, mW_mW, p_l_mW, pL_pl]

theorem pme20 {A : Nat → Nat} {h : MH} {t u : QT} {rm : Nat → Int64} {n : Nat} {Q : MR → MH → Prop} (vk : K A h) (vcn : Cn A h) (m1 : t ∈ QS2) (m2 : u ∈ QS0) (hs : t.2.2.2.2.1 - t.2.2.2.1 = 0 ∨ u.2.1 - u.1 = 0) : Ok 196 40 [.ref (A 22), .int 2, .int 0, .int (Int32.ofNat n)] [] (mW (mW (p_L h (A 23) (rm)) (A 27) 2 (A 33) (A 36) t) (A 27) 0 (A 31) (A 34) u) 0 0 Q ↔ Ok 196 80 [.ref (A 22), .int 2, .int 0, .int (Int32.ofNat n)] [] (mW (mW (p_L h (A 23) (rm)) (A 27) 2 (A 33) (A 36) t) (A 27) 0 (A 31) (A 34) u) 0 0 Q := by
  have vk0 := vk
  have vcn0 := vcn
  (refine K_el vk0 ?_; intros hA kc0 kc1 kc2 kc3 kc4 kc5 kc6 kc7 kc8 kc9 kc10 kc11 kc12 kc13 kc14 kc15 kc16 kc17 kc18 kc19 kc20 kc21 kc22 kc23 kc24 kc25 kc26 kc27 kc28 kc29 kc30 kc31 kc32 kc33 kc34 kc35 kc36 kc37 kc38 kc39 kz kt kn3 kn4 kn18 kn21 kn23 kn24 kn25 kn26 kn27 kn29 kn30 kr0_0 kr0_1 kr0_2 kr0_3 kr0_4 kr0_5 kr0_7 kr0_8 kr0_9 kr0_10 kr1_0 kr2_0 kr5_0 kr5_1 kr6_0 kr6_1 kr7_0 kr7_1 kr8_0 kr9_0 kr10_0 kr11_0 kr12_0 kr13_0 kr14_0 kr15_0 kr16_0 kr17_0 kr19_0 kr19_1 kr22_0 kr22_1 kr22_2 kr22_3 kr22_4 kr22_5 kr22_7 kr22_8 kr25_0 kr25_1 kr25_2 kr26_0 kr26_1 kr26_2 kr29_0 kr29_1)
  (refine Cn_el vcn0 ?_; intros ki5_2 ki6_2 ki7_2 ki8_1 ki8_2 ki8_3 ki9_1 ki9_2 ki9_3 ki10_1 ki10_2 ki10_3 ki11_1 ki11_2 ki11_3 ki12_1 ki12_2 ki12_3 ki13_1 ki13_2 ki13_3 ki14_1 ki14_2 ki14_3 ki28_0 ki28_1 ki31_0 ki31_1 ki32_0 ki32_1 ki33_0 ki33_1 ki34_0 ki34_1 ki35_0 ki35_1 ki36_0 ki36_1)
  have hAe : ∀ i j, i < 40 → j < 40 → (A i = A j ↔ i = j) := hA
  by_cases e1 : t.2.2.2.2.1 - t.2.2.2.1 = 0
  · have e3 : (0 < t.2.2.2.2.1 - t.2.2.2.1) = False := eq_false ((qN_2 _ m1).1 e1).2
    rw [o196_40]
    simp only [o196_41, o196_44, o196_45, o196_46, o196_49, o196_52, o196_53, o196_56, o196_57, o196_58, o196_61, o196_64, o196_65, o196_66, o196_67, o196_68, c_X7_rests, mcs_0, mcs_i, mcs_r, Kn_v, mrf_some, true_and, and_true, not_true_eq_false, not_false_eq_true, false_implies, forall_const, and_self, Nat.reduceLeDiff, Nat.reduceAdd, Nat.zero_le, lt_le, Classical.not_not, cl0, cl2, c_mW, n_mW, r_mW, imw0_j36 hA, imw0_j36 hA, imx0_0 hA, imx0_1 hA, imx2_3 hA, imx2_4 hA, pL_c, pL_n, pL_r, kc22, kc25, kc26, kc31, kc36, kn25, kn26, kr22_2, kr22_3, kr25_0, kr26_2, e3, vq3, cl0, cl2]
    all_goals (try exact Iff.rfl)
  · have e3 : (0 < t.2.2.2.2.1 - t.2.2.2.1) = True := eq_true ((qN_2 _ m1).2.1 e1).1
    have e4 : (0 < u.2.1 - u.1) = False := eq_false ((qN_0 _ m2).2.2.2.2.1 (hs.resolve_left e1))
    rw [o196_40]
    simp only [o196_41, o196_44, o196_45, o196_46, o196_49, o196_52, o196_53, o196_56, o196_57, o196_58, o196_61, o196_64, o196_65, o196_66, o196_67, o196_68, c_X7_rests, mcs_0, mcs_i, mcs_r, Kn_v, mrf_some, true_and, and_true, not_true_eq_false, not_false_eq_true, false_implies, forall_const, and_self, Nat.reduceLeDiff, Nat.reduceAdd, Nat.zero_le, lt_le, cl0, cl2, c_mW, n_mW, r_mW, imw0_j36 hA, imw0_j36 hA, imx0_0 hA, imx0_1 hA, imx2_3 hA, imx2_4 hA, pL_c, pL_n, pL_r, kc22, kc25, kc26, kc31, kc36, kn25, kn26, kr22_2, kr22_3, kr25_0, kr26_2, e3, e4, vq3, cl0, cl2]
    all_goals (try exact Iff.rfl)

theorem pcs21 {A : Nat → Nat} {h : MH} {t u : QT} {rc : Nat → Int64} {n M : Nat} {Q : MR → MH → Prop} (vk : K A h) (vcn : Cn A h) (m1 : t ∈ QS2) (m2 : u ∈ QS1) (e1 : ¬ t.2.2.2.2.1 - t.2.2.2.1 = 0) (e2 : ¬ u.2.1 - u.1 = 0) (hn : (Int32.ofNat n < Int32.ofNat M) = True) : Ok 73 37 [.ref (A 0), .int 2, .int 1, .ref (A 7), .ref (A 6), .int (Int32.ofNat M), .int (Int32.ofNat n)] [] (cW (cW (p_L h (A 3) (rc)) (A 7) (A 12) (A 13) t) (A 6) (A 10) (A 11) u) 1 6 Q ↔ Ok 73 37 [.ref (A 0), .int 2, .int 1, .ref (A 7), .ref (A 6), .int (Int32.ofNat M), .int (Int32.ofNat (n + 1))] [] (cW (cW (p_L h (A 3) (fun x => if x = (6 + u.1).toNatClampNeg then rc (9 + t.2.2.2.1).toNatClampNeg else rc x)) (A 7) (A 12) (A 13) (seF 0 6 (goF t))) (A 6) (A 10) (A 11) (seF 1 3 (ciF u))) 1 6 Q := by
  have vk0 := vk
  have vcn0 := vcn
  (refine K_el vk0 ?_; intros hA kc0 kc1 kc2 kc3 kc4 kc5 kc6 kc7 kc8 kc9 kc10 kc11 kc12 kc13 kc14 kc15 kc16 kc17 kc18 kc19 kc20 kc21 kc22 kc23 kc24 kc25 kc26 kc27 kc28 kc29 kc30 kc31 kc32 kc33 kc34 kc35 kc36 kc37 kc38 kc39 kz kt kn3 kn4 kn18 kn21 kn23 kn24 kn25 kn26 kn27 kn29 kn30 kr0_0 kr0_1 kr0_2 kr0_3 kr0_4 kr0_5 kr0_7 kr0_8 kr0_9 kr0_10 kr1_0 kr2_0 kr5_0 kr5_1 kr6_0 kr6_1 kr7_0 kr7_1 kr8_0 kr9_0 kr10_0 kr11_0 kr12_0 kr13_0 kr14_0 kr15_0 kr16_0 kr17_0 kr19_0 kr19_1 kr22_0 kr22_1 kr22_2 kr22_3 kr22_4 kr22_5 kr22_7 kr22_8 kr25_0 kr25_1 kr25_2 kr26_0 kr26_1 kr26_2 kr29_0 kr29_1)
  (refine Cn_el vcn0 ?_; intros ki5_2 ki6_2 ki7_2 ki8_1 ki8_2 ki8_3 ki9_1 ki9_2 ki9_3 ki10_1 ki10_2 ki10_3 ki11_1 ki11_2 ki11_3 ki12_1 ki12_2 ki12_3 ki13_1 ki13_2 ki13_3 ki14_1 ki14_2 ki14_3 ki28_0 ki28_1 ki31_0 ki31_1 ki32_0 ki32_1 ki33_0 ki33_1 ki34_0 ki34_1 ki35_0 ki35_1 ki36_0 ki36_1)
  have hAe : ∀ i j, i < 40 → j < 40 → (A i = A j ↔ i = j) := hA
  obtain ⟨i1, i2, hj, hq1⟩ := (qO_2 _ m1).resolve_left e1
  obtain ⟨i3, i4, hk, hq2⟩ := (qI_1 _ m2).resolve_left e2
  have hn1 : Int32.ofNat n + 1 = Int32.ofNat (n + 1) := n_add n 1
  have nq : ¬ A 12 = A 13 := fun z => absurd ((hAe 12 13 (by decide) (by decide)).mp z) (by decide)
  have nq2 : ¬ A 10 = A 11 := fun z => absurd ((hAe 10 11 (by decide) (by decide)).mp z) (by decide)
  rw [o73_37]
  simp only [o73_39, o73_41, o73_44, o73_46, o73_49, o73_52, o73_54, o73_55, o73_58, o73_61, o73_64, c_X1_hasNoRest (w := A 10) (r := A 11), c_X1_goOut (w := A 12) (r := A 13) (rw := A 1) (cs := A 3) (n := 16) (sz := 6) (ring := 0), c_X1_comeIn (w := A 10) (r := A 11) (rw := A 1) (cs := A 3) (n := 16) (sz := 3) (ring := 1), mcs_0, mcs_r, Kn_v, Kn_0, true_and, not_true_eq_false, not_false_eq_true, false_implies, forall_const, if_true, if_false, Nat.reduceEqDiff, Nat.reduceLeDiff, Nat.reduceAdd, Nat.zero_le, lt_le, Nat.reduceLT, hAe, c_cW, n_cW, r_cW, z_cW, l_cW, i_cW_q2, i_cW_w1, i_cW_w2, i_cW_w3, i_cW_r1, i_cW_r2, (hA_10_6 hA), icw1_j7 hA, icw1_j12 hA, icw1_j13 hA, icw2_j6 hA, icw2_j10 hA, icw2_j11 hA, icx1_0 hA, icx1_1 hA, icx2_3 hA, icx2_4 hA, pL_c, pL_n, pL_r, pL_i, pL_z, pL_l, kc1, kc3, kc6, kc7, kc10, kc11, kc12, kc13, kn3, kr1_0, kr6_0, kr6_1, kr7_0, kr7_1, kr10_0, kr13_0, kz, ki6_2, ki7_2, ki10_1, ki10_2, ki10_3, ki11_2, ki12_2, ki13_1, ki13_2, hn, hn1, e1, e2, i1, i2, hj, i3, i4, hk, cT2_cW1 hA, cT2_cW hA, cT1_cW hA, cWx21 hA, cW_cW, p_l_cW, pL_pl]

theorem pce21 {A : Nat → Nat} {h : MH} {t u : QT} {rc : Nat → Int64} {n M : Nat} {Q : MR → MH → Prop} (vk : K A h) (vcn : Cn A h) (m1 : t ∈ QS2) (m2 : u ∈ QS1) (hs : (Int32.ofNat n < Int32.ofNat M) = False ∨ u.2.1 - u.1 = 0) : Ok 73 37 [.ref (A 0), .int 2, .int 1, .ref (A 7), .ref (A 6), .int (Int32.ofNat M), .int (Int32.ofNat n)] [] (cW (cW (p_L h (A 3) (rc)) (A 7) (A 12) (A 13) t) (A 6) (A 10) (A 11) u) 1 6 Q ↔ Ok 73 67 [.ref (A 0), .int 2, .int 1, .ref (A 7), .ref (A 6), .int (Int32.ofNat M), .int (Int32.ofNat n)] [] (cW (cW (p_L h (A 3) (rc)) (A 7) (A 12) (A 13) t) (A 6) (A 10) (A 11) u) 1 6 Q := by
  have vk0 := vk
  have vcn0 := vcn
  (refine K_el vk0 ?_; intros hA kc0 kc1 kc2 kc3 kc4 kc5 kc6 kc7 kc8 kc9 kc10 kc11 kc12 kc13 kc14 kc15 kc16 kc17 kc18 kc19 kc20 kc21 kc22 kc23 kc24 kc25 kc26 kc27 kc28 kc29 kc30 kc31 kc32 kc33 kc34 kc35 kc36 kc37 kc38 kc39 kz kt kn3 kn4 kn18 kn21 kn23 kn24 kn25 kn26 kn27 kn29 kn30 kr0_0 kr0_1 kr0_2 kr0_3 kr0_4 kr0_5 kr0_7 kr0_8 kr0_9 kr0_10 kr1_0 kr2_0 kr5_0 kr5_1 kr6_0 kr6_1 kr7_0 kr7_1 kr8_0 kr9_0 kr10_0 kr11_0 kr12_0 kr13_0 kr14_0 kr15_0 kr16_0 kr17_0 kr19_0 kr19_1 kr22_0 kr22_1 kr22_2 kr22_3 kr22_4 kr22_5 kr22_7 kr22_8 kr25_0 kr25_1 kr25_2 kr26_0 kr26_1 kr26_2 kr29_0 kr29_1)
  (refine Cn_el vcn0 ?_; intros ki5_2 ki6_2 ki7_2 ki8_1 ki8_2 ki8_3 ki9_1 ki9_2 ki9_3 ki10_1 ki10_2 ki10_3 ki11_1 ki11_2 ki11_3 ki12_1 ki12_2 ki12_3 ki13_1 ki13_2 ki13_3 ki14_1 ki14_2 ki14_3 ki28_0 ki28_1 ki31_0 ki31_1 ki32_0 ki32_1 ki33_0 ki33_1 ki34_0 ki34_1 ki35_0 ki35_1 ki36_0 ki36_1)
  have hAe : ∀ i j, i < 40 → j < 40 → (A i = A j ↔ i = j) := hA
  by_cases hn : Int32.ofNat n < Int32.ofNat M
  · have e2 : u.2.1 - u.1 = 0 := hs.resolve_left (fun z => by rw [z] at hn; exact hn)
    rw [o73_37]
    simp only [o73_39, o73_41, o73_44, o73_46, o73_49, o73_52, o73_54, o73_55, c_X1_hasNoRest (w := A 10) (r := A 11), mcs_0, mcs_r, Kn_v, true_and, and_true, not_true_eq_false, not_false_eq_true, false_implies, forall_const, if_true, Nat.reduceLeDiff, Nat.reduceAdd, Nat.zero_le, i10, lt_le, c_cW, r_cW, icx1_0 hA, icx1_1 hA, pL_c, pL_r, kc6, kc7, kc10, kc11, kr6_0, kr6_1, hn, e2]
    all_goals (try exact Iff.rfl)
  · rw [o73_37]
    simp only [o73_39, o73_41, o73_44, o73_46, mcs_0, true_and, and_true, not_true_eq_false, not_false_eq_true, false_implies, forall_const, Nat.zero_le, lt_le, hn]
    all_goals (try exact Iff.rfl)

theorem pms21 {A : Nat → Nat} {h : MH} {t u : QT} {rm : Nat → Int64} {n : Nat} {Q : MR → MH → Prop} (vk : K A h) (vcn : Cn A h) (m1 : t ∈ QS2) (m2 : u ∈ QS1) (e1 : ¬ t.2.2.2.2.1 - t.2.2.2.1 = 0) (e2 : ¬ u.2.1 - u.1 = 0) : Ok 196 40 [.ref (A 22), .int 2, .int 1, .int (Int32.ofNat n)] [] (mW (mW (p_L h (A 23) (rm)) (A 27) 2 (A 33) (A 36) t) (A 27) 1 (A 32) (A 35) u) 0 0 Q ↔ Ok 196 40 [.ref (A 22), .int 2, .int 1, .int (Int32.ofNat (n + 1))] [] (mW (mW (p_L h (A 23) (fun x => if x = (6 + u.1).toNatClampNeg then rm (9 + t.2.2.2.1).toNatClampNeg else rm x)) (A 27) 2 (A 33) (A 36) (seF 0 6 (goF t))) (A 27) 1 (A 32) (A 35) (seF 1 3 (ciF u))) 0 0 Q := by
  have vk0 := vk
  have vcn0 := vcn
  (refine K_el vk0 ?_; intros hA kc0 kc1 kc2 kc3 kc4 kc5 kc6 kc7 kc8 kc9 kc10 kc11 kc12 kc13 kc14 kc15 kc16 kc17 kc18 kc19 kc20 kc21 kc22 kc23 kc24 kc25 kc26 kc27 kc28 kc29 kc30 kc31 kc32 kc33 kc34 kc35 kc36 kc37 kc38 kc39 kz kt kn3 kn4 kn18 kn21 kn23 kn24 kn25 kn26 kn27 kn29 kn30 kr0_0 kr0_1 kr0_2 kr0_3 kr0_4 kr0_5 kr0_7 kr0_8 kr0_9 kr0_10 kr1_0 kr2_0 kr5_0 kr5_1 kr6_0 kr6_1 kr7_0 kr7_1 kr8_0 kr9_0 kr10_0 kr11_0 kr12_0 kr13_0 kr14_0 kr15_0 kr16_0 kr17_0 kr19_0 kr19_1 kr22_0 kr22_1 kr22_2 kr22_3 kr22_4 kr22_5 kr22_7 kr22_8 kr25_0 kr25_1 kr25_2 kr26_0 kr26_1 kr26_2 kr29_0 kr29_1)
  (refine Cn_el vcn0 ?_; intros ki5_2 ki6_2 ki7_2 ki8_1 ki8_2 ki8_3 ki9_1 ki9_2 ki9_3 ki10_1 ki10_2 ki10_3 ki11_1 ki11_2 ki11_3 ki12_1 ki12_2 ki12_3 ki13_1 ki13_2 ki13_3 ki14_1 ki14_2 ki14_3 ki28_0 ki28_1 ki31_0 ki31_1 ki32_0 ki32_1 ki33_0 ki33_1 ki34_0 ki34_1 ki35_0 ki35_1 ki36_0 ki36_1)
  have hAe : ∀ i j, i < 40 → j < 40 → (A i = A j ↔ i = j) := hA
  obtain ⟨i1, i2, hj, hq1⟩ := (qO_2 _ m1).resolve_left e1
  obtain ⟨i3, i4, hk, hq2⟩ := (qI_1 _ m2).resolve_left e2
  have ar2 : arok 2 t.2.2.2.2.2.2 := fun _ => (qA_2 _ m1).2.1
  have ar1 : arok 1 u.2.2.2.2.2.2 := fun z => absurd (by decide) z
  have e3 : (0 < t.2.2.2.2.1 - t.2.2.2.1) = True := eq_true ((qN_2 _ m1).2.1 e1).1
  have e4 : (0 < u.2.1 - u.1) = True := eq_true ((qN_1 _ m2).2.2.2.2.2 e2)
  have hj2 := hj.2.2
  have hk2 := hk.2.2
  have hn1 : Int32.ofNat n + 1 = Int32.ofNat (n + 1) := n_add n 1
  rw [o196_40]
  simp only [o196_41, o196_44, o196_45, o196_46, o196_49, o196_52, o196_53, o196_56, o196_57, o196_58, o196_61, o196_64, o196_65, o196_66, o196_67, o196_68, o196_71, o196_74, o196_77, c_X7_rests, c_X8_goOut (x2 := A 25) (x3 := A 26) (a := A 27) (w := A 33) (r := A 36) (lr := A 23) (sz := 6), c_X8_comeIn (x2 := A 25) (x3 := A 26) (a := A 27) (w := A 32) (r := A 35) (lr := A 23) (sz := 3), mcs_0, mcs_i, mcs_r, Kn_v, Kn_0, mrf_some, true_and, not_true_eq_false, not_false_eq_true, false_implies, forall_const, if_true, if_false, and_self, Nat.reduceEqDiff, Nat.reduceLeDiff, Nat.reduceAdd, Nat.zero_le, lt_le, Int32.reduceLT, cl1, cl2, Nat.reduceLT, hAe, c_mW, n_mW, r_mW, z_mW, l_mW, i_mW_w0, i_mW_w1, i_mW_r0, i_mW_r1, imw2_j32 hA, imw2_j35 hA, imw1_j33 hA, imw1_j36 hA, (hA_33_27 hA), (hA_36_27 hA), (hA_32_27 hA), (hA_35_27 hA), imw1_j33 hA, imw1_j36 hA, imw2_j32 hA, imw2_j35 hA, imx1_0 hA, imx1_1 hA, imx2_3 hA, imx2_4 hA, imx2_6 hA, imx1_6 hA, i27_mW1 hA (k := 2) (by decide), pL_c, pL_n, pL_r, pL_i, pL_z, pL_l, kc22, kc23, kc25, kc26, kc27, kc32, kc33, kc35, kc36, kn23, kn25, kn26, kn27, kr22_0, kr22_2, kr22_3, kr22_4, kr25_1, kr25_2, kr26_1, kr26_2, kz, ki32_0, ki32_1, ki33_1, ki35_1, ki36_0, ki36_1, ar2, ar1, vq3, cl1, cl2, Int32.reduceLT, hn1, e3, e4, hj2, hk2, mT2_mW1 hA, mT2_mW hA, mT1_mW hA, mWx21 hA, mW_mW, p_l_mW, pL_pl]

theorem pme21 {A : Nat → Nat} {h : MH} {t u : QT} {rm : Nat → Int64} {n : Nat} {Q : MR → MH → Prop} (vk : K A h) (vcn : Cn A h) (m1 : t ∈ QS2) (m2 : u ∈ QS1) (hs : t.2.2.2.2.1 - t.2.2.2.1 = 0 ∨ u.2.1 - u.1 = 0) : Ok 196 40 [.ref (A 22), .int 2, .int 1, .int (Int32.ofNat n)] [] (mW (mW (p_L h (A 23) (rm)) (A 27) 2 (A 33) (A 36) t) (A 27) 1 (A 32) (A 35) u) 0 0 Q ↔ Ok 196 80 [.ref (A 22), .int 2, .int 1, .int (Int32.ofNat n)] [] (mW (mW (p_L h (A 23) (rm)) (A 27) 2 (A 33) (A 36) t) (A 27) 1 (A 32) (A 35) u) 0 0 Q := by
  have vk0 := vk
  have vcn0 := vcn
  (refine K_el vk0 ?_; intros hA kc0 kc1 kc2 kc3 kc4 kc5 kc6 kc7 kc8 kc9 kc10 kc11 kc12 kc13 kc14 kc15 kc16 kc17 kc18 kc19 kc20 kc21 kc22 kc23 kc24 kc25 kc26 kc27 kc28 kc29 kc30 kc31 kc32 kc33 kc34 kc35 kc36 kc37 kc38 kc39 kz kt kn3 kn4 kn18 kn21 kn23 kn24 kn25 kn26 kn27 kn29 kn30 kr0_0 kr0_1 kr0_2 kr0_3 kr0_4 kr0_5 kr0_7 kr0_8 kr0_9 kr0_10 kr1_0 kr2_0 kr5_0 kr5_1 kr6_0 kr6_1 kr7_0 kr7_1 kr8_0 kr9_0 kr10_0 kr11_0 kr12_0 kr13_0 kr14_0 kr15_0 kr16_0 kr17_0 kr19_0 kr19_1 kr22_0 kr22_1 kr22_2 kr22_3 kr22_4 kr22_5 kr22_7 kr22_8 kr25_0 kr25_1 kr25_2 kr26_0 kr26_1 kr26_2 kr29_0 kr29_1)
  (refine Cn_el vcn0 ?_; intros ki5_2 ki6_2 ki7_2 ki8_1 ki8_2 ki8_3 ki9_1 ki9_2 ki9_3 ki10_1 ki10_2 ki10_3 ki11_1 ki11_2 ki11_3 ki12_1 ki12_2 ki12_3 ki13_1 ki13_2 ki13_3 ki14_1 ki14_2 ki14_3 ki28_0 ki28_1 ki31_0 ki31_1 ki32_0 ki32_1 ki33_0 ki33_1 ki34_0 ki34_1 ki35_0 ki35_1 ki36_0 ki36_1)
  have hAe : ∀ i j, i < 40 → j < 40 → (A i = A j ↔ i = j) := hA
  by_cases e1 : t.2.2.2.2.1 - t.2.2.2.1 = 0
  · have e3 : (0 < t.2.2.2.2.1 - t.2.2.2.1) = False := eq_false ((qN_2 _ m1).1 e1).2
    rw [o196_40]
    simp only [o196_41, o196_44, o196_45, o196_46, o196_49, o196_52, o196_53, o196_56, o196_57, o196_58, o196_61, o196_64, o196_65, o196_66, o196_67, o196_68, c_X7_rests, mcs_0, mcs_i, mcs_r, Kn_v, mrf_some, true_and, and_true, not_true_eq_false, not_false_eq_true, false_implies, forall_const, and_self, Nat.reduceLeDiff, Nat.reduceAdd, Nat.zero_le, lt_le, Classical.not_not, cl1, cl2, c_mW, n_mW, r_mW, imw1_j36 hA, imw1_j36 hA, imx1_0 hA, imx1_1 hA, imx2_3 hA, imx2_4 hA, pL_c, pL_n, pL_r, kc22, kc25, kc26, kc32, kc36, kn25, kn26, kr22_2, kr22_3, kr25_1, kr26_2, e3, vq3, cl1, cl2]
    all_goals (try exact Iff.rfl)
  · have e3 : (0 < t.2.2.2.2.1 - t.2.2.2.1) = True := eq_true ((qN_2 _ m1).2.1 e1).1
    have e4 : (0 < u.2.1 - u.1) = False := eq_false ((qN_1 _ m2).2.2.2.2.1 (hs.resolve_left e1))
    rw [o196_40]
    simp only [o196_41, o196_44, o196_45, o196_46, o196_49, o196_52, o196_53, o196_56, o196_57, o196_58, o196_61, o196_64, o196_65, o196_66, o196_67, o196_68, c_X7_rests, mcs_0, mcs_i, mcs_r, Kn_v, mrf_some, true_and, and_true, not_true_eq_false, not_false_eq_true, false_implies, forall_const, and_self, Nat.reduceLeDiff, Nat.reduceAdd, Nat.zero_le, lt_le, cl1, cl2, c_mW, n_mW, r_mW, imw1_j36 hA, imw1_j36 hA, imx1_0 hA, imx1_1 hA, imx2_3 hA, imx2_4 hA, pL_c, pL_n, pL_r, kc22, kc25, kc26, kc32, kc36, kn25, kn26, kr22_2, kr22_3, kr25_1, kr26_2, e3, e4, vq3, cl1, cl2]
    all_goals (try exact Iff.rfl)
end

section
/-! pass, the op -/
theorem cT_pL {h : MH} {q w r a : Nat} {f : Nat → Int64} : cT (p_L h a f) q w r = cT h q w r := id rfl
theorem mT_pL {h : MH} {q k w r a : Nat} {f : Nat → Int64} : mT (p_L h a f) q k w r = mT h q k w r := id rfl
theorem d_nz {d : Nat} (h : d < 100) (z : ¬ Int32.ofNat d = 0) : ¬ d = 0 := fun e => z (by rw [e]; rfl)
theorem d_z {d : Nat} (h : d < 100) (z : Int32.ofNat d = 0) : d = 0 := by
  have := congrArg Int32.toNatClampNeg z
  rw [n_cl (by omega)] at this
  exact this
theorem cT0_mWo1 {A : Nat → Nat} {h : MH} {t : QT} (hA : inj40 A) : cT (mW (h) (A 27) 1 (A 32) (A 35) t) (A 5) (A 8) (A 9) = cT h (A 5) (A 8) (A 9) := by
  simp only [mW]; repeat rw [cT0_pi hA (by decide)]
theorem pal01 {A : Nat → Nat} {M : Nat} (hM : M < 100) : ∀ (d n : Nat) (t u : QT) (rc rm : Nat → Int64), n + d = M → t ∈ QS0 → u ∈ QS1 → lyF t = Int32.ofNat d → (∀ k, k < 16 → rc k = rm k) →
    ∃ (N : Nat) (t2 u2 : QT) (rc2 rm2 : Nat → Int64), t2 ∈ QS0 ∧ u2 ∈ QS1 ∧ (∀ k, k < 16 → rc2 k = rm2 k) ∧
      (∀ (h : MH) (Q : MR → MH → Prop), K A h → Cn A h → (Ok 73 37 [.ref (A 0), .int 0, .int 1, .ref (A 5), .ref (A 6), .int (Int32.ofNat M), .int (Int32.ofNat n)] [] (cW (cW (p_L h (A 3) (rc)) (A 5) (A 8) (A 9) t) (A 6) (A 10) (A 11) u) 1 6 Q ↔ Ok 73 67 [.ref (A 0), .int 0, .int 1, .ref (A 5), .ref (A 6), .int (Int32.ofNat M), .int (Int32.ofNat N)] [] (cW (cW (p_L h (A 3) (rc2)) (A 5) (A 8) (A 9) t2) (A 6) (A 10) (A 11) u2) 1 6 Q)) ∧ (∀ (m : MH) (Q : MR → MH → Prop), K A m → Cn A m → (Ok 196 40 [.ref (A 22), .int 0, .int 1, .int (Int32.ofNat n)] [] (mW (mW (p_L m (A 23) (rm)) (A 27) 0 (A 31) (A 34) t) (A 27) 1 (A 32) (A 35) u) 0 0 Q ↔ Ok 196 80 [.ref (A 22), .int 0, .int 1, .int (Int32.ofNat N)] [] (mW (mW (p_L m (A 23) (rm2)) (A 27) 0 (A 31) (A 34) t2) (A 27) 1 (A 32) (A 35) u2) 0 0 Q))
  | d, n, t, u, rc, rm, hd, m1, m2, hl, hr => by
    by_cases e2 : u.2.1 - u.1 = 0
    · exact ⟨n, t, u, rc, rm, m1, m2, hr, fun h Q vk vcn => pce01 vk vcn m1 m2 (Or.inr e2), fun m Q vk vcn => pme01 vk vcn m1 m2 (Or.inr e2)⟩
    by_cases e1 : t.2.2.2.2.1 - t.2.2.2.1 = 0
    · have z := ((qN_0 _ m1).1 e1).1
      rw [hl] at z
      have z2 := d_z (by omega) z
      have hn : (Int32.ofNat n < Int32.ofNat M) = False := by rw [n_lt (by omega) (by omega)]; exact eq_false (by omega)
      exact ⟨n, t, u, rc, rm, m1, m2, hr, fun h Q vk vcn => pce01 vk vcn m1 m2 (Or.inl hn), fun m Q vk vcn => pme01 vk vcn m1 m2 (Or.inl e1)⟩
    have z := (qN_0 _ m1).2.1 e1
    obtain ⟨-, z1, z2⟩ := z
    rw [hl] at z1 z2
    have z3 := d_nz (by omega) z2
    obtain ⟨i1, i2, hj, hq1⟩ := (qO_0 _ m1).resolve_left e1
    obtain ⟨i3, i4, hk, hq2⟩ := (qI_1 _ m2).resolve_left e2
    have hn : (Int32.ofNat n < Int32.ofNat M) = True := by rw [n_lt (by omega) (by omega)]; exact eq_true (by omega)
    have z4 : Int32.ofNat d - 1 = Int32.ofNat (d - 1) := n_sub (a := d) (b := 1) (by omega) (by omega)
    obtain ⟨N, t2, u2, rc2, rm2, a1, a2, a3, a4, a5⟩ := pal01 hM (d - 1) (n + 1) (seF 1 5 (goF t)) (seF 1 3 (ciF u)) (fun x => if x = (6 + u.1).toNatClampNeg then rc (1 + t.2.2.2.1).toNatClampNeg else rc x) (fun x => if x = (6 + u.1).toNatClampNeg then rm (1 + t.2.2.2.1).toNatClampNeg else rm x) (by omega) hq1 hq2 (z1.trans z4) (fun k hk2 => by
      show (if _ then _ else _) = (if _ then _ else _)
      by_cases c : k = (6 + u.1).toNatClampNeg
      · rw [if_pos c, if_pos c]; exact hr _ (rdy_lt hj)
      · rw [if_neg c, if_neg c]; exact hr k hk2)
    exact ⟨N, t2, u2, rc2, rm2, a1, a2, a3, fun h Q vk vcn => (pcs01 vk vcn m1 m2 e1 e2 hn).trans (a4 h Q vk vcn), fun m Q vk vcn => (pms01 vk vcn m1 m2 e1 e2).trans (a5 m Q vk vcn)⟩
termination_by d => d
decreasing_by omega

theorem pas01 {A : Nat → Nat} {h : MH} (vk : K A h) (vcn : Cn A h) (m1 : cT h (A 5) (A 8) (A 9) ∈ QS0) (m2 : cT h (A 6) (A 10) (A 11) ∈ QS1) (vlr : Vlr A h) : ∃ (N : Nat) (t2 u2 : QT) (rc2 rm2 : Nat → Int64), t2 ∈ QS0 ∧ u2 ∈ QS1 ∧ (∀ k, k < 16 → rc2 k = rm2 k) ∧
    (∀ Q : MR → MH → Prop, Ok 73 37 [.ref (A 0), .int 0, .int 1, .ref (A 5), .ref (A 6), .int (lyF (cT h (A 5) (A 8) (A 9))), .int 0] [] (h) 1 6 Q ↔ Ok 73 67 [.ref (A 0), .int 0, .int 1, .ref (A 5), .ref (A 6), .int (lyF (cT h (A 5) (A 8) (A 9))), .int (Int32.ofNat N)] [] (cW (cW (p_L h (A 3) (rc2)) (A 5) (A 8) (A 9) t2) (A 6) (A 10) (A 11) u2) 1 6 Q) ∧ (∀ (m : MH) (Q : MR → MH → Prop), K A m → Cn A m → mT m (A 27) 0 (A 31) (A 34) = cT h (A 5) (A 8) (A 9) → mT m (A 27) 1 (A 32) (A 35) = cT h (A 6) (A 10) (A 11) → (∀ k, g_l m (A 23) k = g_l h (A 23) k) → (Ok 196 40 [.ref (A 22), .int 0, .int 1, .int 0] [] (m) 0 0 Q ↔ Ok 196 80 [.ref (A 22), .int 0, .int 1, .int (Int32.ofNat N)] [] (mW (mW (p_L m (A 23) (rm2)) (A 27) 0 (A 31) (A 34) t2) (A 27) 1 (A 32) (A 35) u2) 0 0 Q)) := by
  have hl := (qN_0 _ m1).2.2.1
  have hM := (qN_0 _ m1).2.2.2.1
  obtain ⟨N, t2, u2, rc2, rm2, a1, a2, a3, a4, a5⟩ := pal01 (A := A) (M := (lyF (cT h (A 5) (A 8) (A 9))).toNatClampNeg) (by omega) (lyF (cT h (A 5) (A 8) (A 9))).toNatClampNeg 0 (cT h (A 5) (A 8) (A 9)) (cT h (A 6) (A 10) (A 11)) (fun k => g_l h (A 3) k) (fun k => g_l h (A 23) k) (by omega) m1 m2 hl vlr
  rw [← hl] at a4
  refine ⟨N, t2, u2, rc2, rm2, a1, a2, a3, fun Q => ?_, fun m Q k1 k2 k3 k4 k5 => ?_⟩
  · have z := a4 h Q vk vcn
    rw [pL_self, cW_self, cW_self] at z
    exact z
  · have z := a5 m Q k1 k2
    rw [show (fun k => g_l h (A 23) k) = (fun k => g_l m (A 23) k) from funext fun k => (k5 k).symm, pL_self, ← k3, mW_self, ← k4, mW_self] at z
    exact z

theorem cT0_mWo2 {A : Nat → Nat} {h : MH} {t : QT} (hA : inj40 A) : cT (mW (h) (A 27) 2 (A 33) (A 36) t) (A 5) (A 8) (A 9) = cT h (A 5) (A 8) (A 9) := by
  simp only [mW]; repeat rw [cT0_pi hA (by decide)]
theorem pal02 {A : Nat → Nat} {M : Nat} (hM : M < 100) : ∀ (d n : Nat) (t u : QT) (rc rm : Nat → Int64), n + d = M → t ∈ QS0 → u ∈ QS2 → lyF t = Int32.ofNat d → (∀ k, k < 16 → rc k = rm k) →
    ∃ (N : Nat) (t2 u2 : QT) (rc2 rm2 : Nat → Int64), t2 ∈ QS0 ∧ u2 ∈ QS2 ∧ (∀ k, k < 16 → rc2 k = rm2 k) ∧
      (∀ (h : MH) (Q : MR → MH → Prop), K A h → Cn A h → (Ok 73 37 [.ref (A 0), .int 0, .int 2, .ref (A 5), .ref (A 7), .int (Int32.ofNat M), .int (Int32.ofNat n)] [] (cW (cW (p_L h (A 3) (rc)) (A 5) (A 8) (A 9) t) (A 7) (A 12) (A 13) u) 1 6 Q ↔ Ok 73 67 [.ref (A 0), .int 0, .int 2, .ref (A 5), .ref (A 7), .int (Int32.ofNat M), .int (Int32.ofNat N)] [] (cW (cW (p_L h (A 3) (rc2)) (A 5) (A 8) (A 9) t2) (A 7) (A 12) (A 13) u2) 1 6 Q)) ∧ (∀ (m : MH) (Q : MR → MH → Prop), K A m → Cn A m → (Ok 196 40 [.ref (A 22), .int 0, .int 2, .int (Int32.ofNat n)] [] (mW (mW (p_L m (A 23) (rm)) (A 27) 0 (A 31) (A 34) t) (A 27) 2 (A 33) (A 36) u) 0 0 Q ↔ Ok 196 80 [.ref (A 22), .int 0, .int 2, .int (Int32.ofNat N)] [] (mW (mW (p_L m (A 23) (rm2)) (A 27) 0 (A 31) (A 34) t2) (A 27) 2 (A 33) (A 36) u2) 0 0 Q))
  | d, n, t, u, rc, rm, hd, m1, m2, hl, hr => by
    by_cases e2 : u.2.1 - u.1 = 0
    · exact ⟨n, t, u, rc, rm, m1, m2, hr, fun h Q vk vcn => pce02 vk vcn m1 m2 (Or.inr e2), fun m Q vk vcn => pme02 vk vcn m1 m2 (Or.inr e2)⟩
    by_cases e1 : t.2.2.2.2.1 - t.2.2.2.1 = 0
    · have z := ((qN_0 _ m1).1 e1).1
      rw [hl] at z
      have z2 := d_z (by omega) z
      have hn : (Int32.ofNat n < Int32.ofNat M) = False := by rw [n_lt (by omega) (by omega)]; exact eq_false (by omega)
      exact ⟨n, t, u, rc, rm, m1, m2, hr, fun h Q vk vcn => pce02 vk vcn m1 m2 (Or.inl hn), fun m Q vk vcn => pme02 vk vcn m1 m2 (Or.inl e1)⟩
    have z := (qN_0 _ m1).2.1 e1
    obtain ⟨-, z1, z2⟩ := z
    rw [hl] at z1 z2
    have z3 := d_nz (by omega) z2
    obtain ⟨i1, i2, hj, hq1⟩ := (qO_0 _ m1).resolve_left e1
    obtain ⟨i3, i4, hk, hq2⟩ := (qI_2 _ m2).resolve_left e2
    have hn : (Int32.ofNat n < Int32.ofNat M) = True := by rw [n_lt (by omega) (by omega)]; exact eq_true (by omega)
    have z4 : Int32.ofNat d - 1 = Int32.ofNat (d - 1) := n_sub (a := d) (b := 1) (by omega) (by omega)
    obtain ⟨N, t2, u2, rc2, rm2, a1, a2, a3, a4, a5⟩ := pal02 hM (d - 1) (n + 1) (seF 1 5 (goF t)) (seF 0 6 (ciF u)) (fun x => if x = (9 + u.1).toNatClampNeg then rc (1 + t.2.2.2.1).toNatClampNeg else rc x) (fun x => if x = (9 + u.1).toNatClampNeg then rm (1 + t.2.2.2.1).toNatClampNeg else rm x) (by omega) hq1 hq2 (z1.trans z4) (fun k hk2 => by
      show (if _ then _ else _) = (if _ then _ else _)
      by_cases c : k = (9 + u.1).toNatClampNeg
      · rw [if_pos c, if_pos c]; exact hr _ (rdy_lt hj)
      · rw [if_neg c, if_neg c]; exact hr k hk2)
    exact ⟨N, t2, u2, rc2, rm2, a1, a2, a3, fun h Q vk vcn => (pcs02 vk vcn m1 m2 e1 e2 hn).trans (a4 h Q vk vcn), fun m Q vk vcn => (pms02 vk vcn m1 m2 e1 e2).trans (a5 m Q vk vcn)⟩
termination_by d => d
decreasing_by omega

theorem pas02 {A : Nat → Nat} {h : MH} (vk : K A h) (vcn : Cn A h) (m1 : cT h (A 5) (A 8) (A 9) ∈ QS0) (m2 : cT h (A 7) (A 12) (A 13) ∈ QS2) (vlr : Vlr A h) : ∃ (N : Nat) (t2 u2 : QT) (rc2 rm2 : Nat → Int64), t2 ∈ QS0 ∧ u2 ∈ QS2 ∧ (∀ k, k < 16 → rc2 k = rm2 k) ∧
    (∀ Q : MR → MH → Prop, Ok 73 37 [.ref (A 0), .int 0, .int 2, .ref (A 5), .ref (A 7), .int (lyF (cT h (A 5) (A 8) (A 9))), .int 0] [] (h) 1 6 Q ↔ Ok 73 67 [.ref (A 0), .int 0, .int 2, .ref (A 5), .ref (A 7), .int (lyF (cT h (A 5) (A 8) (A 9))), .int (Int32.ofNat N)] [] (cW (cW (p_L h (A 3) (rc2)) (A 5) (A 8) (A 9) t2) (A 7) (A 12) (A 13) u2) 1 6 Q) ∧ (∀ (m : MH) (Q : MR → MH → Prop), K A m → Cn A m → mT m (A 27) 0 (A 31) (A 34) = cT h (A 5) (A 8) (A 9) → mT m (A 27) 2 (A 33) (A 36) = cT h (A 7) (A 12) (A 13) → (∀ k, g_l m (A 23) k = g_l h (A 23) k) → (Ok 196 40 [.ref (A 22), .int 0, .int 2, .int 0] [] (m) 0 0 Q ↔ Ok 196 80 [.ref (A 22), .int 0, .int 2, .int (Int32.ofNat N)] [] (mW (mW (p_L m (A 23) (rm2)) (A 27) 0 (A 31) (A 34) t2) (A 27) 2 (A 33) (A 36) u2) 0 0 Q)) := by
  have hl := (qN_0 _ m1).2.2.1
  have hM := (qN_0 _ m1).2.2.2.1
  obtain ⟨N, t2, u2, rc2, rm2, a1, a2, a3, a4, a5⟩ := pal02 (A := A) (M := (lyF (cT h (A 5) (A 8) (A 9))).toNatClampNeg) (by omega) (lyF (cT h (A 5) (A 8) (A 9))).toNatClampNeg 0 (cT h (A 5) (A 8) (A 9)) (cT h (A 7) (A 12) (A 13)) (fun k => g_l h (A 3) k) (fun k => g_l h (A 23) k) (by omega) m1 m2 hl vlr
  rw [← hl] at a4
  refine ⟨N, t2, u2, rc2, rm2, a1, a2, a3, fun Q => ?_, fun m Q k1 k2 k3 k4 k5 => ?_⟩
  · have z := a4 h Q vk vcn
    rw [pL_self, cW_self, cW_self] at z
    exact z
  · have z := a5 m Q k1 k2
    rw [show (fun k => g_l h (A 23) k) = (fun k => g_l m (A 23) k) from funext fun k => (k5 k).symm, pL_self, ← k3, mW_self, ← k4, mW_self] at z
    exact z

theorem cT1_mWo0 {A : Nat → Nat} {h : MH} {t : QT} (hA : inj40 A) : cT (mW (h) (A 27) 0 (A 31) (A 34) t) (A 6) (A 10) (A 11) = cT h (A 6) (A 10) (A 11) := by
  simp only [mW]; repeat rw [cT1_pi hA (by decide)]
theorem pal10 {A : Nat → Nat} {M : Nat} (hM : M < 100) : ∀ (d n : Nat) (t u : QT) (rc rm : Nat → Int64), n + d = M → t ∈ QS1 → u ∈ QS0 → lyF t = Int32.ofNat d → (∀ k, k < 16 → rc k = rm k) →
    ∃ (N : Nat) (t2 u2 : QT) (rc2 rm2 : Nat → Int64), t2 ∈ QS1 ∧ u2 ∈ QS0 ∧ (∀ k, k < 16 → rc2 k = rm2 k) ∧
      (∀ (h : MH) (Q : MR → MH → Prop), K A h → Cn A h → (Ok 73 37 [.ref (A 0), .int 1, .int 0, .ref (A 6), .ref (A 5), .int (Int32.ofNat M), .int (Int32.ofNat n)] [] (cW (cW (p_L h (A 3) (rc)) (A 6) (A 10) (A 11) t) (A 5) (A 8) (A 9) u) 1 6 Q ↔ Ok 73 67 [.ref (A 0), .int 1, .int 0, .ref (A 6), .ref (A 5), .int (Int32.ofNat M), .int (Int32.ofNat N)] [] (cW (cW (p_L h (A 3) (rc2)) (A 6) (A 10) (A 11) t2) (A 5) (A 8) (A 9) u2) 1 6 Q)) ∧ (∀ (m : MH) (Q : MR → MH → Prop), K A m → Cn A m → (Ok 196 40 [.ref (A 22), .int 1, .int 0, .int (Int32.ofNat n)] [] (mW (mW (p_L m (A 23) (rm)) (A 27) 1 (A 32) (A 35) t) (A 27) 0 (A 31) (A 34) u) 0 0 Q ↔ Ok 196 80 [.ref (A 22), .int 1, .int 0, .int (Int32.ofNat N)] [] (mW (mW (p_L m (A 23) (rm2)) (A 27) 1 (A 32) (A 35) t2) (A 27) 0 (A 31) (A 34) u2) 0 0 Q))
  | d, n, t, u, rc, rm, hd, m1, m2, hl, hr => by
    by_cases e2 : u.2.1 - u.1 = 0
    · exact ⟨n, t, u, rc, rm, m1, m2, hr, fun h Q vk vcn => pce10 vk vcn m1 m2 (Or.inr e2), fun m Q vk vcn => pme10 vk vcn m1 m2 (Or.inr e2)⟩
    by_cases e1 : t.2.2.2.2.1 - t.2.2.2.1 = 0
    · have z := ((qN_1 _ m1).1 e1).1
      rw [hl] at z
      have z2 := d_z (by omega) z
      have hn : (Int32.ofNat n < Int32.ofNat M) = False := by rw [n_lt (by omega) (by omega)]; exact eq_false (by omega)
      exact ⟨n, t, u, rc, rm, m1, m2, hr, fun h Q vk vcn => pce10 vk vcn m1 m2 (Or.inl hn), fun m Q vk vcn => pme10 vk vcn m1 m2 (Or.inl e1)⟩
    have z := (qN_1 _ m1).2.1 e1
    obtain ⟨-, z1, z2⟩ := z
    rw [hl] at z1 z2
    have z3 := d_nz (by omega) z2
    obtain ⟨i1, i2, hj, hq1⟩ := (qO_1 _ m1).resolve_left e1
    obtain ⟨i3, i4, hk, hq2⟩ := (qI_0 _ m2).resolve_left e2
    have hn : (Int32.ofNat n < Int32.ofNat M) = True := by rw [n_lt (by omega) (by omega)]; exact eq_true (by omega)
    have z4 : Int32.ofNat d - 1 = Int32.ofNat (d - 1) := n_sub (a := d) (b := 1) (by omega) (by omega)
    obtain ⟨N, t2, u2, rc2, rm2, a1, a2, a3, a4, a5⟩ := pal10 hM (d - 1) (n + 1) (seF 1 3 (goF t)) (seF 1 5 (ciF u)) (fun x => if x = (1 + u.1).toNatClampNeg then rc (6 + t.2.2.2.1).toNatClampNeg else rc x) (fun x => if x = (1 + u.1).toNatClampNeg then rm (6 + t.2.2.2.1).toNatClampNeg else rm x) (by omega) hq1 hq2 (z1.trans z4) (fun k hk2 => by
      show (if _ then _ else _) = (if _ then _ else _)
      by_cases c : k = (1 + u.1).toNatClampNeg
      · rw [if_pos c, if_pos c]; exact hr _ (rdy_lt hj)
      · rw [if_neg c, if_neg c]; exact hr k hk2)
    exact ⟨N, t2, u2, rc2, rm2, a1, a2, a3, fun h Q vk vcn => (pcs10 vk vcn m1 m2 e1 e2 hn).trans (a4 h Q vk vcn), fun m Q vk vcn => (pms10 vk vcn m1 m2 e1 e2).trans (a5 m Q vk vcn)⟩
termination_by d => d
decreasing_by omega

theorem pas10 {A : Nat → Nat} {h : MH} (vk : K A h) (vcn : Cn A h) (m1 : cT h (A 6) (A 10) (A 11) ∈ QS1) (m2 : cT h (A 5) (A 8) (A 9) ∈ QS0) (vlr : Vlr A h) : ∃ (N : Nat) (t2 u2 : QT) (rc2 rm2 : Nat → Int64), t2 ∈ QS1 ∧ u2 ∈ QS0 ∧ (∀ k, k < 16 → rc2 k = rm2 k) ∧
    (∀ Q : MR → MH → Prop, Ok 73 37 [.ref (A 0), .int 1, .int 0, .ref (A 6), .ref (A 5), .int (lyF (cT h (A 6) (A 10) (A 11))), .int 0] [] (h) 1 6 Q ↔ Ok 73 67 [.ref (A 0), .int 1, .int 0, .ref (A 6), .ref (A 5), .int (lyF (cT h (A 6) (A 10) (A 11))), .int (Int32.ofNat N)] [] (cW (cW (p_L h (A 3) (rc2)) (A 6) (A 10) (A 11) t2) (A 5) (A 8) (A 9) u2) 1 6 Q) ∧ (∀ (m : MH) (Q : MR → MH → Prop), K A m → Cn A m → mT m (A 27) 1 (A 32) (A 35) = cT h (A 6) (A 10) (A 11) → mT m (A 27) 0 (A 31) (A 34) = cT h (A 5) (A 8) (A 9) → (∀ k, g_l m (A 23) k = g_l h (A 23) k) → (Ok 196 40 [.ref (A 22), .int 1, .int 0, .int 0] [] (m) 0 0 Q ↔ Ok 196 80 [.ref (A 22), .int 1, .int 0, .int (Int32.ofNat N)] [] (mW (mW (p_L m (A 23) (rm2)) (A 27) 1 (A 32) (A 35) t2) (A 27) 0 (A 31) (A 34) u2) 0 0 Q)) := by
  have hl := (qN_1 _ m1).2.2.1
  have hM := (qN_1 _ m1).2.2.2.1
  obtain ⟨N, t2, u2, rc2, rm2, a1, a2, a3, a4, a5⟩ := pal10 (A := A) (M := (lyF (cT h (A 6) (A 10) (A 11))).toNatClampNeg) (by omega) (lyF (cT h (A 6) (A 10) (A 11))).toNatClampNeg 0 (cT h (A 6) (A 10) (A 11)) (cT h (A 5) (A 8) (A 9)) (fun k => g_l h (A 3) k) (fun k => g_l h (A 23) k) (by omega) m1 m2 hl vlr
  rw [← hl] at a4
  refine ⟨N, t2, u2, rc2, rm2, a1, a2, a3, fun Q => ?_, fun m Q k1 k2 k3 k4 k5 => ?_⟩
  · have z := a4 h Q vk vcn
    rw [pL_self, cW_self, cW_self] at z
    exact z
  · have z := a5 m Q k1 k2
    rw [show (fun k => g_l h (A 23) k) = (fun k => g_l m (A 23) k) from funext fun k => (k5 k).symm, pL_self, ← k3, mW_self, ← k4, mW_self] at z
    exact z

theorem cT1_mWo2 {A : Nat → Nat} {h : MH} {t : QT} (hA : inj40 A) : cT (mW (h) (A 27) 2 (A 33) (A 36) t) (A 6) (A 10) (A 11) = cT h (A 6) (A 10) (A 11) := by
  simp only [mW]; repeat rw [cT1_pi hA (by decide)]
theorem pal12 {A : Nat → Nat} {M : Nat} (hM : M < 100) : ∀ (d n : Nat) (t u : QT) (rc rm : Nat → Int64), n + d = M → t ∈ QS1 → u ∈ QS2 → lyF t = Int32.ofNat d → (∀ k, k < 16 → rc k = rm k) →
    ∃ (N : Nat) (t2 u2 : QT) (rc2 rm2 : Nat → Int64), t2 ∈ QS1 ∧ u2 ∈ QS2 ∧ (∀ k, k < 16 → rc2 k = rm2 k) ∧
      (∀ (h : MH) (Q : MR → MH → Prop), K A h → Cn A h → (Ok 73 37 [.ref (A 0), .int 1, .int 2, .ref (A 6), .ref (A 7), .int (Int32.ofNat M), .int (Int32.ofNat n)] [] (cW (cW (p_L h (A 3) (rc)) (A 6) (A 10) (A 11) t) (A 7) (A 12) (A 13) u) 1 6 Q ↔ Ok 73 67 [.ref (A 0), .int 1, .int 2, .ref (A 6), .ref (A 7), .int (Int32.ofNat M), .int (Int32.ofNat N)] [] (cW (cW (p_L h (A 3) (rc2)) (A 6) (A 10) (A 11) t2) (A 7) (A 12) (A 13) u2) 1 6 Q)) ∧ (∀ (m : MH) (Q : MR → MH → Prop), K A m → Cn A m → (Ok 196 40 [.ref (A 22), .int 1, .int 2, .int (Int32.ofNat n)] [] (mW (mW (p_L m (A 23) (rm)) (A 27) 1 (A 32) (A 35) t) (A 27) 2 (A 33) (A 36) u) 0 0 Q ↔ Ok 196 80 [.ref (A 22), .int 1, .int 2, .int (Int32.ofNat N)] [] (mW (mW (p_L m (A 23) (rm2)) (A 27) 1 (A 32) (A 35) t2) (A 27) 2 (A 33) (A 36) u2) 0 0 Q))
  | d, n, t, u, rc, rm, hd, m1, m2, hl, hr => by
    by_cases e2 : u.2.1 - u.1 = 0
    · exact ⟨n, t, u, rc, rm, m1, m2, hr, fun h Q vk vcn => pce12 vk vcn m1 m2 (Or.inr e2), fun m Q vk vcn => pme12 vk vcn m1 m2 (Or.inr e2)⟩
    by_cases e1 : t.2.2.2.2.1 - t.2.2.2.1 = 0
    · have z := ((qN_1 _ m1).1 e1).1
      rw [hl] at z
      have z2 := d_z (by omega) z
      have hn : (Int32.ofNat n < Int32.ofNat M) = False := by rw [n_lt (by omega) (by omega)]; exact eq_false (by omega)
      exact ⟨n, t, u, rc, rm, m1, m2, hr, fun h Q vk vcn => pce12 vk vcn m1 m2 (Or.inl hn), fun m Q vk vcn => pme12 vk vcn m1 m2 (Or.inl e1)⟩
    have z := (qN_1 _ m1).2.1 e1
    obtain ⟨-, z1, z2⟩ := z
    rw [hl] at z1 z2
    have z3 := d_nz (by omega) z2
    obtain ⟨i1, i2, hj, hq1⟩ := (qO_1 _ m1).resolve_left e1
    obtain ⟨i3, i4, hk, hq2⟩ := (qI_2 _ m2).resolve_left e2
    have hn : (Int32.ofNat n < Int32.ofNat M) = True := by rw [n_lt (by omega) (by omega)]; exact eq_true (by omega)
    have z4 : Int32.ofNat d - 1 = Int32.ofNat (d - 1) := n_sub (a := d) (b := 1) (by omega) (by omega)
    obtain ⟨N, t2, u2, rc2, rm2, a1, a2, a3, a4, a5⟩ := pal12 hM (d - 1) (n + 1) (seF 1 3 (goF t)) (seF 0 6 (ciF u)) (fun x => if x = (9 + u.1).toNatClampNeg then rc (6 + t.2.2.2.1).toNatClampNeg else rc x) (fun x => if x = (9 + u.1).toNatClampNeg then rm (6 + t.2.2.2.1).toNatClampNeg else rm x) (by omega) hq1 hq2 (z1.trans z4) (fun k hk2 => by
      show (if _ then _ else _) = (if _ then _ else _)
      by_cases c : k = (9 + u.1).toNatClampNeg
      · rw [if_pos c, if_pos c]; exact hr _ (rdy_lt hj)
      · rw [if_neg c, if_neg c]; exact hr k hk2)
    exact ⟨N, t2, u2, rc2, rm2, a1, a2, a3, fun h Q vk vcn => (pcs12 vk vcn m1 m2 e1 e2 hn).trans (a4 h Q vk vcn), fun m Q vk vcn => (pms12 vk vcn m1 m2 e1 e2).trans (a5 m Q vk vcn)⟩
termination_by d => d
decreasing_by omega

theorem pas12 {A : Nat → Nat} {h : MH} (vk : K A h) (vcn : Cn A h) (m1 : cT h (A 6) (A 10) (A 11) ∈ QS1) (m2 : cT h (A 7) (A 12) (A 13) ∈ QS2) (vlr : Vlr A h) : ∃ (N : Nat) (t2 u2 : QT) (rc2 rm2 : Nat → Int64), t2 ∈ QS1 ∧ u2 ∈ QS2 ∧ (∀ k, k < 16 → rc2 k = rm2 k) ∧
    (∀ Q : MR → MH → Prop, Ok 73 37 [.ref (A 0), .int 1, .int 2, .ref (A 6), .ref (A 7), .int (lyF (cT h (A 6) (A 10) (A 11))), .int 0] [] (h) 1 6 Q ↔ Ok 73 67 [.ref (A 0), .int 1, .int 2, .ref (A 6), .ref (A 7), .int (lyF (cT h (A 6) (A 10) (A 11))), .int (Int32.ofNat N)] [] (cW (cW (p_L h (A 3) (rc2)) (A 6) (A 10) (A 11) t2) (A 7) (A 12) (A 13) u2) 1 6 Q) ∧ (∀ (m : MH) (Q : MR → MH → Prop), K A m → Cn A m → mT m (A 27) 1 (A 32) (A 35) = cT h (A 6) (A 10) (A 11) → mT m (A 27) 2 (A 33) (A 36) = cT h (A 7) (A 12) (A 13) → (∀ k, g_l m (A 23) k = g_l h (A 23) k) → (Ok 196 40 [.ref (A 22), .int 1, .int 2, .int 0] [] (m) 0 0 Q ↔ Ok 196 80 [.ref (A 22), .int 1, .int 2, .int (Int32.ofNat N)] [] (mW (mW (p_L m (A 23) (rm2)) (A 27) 1 (A 32) (A 35) t2) (A 27) 2 (A 33) (A 36) u2) 0 0 Q)) := by
  have hl := (qN_1 _ m1).2.2.1
  have hM := (qN_1 _ m1).2.2.2.1
  obtain ⟨N, t2, u2, rc2, rm2, a1, a2, a3, a4, a5⟩ := pal12 (A := A) (M := (lyF (cT h (A 6) (A 10) (A 11))).toNatClampNeg) (by omega) (lyF (cT h (A 6) (A 10) (A 11))).toNatClampNeg 0 (cT h (A 6) (A 10) (A 11)) (cT h (A 7) (A 12) (A 13)) (fun k => g_l h (A 3) k) (fun k => g_l h (A 23) k) (by omega) m1 m2 hl vlr
  rw [← hl] at a4
  refine ⟨N, t2, u2, rc2, rm2, a1, a2, a3, fun Q => ?_, fun m Q k1 k2 k3 k4 k5 => ?_⟩
  · have z := a4 h Q vk vcn
    rw [pL_self, cW_self, cW_self] at z
    exact z
  · have z := a5 m Q k1 k2
    rw [show (fun k => g_l h (A 23) k) = (fun k => g_l m (A 23) k) from funext fun k => (k5 k).symm, pL_self, ← k3, mW_self, ← k4, mW_self] at z
    exact z

theorem cT2_mWo0 {A : Nat → Nat} {h : MH} {t : QT} (hA : inj40 A) : cT (mW (h) (A 27) 0 (A 31) (A 34) t) (A 7) (A 12) (A 13) = cT h (A 7) (A 12) (A 13) := by
  simp only [mW]; repeat rw [cT2_pi hA (by decide)]
theorem pal20 {A : Nat → Nat} {M : Nat} (hM : M < 100) : ∀ (d n : Nat) (t u : QT) (rc rm : Nat → Int64), n + d = M → t ∈ QS2 → u ∈ QS0 → lyF t = Int32.ofNat d → (∀ k, k < 16 → rc k = rm k) →
    ∃ (N : Nat) (t2 u2 : QT) (rc2 rm2 : Nat → Int64), t2 ∈ QS2 ∧ u2 ∈ QS0 ∧ (∀ k, k < 16 → rc2 k = rm2 k) ∧
      (∀ (h : MH) (Q : MR → MH → Prop), K A h → Cn A h → (Ok 73 37 [.ref (A 0), .int 2, .int 0, .ref (A 7), .ref (A 5), .int (Int32.ofNat M), .int (Int32.ofNat n)] [] (cW (cW (p_L h (A 3) (rc)) (A 7) (A 12) (A 13) t) (A 5) (A 8) (A 9) u) 1 6 Q ↔ Ok 73 67 [.ref (A 0), .int 2, .int 0, .ref (A 7), .ref (A 5), .int (Int32.ofNat M), .int (Int32.ofNat N)] [] (cW (cW (p_L h (A 3) (rc2)) (A 7) (A 12) (A 13) t2) (A 5) (A 8) (A 9) u2) 1 6 Q)) ∧ (∀ (m : MH) (Q : MR → MH → Prop), K A m → Cn A m → (Ok 196 40 [.ref (A 22), .int 2, .int 0, .int (Int32.ofNat n)] [] (mW (mW (p_L m (A 23) (rm)) (A 27) 2 (A 33) (A 36) t) (A 27) 0 (A 31) (A 34) u) 0 0 Q ↔ Ok 196 80 [.ref (A 22), .int 2, .int 0, .int (Int32.ofNat N)] [] (mW (mW (p_L m (A 23) (rm2)) (A 27) 2 (A 33) (A 36) t2) (A 27) 0 (A 31) (A 34) u2) 0 0 Q))
  | d, n, t, u, rc, rm, hd, m1, m2, hl, hr => by
    by_cases e2 : u.2.1 - u.1 = 0
    · exact ⟨n, t, u, rc, rm, m1, m2, hr, fun h Q vk vcn => pce20 vk vcn m1 m2 (Or.inr e2), fun m Q vk vcn => pme20 vk vcn m1 m2 (Or.inr e2)⟩
    by_cases e1 : t.2.2.2.2.1 - t.2.2.2.1 = 0
    · have z := ((qN_2 _ m1).1 e1).1
      rw [hl] at z
      have z2 := d_z (by omega) z
      have hn : (Int32.ofNat n < Int32.ofNat M) = False := by rw [n_lt (by omega) (by omega)]; exact eq_false (by omega)
      exact ⟨n, t, u, rc, rm, m1, m2, hr, fun h Q vk vcn => pce20 vk vcn m1 m2 (Or.inl hn), fun m Q vk vcn => pme20 vk vcn m1 m2 (Or.inl e1)⟩
    have z := (qN_2 _ m1).2.1 e1
    obtain ⟨-, z1, z2⟩ := z
    rw [hl] at z1 z2
    have z3 := d_nz (by omega) z2
    obtain ⟨i1, i2, hj, hq1⟩ := (qO_2 _ m1).resolve_left e1
    obtain ⟨i3, i4, hk, hq2⟩ := (qI_0 _ m2).resolve_left e2
    have hn : (Int32.ofNat n < Int32.ofNat M) = True := by rw [n_lt (by omega) (by omega)]; exact eq_true (by omega)
    have z4 : Int32.ofNat d - 1 = Int32.ofNat (d - 1) := n_sub (a := d) (b := 1) (by omega) (by omega)
    obtain ⟨N, t2, u2, rc2, rm2, a1, a2, a3, a4, a5⟩ := pal20 hM (d - 1) (n + 1) (seF 0 6 (goF t)) (seF 1 5 (ciF u)) (fun x => if x = (1 + u.1).toNatClampNeg then rc (9 + t.2.2.2.1).toNatClampNeg else rc x) (fun x => if x = (1 + u.1).toNatClampNeg then rm (9 + t.2.2.2.1).toNatClampNeg else rm x) (by omega) hq1 hq2 (z1.trans z4) (fun k hk2 => by
      show (if _ then _ else _) = (if _ then _ else _)
      by_cases c : k = (1 + u.1).toNatClampNeg
      · rw [if_pos c, if_pos c]; exact hr _ (rdy_lt hj)
      · rw [if_neg c, if_neg c]; exact hr k hk2)
    exact ⟨N, t2, u2, rc2, rm2, a1, a2, a3, fun h Q vk vcn => (pcs20 vk vcn m1 m2 e1 e2 hn).trans (a4 h Q vk vcn), fun m Q vk vcn => (pms20 vk vcn m1 m2 e1 e2).trans (a5 m Q vk vcn)⟩
termination_by d => d
decreasing_by omega

theorem pas20 {A : Nat → Nat} {h : MH} (vk : K A h) (vcn : Cn A h) (m1 : cT h (A 7) (A 12) (A 13) ∈ QS2) (m2 : cT h (A 5) (A 8) (A 9) ∈ QS0) (vlr : Vlr A h) : ∃ (N : Nat) (t2 u2 : QT) (rc2 rm2 : Nat → Int64), t2 ∈ QS2 ∧ u2 ∈ QS0 ∧ (∀ k, k < 16 → rc2 k = rm2 k) ∧
    (∀ Q : MR → MH → Prop, Ok 73 37 [.ref (A 0), .int 2, .int 0, .ref (A 7), .ref (A 5), .int (lyF (cT h (A 7) (A 12) (A 13))), .int 0] [] (h) 1 6 Q ↔ Ok 73 67 [.ref (A 0), .int 2, .int 0, .ref (A 7), .ref (A 5), .int (lyF (cT h (A 7) (A 12) (A 13))), .int (Int32.ofNat N)] [] (cW (cW (p_L h (A 3) (rc2)) (A 7) (A 12) (A 13) t2) (A 5) (A 8) (A 9) u2) 1 6 Q) ∧ (∀ (m : MH) (Q : MR → MH → Prop), K A m → Cn A m → mT m (A 27) 2 (A 33) (A 36) = cT h (A 7) (A 12) (A 13) → mT m (A 27) 0 (A 31) (A 34) = cT h (A 5) (A 8) (A 9) → (∀ k, g_l m (A 23) k = g_l h (A 23) k) → (Ok 196 40 [.ref (A 22), .int 2, .int 0, .int 0] [] (m) 0 0 Q ↔ Ok 196 80 [.ref (A 22), .int 2, .int 0, .int (Int32.ofNat N)] [] (mW (mW (p_L m (A 23) (rm2)) (A 27) 2 (A 33) (A 36) t2) (A 27) 0 (A 31) (A 34) u2) 0 0 Q)) := by
  have hl := (qN_2 _ m1).2.2.1
  have hM := (qN_2 _ m1).2.2.2.1
  obtain ⟨N, t2, u2, rc2, rm2, a1, a2, a3, a4, a5⟩ := pal20 (A := A) (M := (lyF (cT h (A 7) (A 12) (A 13))).toNatClampNeg) (by omega) (lyF (cT h (A 7) (A 12) (A 13))).toNatClampNeg 0 (cT h (A 7) (A 12) (A 13)) (cT h (A 5) (A 8) (A 9)) (fun k => g_l h (A 3) k) (fun k => g_l h (A 23) k) (by omega) m1 m2 hl vlr
  rw [← hl] at a4
  refine ⟨N, t2, u2, rc2, rm2, a1, a2, a3, fun Q => ?_, fun m Q k1 k2 k3 k4 k5 => ?_⟩
  · have z := a4 h Q vk vcn
    rw [pL_self, cW_self, cW_self] at z
    exact z
  · have z := a5 m Q k1 k2
    rw [show (fun k => g_l h (A 23) k) = (fun k => g_l m (A 23) k) from funext fun k => (k5 k).symm, pL_self, ← k3, mW_self, ← k4, mW_self] at z
    exact z

theorem cT2_mWo1 {A : Nat → Nat} {h : MH} {t : QT} (hA : inj40 A) : cT (mW (h) (A 27) 1 (A 32) (A 35) t) (A 7) (A 12) (A 13) = cT h (A 7) (A 12) (A 13) := by
  simp only [mW]; repeat rw [cT2_pi hA (by decide)]
theorem pal21 {A : Nat → Nat} {M : Nat} (hM : M < 100) : ∀ (d n : Nat) (t u : QT) (rc rm : Nat → Int64), n + d = M → t ∈ QS2 → u ∈ QS1 → lyF t = Int32.ofNat d → (∀ k, k < 16 → rc k = rm k) →
    ∃ (N : Nat) (t2 u2 : QT) (rc2 rm2 : Nat → Int64), t2 ∈ QS2 ∧ u2 ∈ QS1 ∧ (∀ k, k < 16 → rc2 k = rm2 k) ∧
      (∀ (h : MH) (Q : MR → MH → Prop), K A h → Cn A h → (Ok 73 37 [.ref (A 0), .int 2, .int 1, .ref (A 7), .ref (A 6), .int (Int32.ofNat M), .int (Int32.ofNat n)] [] (cW (cW (p_L h (A 3) (rc)) (A 7) (A 12) (A 13) t) (A 6) (A 10) (A 11) u) 1 6 Q ↔ Ok 73 67 [.ref (A 0), .int 2, .int 1, .ref (A 7), .ref (A 6), .int (Int32.ofNat M), .int (Int32.ofNat N)] [] (cW (cW (p_L h (A 3) (rc2)) (A 7) (A 12) (A 13) t2) (A 6) (A 10) (A 11) u2) 1 6 Q)) ∧ (∀ (m : MH) (Q : MR → MH → Prop), K A m → Cn A m → (Ok 196 40 [.ref (A 22), .int 2, .int 1, .int (Int32.ofNat n)] [] (mW (mW (p_L m (A 23) (rm)) (A 27) 2 (A 33) (A 36) t) (A 27) 1 (A 32) (A 35) u) 0 0 Q ↔ Ok 196 80 [.ref (A 22), .int 2, .int 1, .int (Int32.ofNat N)] [] (mW (mW (p_L m (A 23) (rm2)) (A 27) 2 (A 33) (A 36) t2) (A 27) 1 (A 32) (A 35) u2) 0 0 Q))
  | d, n, t, u, rc, rm, hd, m1, m2, hl, hr => by
    by_cases e2 : u.2.1 - u.1 = 0
    · exact ⟨n, t, u, rc, rm, m1, m2, hr, fun h Q vk vcn => pce21 vk vcn m1 m2 (Or.inr e2), fun m Q vk vcn => pme21 vk vcn m1 m2 (Or.inr e2)⟩
    by_cases e1 : t.2.2.2.2.1 - t.2.2.2.1 = 0
    · have z := ((qN_2 _ m1).1 e1).1
      rw [hl] at z
      have z2 := d_z (by omega) z
      have hn : (Int32.ofNat n < Int32.ofNat M) = False := by rw [n_lt (by omega) (by omega)]; exact eq_false (by omega)
      exact ⟨n, t, u, rc, rm, m1, m2, hr, fun h Q vk vcn => pce21 vk vcn m1 m2 (Or.inl hn), fun m Q vk vcn => pme21 vk vcn m1 m2 (Or.inl e1)⟩
    have z := (qN_2 _ m1).2.1 e1
    obtain ⟨-, z1, z2⟩ := z
    rw [hl] at z1 z2
    have z3 := d_nz (by omega) z2
    obtain ⟨i1, i2, hj, hq1⟩ := (qO_2 _ m1).resolve_left e1
    obtain ⟨i3, i4, hk, hq2⟩ := (qI_1 _ m2).resolve_left e2
    have hn : (Int32.ofNat n < Int32.ofNat M) = True := by rw [n_lt (by omega) (by omega)]; exact eq_true (by omega)
    have z4 : Int32.ofNat d - 1 = Int32.ofNat (d - 1) := n_sub (a := d) (b := 1) (by omega) (by omega)
    obtain ⟨N, t2, u2, rc2, rm2, a1, a2, a3, a4, a5⟩ := pal21 hM (d - 1) (n + 1) (seF 0 6 (goF t)) (seF 1 3 (ciF u)) (fun x => if x = (6 + u.1).toNatClampNeg then rc (9 + t.2.2.2.1).toNatClampNeg else rc x) (fun x => if x = (6 + u.1).toNatClampNeg then rm (9 + t.2.2.2.1).toNatClampNeg else rm x) (by omega) hq1 hq2 (z1.trans z4) (fun k hk2 => by
      show (if _ then _ else _) = (if _ then _ else _)
      by_cases c : k = (6 + u.1).toNatClampNeg
      · rw [if_pos c, if_pos c]; exact hr _ (rdy_lt hj)
      · rw [if_neg c, if_neg c]; exact hr k hk2)
    exact ⟨N, t2, u2, rc2, rm2, a1, a2, a3, fun h Q vk vcn => (pcs21 vk vcn m1 m2 e1 e2 hn).trans (a4 h Q vk vcn), fun m Q vk vcn => (pms21 vk vcn m1 m2 e1 e2).trans (a5 m Q vk vcn)⟩
termination_by d => d
decreasing_by omega

theorem pas21 {A : Nat → Nat} {h : MH} (vk : K A h) (vcn : Cn A h) (m1 : cT h (A 7) (A 12) (A 13) ∈ QS2) (m2 : cT h (A 6) (A 10) (A 11) ∈ QS1) (vlr : Vlr A h) : ∃ (N : Nat) (t2 u2 : QT) (rc2 rm2 : Nat → Int64), t2 ∈ QS2 ∧ u2 ∈ QS1 ∧ (∀ k, k < 16 → rc2 k = rm2 k) ∧
    (∀ Q : MR → MH → Prop, Ok 73 37 [.ref (A 0), .int 2, .int 1, .ref (A 7), .ref (A 6), .int (lyF (cT h (A 7) (A 12) (A 13))), .int 0] [] (h) 1 6 Q ↔ Ok 73 67 [.ref (A 0), .int 2, .int 1, .ref (A 7), .ref (A 6), .int (lyF (cT h (A 7) (A 12) (A 13))), .int (Int32.ofNat N)] [] (cW (cW (p_L h (A 3) (rc2)) (A 7) (A 12) (A 13) t2) (A 6) (A 10) (A 11) u2) 1 6 Q) ∧ (∀ (m : MH) (Q : MR → MH → Prop), K A m → Cn A m → mT m (A 27) 2 (A 33) (A 36) = cT h (A 7) (A 12) (A 13) → mT m (A 27) 1 (A 32) (A 35) = cT h (A 6) (A 10) (A 11) → (∀ k, g_l m (A 23) k = g_l h (A 23) k) → (Ok 196 40 [.ref (A 22), .int 2, .int 1, .int 0] [] (m) 0 0 Q ↔ Ok 196 80 [.ref (A 22), .int 2, .int 1, .int (Int32.ofNat N)] [] (mW (mW (p_L m (A 23) (rm2)) (A 27) 2 (A 33) (A 36) t2) (A 27) 1 (A 32) (A 35) u2) 0 0 Q)) := by
  have hl := (qN_2 _ m1).2.2.1
  have hM := (qN_2 _ m1).2.2.2.1
  obtain ⟨N, t2, u2, rc2, rm2, a1, a2, a3, a4, a5⟩ := pal21 (A := A) (M := (lyF (cT h (A 7) (A 12) (A 13))).toNatClampNeg) (by omega) (lyF (cT h (A 7) (A 12) (A 13))).toNatClampNeg 0 (cT h (A 7) (A 12) (A 13)) (cT h (A 6) (A 10) (A 11)) (fun k => g_l h (A 3) k) (fun k => g_l h (A 23) k) (by omega) m1 m2 hl vlr
  rw [← hl] at a4
  refine ⟨N, t2, u2, rc2, rm2, a1, a2, a3, fun Q => ?_, fun m Q k1 k2 k3 k4 k5 => ?_⟩
  · have z := a4 h Q vk vcn
    rw [pL_self, cW_self, cW_self] at z
    exact z
  · have z := a5 m Q k1 k2
    rw [show (fun k => g_l h (A 23) k) = (fun k => g_l m (A 23) k) from funext fun k => (k5 k).symm, pL_self, ← k3, mW_self, ← k4, mW_self] at z
    exact z

theorem mTx0_cW1 {A : Nat → Nat} {h : MH} {t : QT} (hA : inj40 A) : mT (cW (h) (A 6) (A 10) (A 11) t) (A 27) 0 (A 31) (A 34) = mT h (A 27) 0 (A 31) (A 34) := by
  simp only [cW]; repeat rw [mT0_pi hA (by decide)]
theorem mTx0_cW2 {A : Nat → Nat} {h : MH} {t : QT} (hA : inj40 A) : mT (cW (h) (A 7) (A 12) (A 13) t) (A 27) 0 (A 31) (A 34) = mT h (A 27) 0 (A 31) (A 34) := by
  simp only [cW]; repeat rw [mT0_pi hA (by decide)]
theorem mTx1_cW0 {A : Nat → Nat} {h : MH} {t : QT} (hA : inj40 A) : mT (cW (h) (A 5) (A 8) (A 9) t) (A 27) 1 (A 32) (A 35) = mT h (A 27) 1 (A 32) (A 35) := by
  simp only [cW]; repeat rw [mT1_pi hA (by decide)]
theorem mTx1_cW2 {A : Nat → Nat} {h : MH} {t : QT} (hA : inj40 A) : mT (cW (h) (A 7) (A 12) (A 13) t) (A 27) 1 (A 32) (A 35) = mT h (A 27) 1 (A 32) (A 35) := by
  simp only [cW]; repeat rw [mT1_pi hA (by decide)]
theorem mTx2_cW0 {A : Nat → Nat} {h : MH} {t : QT} (hA : inj40 A) : mT (cW (h) (A 5) (A 8) (A 9) t) (A 27) 2 (A 33) (A 36) = mT h (A 27) 2 (A 33) (A 36) := by
  simp only [cW]; repeat rw [mT2_pi hA (by decide)]
theorem mTx2_cW1 {A : Nat → Nat} {h : MH} {t : QT} (hA : inj40 A) : mT (cW (h) (A 6) (A 10) (A 11) t) (A 27) 2 (A 33) (A 36) = mT h (A 27) 2 (A 33) (A 36) := by
  simp only [cW]; repeat rw [mT2_pi hA (by decide)]
end

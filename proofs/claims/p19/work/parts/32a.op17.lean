/-! pass -/
def p_L (h : MH) (a : Nat) (f : Nat → Int64) : MH := (h.1, h.2.1, h.2.2.1, fun b k => if b = a then f k else g_l h b k, h.2.2.2.2)
theorem pL_l {h : MH} {a b k : Nat} {f : Nat → Int64} : g_l (p_L h a f) b k = if b = a then f k else g_l h b k := id rfl
section
variable {h : MH} {a b j k : Nat} {f : Nat → Int64}
theorem pL_c : g_c (p_L h a f) b = g_c h b := id rfl
theorem pL_n : g_n (p_L h a f) b = g_n h b := id rfl
theorem pL_r : g_r (p_L h a f) b j = g_r h b j := id rfl
theorem pL_i : g_i (p_L h a f) b j = g_i h b j := id rfl
theorem pL_z : g_z (p_L h a f) = g_z h := id rfl
theorem pL_t : g_t (p_L h a f) = g_t h := id rfl
theorem K_pL {A : Nat → Nat} : K A (p_L h a f) = K A h := id rfl
theorem pL_self : p_L h a (fun k => g_l h a k) = h := by
  refine ml_ext (fun b j => ?_) rfl
  rw [pL_l]
  by_cases c : b = a
  · rw [if_pos c, c]
  · rw [if_neg c]
theorem pL_pl {v : Int64} : p_l (p_L h a f) a k v = p_L h a (fun x => if x = k then v else f x) := by
  refine ml_ext (fun b j => ?_) rfl
  rw [ml_pl, pL_l, pL_l]
  by_cases c : b = a
  · by_cases d : j = k
    · rw [if_pos ⟨c, d⟩, if_pos c, if_pos d]
    · rw [if_neg (fun z => d z.2), if_pos c, if_pos c, if_neg d]
  · rw [if_neg (fun z => c z.1), if_neg c, if_neg c]
theorem p_l_cW {q w r : Nat} {t : QT} {v : Int64} : p_l (cW h q w r t) b k v = cW (p_l h b k v) q w r t := id rfl
theorem p_l_mW {q j w r : Nat} {t : QT} {v : Int64} : p_l (mW h q j w r t) b k v = mW (p_l h b k v) q j w r t := id rfl
end
theorem cW_comm {h : MH} {q w r q' w' r' : Nat} {t u : QT} (d1 : ¬ q = q') (d2 : ¬ q = w') (d3 : ¬ q = r') (d4 : ¬ w = q') (d5 : ¬ w = w') (d6 : ¬ w = r') (d7 : ¬ r = q') (d8 : ¬ r = w') (d9 : ¬ r = r') : cW (cW h q' w' r' u) q w r t = cW (cW h q w r t) q' w' r' u := by
  refine mh_ext (fun b k => ?_) rfl
  simp only [cW, mi_pi]
  by_cases c : b = q ∨ b = w ∨ b = r
  · have n1 : ¬ b = q' := fun z => by
      rcases c with c | c | c
      · exact d1 (c.symm.trans z)
      · exact d4 (c.symm.trans z)
      · exact d7 (c.symm.trans z)
    have n2 : ¬ b = w' := fun z => by
      rcases c with c | c | c
      · exact d2 (c.symm.trans z)
      · exact d5 (c.symm.trans z)
      · exact d8 (c.symm.trans z)
    have n3 : ¬ b = r' := fun z => by
      rcases c with c | c | c
      · exact d3 (c.symm.trans z)
      · exact d6 (c.symm.trans z)
      · exact d9 (c.symm.trans z)
    simp only [n1, n2, n3, false_and, if_false]
  · have n1 : ¬ b = q := fun z => c (Or.inl z)
    have n2 : ¬ b = w := fun z => c (Or.inr (Or.inl z))
    have n3 : ¬ b = r := fun z => c (Or.inr (Or.inr z))
    simp only [n1, n2, n3, false_and, if_false]
theorem mW_comm {h : MH} {a i j w r w' r' : Nat} {t u : QT} (d0 : ¬ i = j) (d1 : ¬ a = w) (d2 : ¬ a = r) (d3 : ¬ a = w') (d4 : ¬ a = r') (d5 : ¬ w = w') (d6 : ¬ w = r') (d8 : ¬ r = w') (d9 : ¬ r = r') : mW (mW h a j w' r' u) a i w r t = mW (mW h a i w r t) a j w' r' u := by
  refine mh_ext (fun b k => ?_) rfl
  simp only [mW, mi_pi]
  by_cases c0 : b = a
  · subst c0
    simp only [d1, d2, d3, d4, false_and, if_false, true_and]
    by_cases c1 : k = i
    · have : ¬ k = j := fun z => d0 (c1.symm.trans z)
      simp only [if_pos c1, if_neg this]
    · simp only [if_neg c1]
  by_cases c : b = w ∨ b = r
  · have n2 : ¬ b = w' := fun z => by
      rcases c with c | c
      · exact d5 (c.symm.trans z)
      · exact d8 (c.symm.trans z)
    have n3 : ¬ b = r' := fun z => by
      rcases c with c | c
      · exact d6 (c.symm.trans z)
      · exact d9 (c.symm.trans z)
    simp only [n2, n3, c0, false_and, if_false]
  · have n2 : ¬ b = w := fun z => c (Or.inl z)
    have n3 : ¬ b = r := fun z => c (Or.inr z)
    simp only [n2, n3, c0, false_and, if_false]
set_option maxRecDepth 100000 in
theorem qN_0 : ∀ t ∈ QS0, (t.2.2.2.2.1 - t.2.2.2.1 = 0 → lyF t = 0 ∧ ¬ 0 < t.2.2.2.2.1 - t.2.2.2.1) ∧ (¬ t.2.2.2.2.1 - t.2.2.2.1 = 0 → 0 < t.2.2.2.2.1 - t.2.2.2.1 ∧ lyF (seF 1 5 (goF t)) = lyF t - 1 ∧ ¬ lyF t = 0) ∧ lyF t = Int32.ofNat (lyF t).toNatClampNeg ∧ (lyF t).toNatClampNeg < 10 ∧ (t.2.1 - t.1 = 0 → ¬ 0 < t.2.1 - t.1) ∧ (¬ t.2.1 - t.1 = 0 → 0 < t.2.1 - t.1) := by
  decide +kernel
set_option maxRecDepth 100000 in
theorem qN_1 : ∀ t ∈ QS1, (t.2.2.2.2.1 - t.2.2.2.1 = 0 → lyF t = 0 ∧ ¬ 0 < t.2.2.2.2.1 - t.2.2.2.1) ∧ (¬ t.2.2.2.2.1 - t.2.2.2.1 = 0 → 0 < t.2.2.2.2.1 - t.2.2.2.1 ∧ lyF (seF 1 3 (goF t)) = lyF t - 1 ∧ ¬ lyF t = 0) ∧ lyF t = Int32.ofNat (lyF t).toNatClampNeg ∧ (lyF t).toNatClampNeg < 10 ∧ (t.2.1 - t.1 = 0 → ¬ 0 < t.2.1 - t.1) ∧ (¬ t.2.1 - t.1 = 0 → 0 < t.2.1 - t.1) := by
  decide +kernel
set_option maxRecDepth 100000 in
theorem qN_2 : ∀ t ∈ QS2, (t.2.2.2.2.1 - t.2.2.2.1 = 0 → lyF t = 0 ∧ ¬ 0 < t.2.2.2.2.1 - t.2.2.2.1) ∧ (¬ t.2.2.2.2.1 - t.2.2.2.1 = 0 → 0 < t.2.2.2.2.1 - t.2.2.2.1 ∧ lyF (seF 0 6 (goF t)) = lyF t - 1 ∧ ¬ lyF t = 0) ∧ lyF t = Int32.ofNat (lyF t).toNatClampNeg ∧ (lyF t).toNatClampNeg < 10 ∧ (t.2.1 - t.1 = 0 → ¬ 0 < t.2.1 - t.1) ∧ (¬ t.2.1 - t.1 = 0 → 0 < t.2.1 - t.1) := by
  decide +kernel
theorem Vq0_pL3 {A : Nat → Nat} {m : MH} {f : Nat → Int64} (hA : inj40 A) : Vq0 A (p_L m (A 3) f) = Vq0 A m := by
  simp only [Vq0, cT, mT, pL_i]
theorem Vq0_pL23 {A : Nat → Nat} {m : MH} {f : Nat → Int64} (hA : inj40 A) : Vq0 A (p_L m (A 23) f) = Vq0 A m := by
  simp only [Vq0, cT, mT, pL_i]
theorem Vq1_pL3 {A : Nat → Nat} {m : MH} {f : Nat → Int64} (hA : inj40 A) : Vq1 A (p_L m (A 3) f) = Vq1 A m := by
  simp only [Vq1, cT, mT, pL_i]
theorem Vq1_pL23 {A : Nat → Nat} {m : MH} {f : Nat → Int64} (hA : inj40 A) : Vq1 A (p_L m (A 23) f) = Vq1 A m := by
  simp only [Vq1, cT, mT, pL_i]
theorem Vq2_pL3 {A : Nat → Nat} {m : MH} {f : Nat → Int64} (hA : inj40 A) : Vq2 A (p_L m (A 3) f) = Vq2 A m := by
  simp only [Vq2, cT, mT, pL_i]
theorem Vq2_pL23 {A : Nat → Nat} {m : MH} {f : Nat → Int64} (hA : inj40 A) : Vq2 A (p_L m (A 23) f) = Vq2 A m := by
  simp only [Vq2, cT, mT, pL_i]
theorem Vp_pL3 {A : Nat → Nat} {m : MH} {f : Nat → Int64} (hA : inj40 A) : Vp A (p_L m (A 3) f) = Vp A m := by
  simp only [Vp, pL_i]
theorem Vp_pL23 {A : Nat → Nat} {m : MH} {f : Nat → Int64} (hA : inj40 A) : Vp A (p_L m (A 23) f) = Vp A m := by
  simp only [Vp, pL_i]
theorem Vl0_pL3 {A : Nat → Nat} {m : MH} {f : Nat → Int64} (hA : inj40 A) : Vl0 A (p_L m (A 3) f) = Vl0 A m := by
  simp only [Vl0, pL_i]
theorem Vl0_pL23 {A : Nat → Nat} {m : MH} {f : Nat → Int64} (hA : inj40 A) : Vl0 A (p_L m (A 23) f) = Vl0 A m := by
  simp only [Vl0, pL_i]
theorem Vl1_pL3 {A : Nat → Nat} {m : MH} {f : Nat → Int64} (hA : inj40 A) : Vl1 A (p_L m (A 3) f) = Vl1 A m := by
  simp only [Vl1, pL_i]
theorem Vl1_pL23 {A : Nat → Nat} {m : MH} {f : Nat → Int64} (hA : inj40 A) : Vl1 A (p_L m (A 23) f) = Vl1 A m := by
  simp only [Vl1, pL_i]
theorem Vsr_pL3 {A : Nat → Nat} {m : MH} {f : Nat → Int64} (hA : inj40 A) : Vsr A (p_L m (A 3) f) = Vsr A m := by
  simp only [Vsr, pL_i, pL_l, if_false, Nat.reduceEqDiff, (hA_4_3 hA)]
theorem Vsr_pL23 {A : Nat → Nat} {m : MH} {f : Nat → Int64} (hA : inj40 A) : Vsr A (p_L m (A 23) f) = Vsr A m := by
  simp only [Vsr, pL_i, pL_l, if_false, Nat.reduceEqDiff, (hA_4_23 hA)]
theorem Cn_pL3 {A : Nat → Nat} {m : MH} {f : Nat → Int64} (hA : inj40 A) : Cn A (p_L m (A 3) f) = Cn A m := by
  simp only [Cn, pL_i]
theorem Cn_pL23 {A : Nat → Nat} {m : MH} {f : Nat → Int64} (hA : inj40 A) : Cn A (p_L m (A 23) f) = Cn A m := by
  simp only [Cn, pL_i]
theorem Tx_pL3 {A : Nat → Nat} {m : MH} {f : Nat → Int64} (hA : inj40 A) : Tx A (p_L m (A 3) f) = Tx A m := by
  simp only [Tx, pL_i, pL_r, pL_c, pL_n, pL_z, pL_t]
theorem Tx_pL23 {A : Nat → Nat} {m : MH} {f : Nat → Int64} (hA : inj40 A) : Tx A (p_L m (A 23) f) = Tx A m := by
  simp only [Tx, pL_i, pL_r, pL_c, pL_n, pL_z, pL_t]
theorem cT0_cW1 {A : Nat → Nat} {h : MH} {t : QT} (hA : inj40 A) : cT (cW (h) (A 6) (A 10) (A 11) t) (A 5) (A 8) (A 9) = cT h (A 5) (A 8) (A 9) := by
  simp only [cT, icw1_j5 hA, icw1_j8 hA, icw1_j9 hA]
theorem mT0_mW1 {A : Nat → Nat} {h : MH} {t : QT} (hA : inj40 A) : mT (mW (h) (A 27) 1 (A 32) (A 35) t) (A 27) 0 (A 31) (A 34) = mT h (A 27) 0 (A 31) (A 34) := by
  simp only [mT, mW, mi_pi, (hA_27_32 hA), (hA_27_35 hA), (hA_31_27 hA), (hA_31_32 hA), (hA_31_35 hA), (hA_34_27 hA), (hA_34_32 hA), (hA_34_35 hA), Nat.reduceEqDiff, and_false, false_and, if_false]
theorem cT0_cW2 {A : Nat → Nat} {h : MH} {t : QT} (hA : inj40 A) : cT (cW (h) (A 7) (A 12) (A 13) t) (A 5) (A 8) (A 9) = cT h (A 5) (A 8) (A 9) := by
  simp only [cT, icw2_j5 hA, icw2_j8 hA, icw2_j9 hA]
theorem mT0_mW2 {A : Nat → Nat} {h : MH} {t : QT} (hA : inj40 A) : mT (mW (h) (A 27) 2 (A 33) (A 36) t) (A 27) 0 (A 31) (A 34) = mT h (A 27) 0 (A 31) (A 34) := by
  simp only [mT, mW, mi_pi, (hA_27_33 hA), (hA_27_36 hA), (hA_31_27 hA), (hA_31_33 hA), (hA_31_36 hA), (hA_34_27 hA), (hA_34_33 hA), (hA_34_36 hA), Nat.reduceEqDiff, and_false, false_and, if_false]
theorem cT1_cW0 {A : Nat → Nat} {h : MH} {t : QT} (hA : inj40 A) : cT (cW (h) (A 5) (A 8) (A 9) t) (A 6) (A 10) (A 11) = cT h (A 6) (A 10) (A 11) := by
  simp only [cT, icw0_j6 hA, icw0_j10 hA, icw0_j11 hA]
theorem mT1_mW0 {A : Nat → Nat} {h : MH} {t : QT} (hA : inj40 A) : mT (mW (h) (A 27) 0 (A 31) (A 34) t) (A 27) 1 (A 32) (A 35) = mT h (A 27) 1 (A 32) (A 35) := by
  simp only [mT, mW, mi_pi, (hA_27_31 hA), (hA_27_34 hA), (hA_32_27 hA), (hA_32_31 hA), (hA_32_34 hA), (hA_35_27 hA), (hA_35_31 hA), (hA_35_34 hA), Nat.reduceEqDiff, and_false, false_and, if_false]
theorem cT1_cW2 {A : Nat → Nat} {h : MH} {t : QT} (hA : inj40 A) : cT (cW (h) (A 7) (A 12) (A 13) t) (A 6) (A 10) (A 11) = cT h (A 6) (A 10) (A 11) := by
  simp only [cT, icw2_j6 hA, icw2_j10 hA, icw2_j11 hA]
theorem mT1_mW2 {A : Nat → Nat} {h : MH} {t : QT} (hA : inj40 A) : mT (mW (h) (A 27) 2 (A 33) (A 36) t) (A 27) 1 (A 32) (A 35) = mT h (A 27) 1 (A 32) (A 35) := by
  simp only [mT, mW, mi_pi, (hA_27_33 hA), (hA_27_36 hA), (hA_32_27 hA), (hA_32_33 hA), (hA_32_36 hA), (hA_35_27 hA), (hA_35_33 hA), (hA_35_36 hA), Nat.reduceEqDiff, and_false, false_and, if_false]
theorem cT2_cW0 {A : Nat → Nat} {h : MH} {t : QT} (hA : inj40 A) : cT (cW (h) (A 5) (A 8) (A 9) t) (A 7) (A 12) (A 13) = cT h (A 7) (A 12) (A 13) := by
  simp only [cT, icw0_j7 hA, icw0_j12 hA, icw0_j13 hA]
theorem mT2_mW0 {A : Nat → Nat} {h : MH} {t : QT} (hA : inj40 A) : mT (mW (h) (A 27) 0 (A 31) (A 34) t) (A 27) 2 (A 33) (A 36) = mT h (A 27) 2 (A 33) (A 36) := by
  simp only [mT, mW, mi_pi, (hA_27_31 hA), (hA_27_34 hA), (hA_33_27 hA), (hA_33_31 hA), (hA_33_34 hA), (hA_36_27 hA), (hA_36_31 hA), (hA_36_34 hA), Nat.reduceEqDiff, and_false, false_and, if_false]
theorem cT2_cW1 {A : Nat → Nat} {h : MH} {t : QT} (hA : inj40 A) : cT (cW (h) (A 6) (A 10) (A 11) t) (A 7) (A 12) (A 13) = cT h (A 7) (A 12) (A 13) := by
  simp only [cT, icw1_j7 hA, icw1_j12 hA, icw1_j13 hA]
theorem mT2_mW1 {A : Nat → Nat} {h : MH} {t : QT} (hA : inj40 A) : mT (mW (h) (A 27) 1 (A 32) (A 35) t) (A 27) 2 (A 33) (A 36) = mT h (A 27) 2 (A 33) (A 36) := by
  simp only [mT, mW, mi_pi, (hA_27_32 hA), (hA_27_35 hA), (hA_33_27 hA), (hA_33_32 hA), (hA_33_35 hA), (hA_36_27 hA), (hA_36_32 hA), (hA_36_35 hA), Nat.reduceEqDiff, and_false, false_and, if_false]
theorem cWx01 {A : Nat → Nat} {h : MH} {t u v : QT} (hA : inj40 A) : cW (cW (cW (h) (A 5) (A 8) (A 9) t) (A 6) (A 10) (A 11) u) (A 5) (A 8) (A 9) v = cW (cW (h) (A 5) (A 8) (A 9) v) (A 6) (A 10) (A 11) u := by
  rw [cW_comm (fun z => absurd ((hA_5_6 hA).mp z) (by decide)) (fun z => absurd ((hA_5_10 hA).mp z) (by decide)) (fun z => absurd ((hA_5_11 hA).mp z) (by decide)) (fun z => absurd ((hA_8_6 hA).mp z) (by decide)) (fun z => absurd ((hA_8_10 hA).mp z) (by decide)) (fun z => absurd ((hA_8_11 hA).mp z) (by decide)) (fun z => absurd ((hA_9_6 hA).mp z) (by decide)) (fun z => absurd ((hA_9_10 hA).mp z) (by decide)) (fun z => absurd ((hA_9_11 hA).mp z) (by decide)), cW_cW]
theorem mWx01 {A : Nat → Nat} {h : MH} {t u v : QT} (hA : inj40 A) : mW (mW (mW (h) (A 27) 0 (A 31) (A 34) t) (A 27) 1 (A 32) (A 35) u) (A 27) 0 (A 31) (A 34) v = mW (mW (h) (A 27) 0 (A 31) (A 34) v) (A 27) 1 (A 32) (A 35) u := by
  rw [mW_comm (by decide) (fun z => absurd ((hA_27_31 hA).mp z) (by decide)) (fun z => absurd ((hA_27_34 hA).mp z) (by decide)) (fun z => absurd ((hA_27_32 hA).mp z) (by decide)) (fun z => absurd ((hA_27_35 hA).mp z) (by decide)) (fun z => absurd ((hA_31_32 hA).mp z) (by decide)) (fun z => absurd ((hA_31_35 hA).mp z) (by decide)) (fun z => absurd ((hA_34_32 hA).mp z) (by decide)) (fun z => absurd ((hA_34_35 hA).mp z) (by decide)), mW_mW]
theorem cWx02 {A : Nat → Nat} {h : MH} {t u v : QT} (hA : inj40 A) : cW (cW (cW (h) (A 5) (A 8) (A 9) t) (A 7) (A 12) (A 13) u) (A 5) (A 8) (A 9) v = cW (cW (h) (A 5) (A 8) (A 9) v) (A 7) (A 12) (A 13) u := by
  rw [cW_comm (fun z => absurd ((hA_5_7 hA).mp z) (by decide)) (fun z => absurd ((hA_5_12 hA).mp z) (by decide)) (fun z => absurd ((hA_5_13 hA).mp z) (by decide)) (fun z => absurd ((hA_8_7 hA).mp z) (by decide)) (fun z => absurd ((hA_8_12 hA).mp z) (by decide)) (fun z => absurd ((hA_8_13 hA).mp z) (by decide)) (fun z => absurd ((hA_9_7 hA).mp z) (by decide)) (fun z => absurd ((hA_9_12 hA).mp z) (by decide)) (fun z => absurd ((hA_9_13 hA).mp z) (by decide)), cW_cW]
theorem mWx02 {A : Nat → Nat} {h : MH} {t u v : QT} (hA : inj40 A) : mW (mW (mW (h) (A 27) 0 (A 31) (A 34) t) (A 27) 2 (A 33) (A 36) u) (A 27) 0 (A 31) (A 34) v = mW (mW (h) (A 27) 0 (A 31) (A 34) v) (A 27) 2 (A 33) (A 36) u := by
  rw [mW_comm (by decide) (fun z => absurd ((hA_27_31 hA).mp z) (by decide)) (fun z => absurd ((hA_27_34 hA).mp z) (by decide)) (fun z => absurd ((hA_27_33 hA).mp z) (by decide)) (fun z => absurd ((hA_27_36 hA).mp z) (by decide)) (fun z => absurd ((hA_31_33 hA).mp z) (by decide)) (fun z => absurd ((hA_31_36 hA).mp z) (by decide)) (fun z => absurd ((hA_34_33 hA).mp z) (by decide)) (fun z => absurd ((hA_34_36 hA).mp z) (by decide)), mW_mW]
theorem cWx10 {A : Nat → Nat} {h : MH} {t u v : QT} (hA : inj40 A) : cW (cW (cW (h) (A 6) (A 10) (A 11) t) (A 5) (A 8) (A 9) u) (A 6) (A 10) (A 11) v = cW (cW (h) (A 6) (A 10) (A 11) v) (A 5) (A 8) (A 9) u := by
  rw [cW_comm (fun z => absurd ((hA_6_5 hA).mp z) (by decide)) (fun z => absurd ((hA_6_8 hA).mp z) (by decide)) (fun z => absurd ((hA_6_9 hA).mp z) (by decide)) (fun z => absurd ((hA_10_5 hA).mp z) (by decide)) (fun z => absurd ((hA_10_8 hA).mp z) (by decide)) (fun z => absurd ((hA_10_9 hA).mp z) (by decide)) (fun z => absurd ((hA_11_5 hA).mp z) (by decide)) (fun z => absurd ((hA_11_8 hA).mp z) (by decide)) (fun z => absurd ((hA_11_9 hA).mp z) (by decide)), cW_cW]
theorem mWx10 {A : Nat → Nat} {h : MH} {t u v : QT} (hA : inj40 A) : mW (mW (mW (h) (A 27) 1 (A 32) (A 35) t) (A 27) 0 (A 31) (A 34) u) (A 27) 1 (A 32) (A 35) v = mW (mW (h) (A 27) 1 (A 32) (A 35) v) (A 27) 0 (A 31) (A 34) u := by
  rw [mW_comm (by decide) (fun z => absurd ((hA_27_32 hA).mp z) (by decide)) (fun z => absurd ((hA_27_35 hA).mp z) (by decide)) (fun z => absurd ((hA_27_31 hA).mp z) (by decide)) (fun z => absurd ((hA_27_34 hA).mp z) (by decide)) (fun z => absurd ((hA_32_31 hA).mp z) (by decide)) (fun z => absurd ((hA_32_34 hA).mp z) (by decide)) (fun z => absurd ((hA_35_31 hA).mp z) (by decide)) (fun z => absurd ((hA_35_34 hA).mp z) (by decide)), mW_mW]
theorem cWx12 {A : Nat → Nat} {h : MH} {t u v : QT} (hA : inj40 A) : cW (cW (cW (h) (A 6) (A 10) (A 11) t) (A 7) (A 12) (A 13) u) (A 6) (A 10) (A 11) v = cW (cW (h) (A 6) (A 10) (A 11) v) (A 7) (A 12) (A 13) u := by
  rw [cW_comm (fun z => absurd ((hA_6_7 hA).mp z) (by decide)) (fun z => absurd ((hA_6_12 hA).mp z) (by decide)) (fun z => absurd ((hA_6_13 hA).mp z) (by decide)) (fun z => absurd ((hA_10_7 hA).mp z) (by decide)) (fun z => absurd ((hA_10_12 hA).mp z) (by decide)) (fun z => absurd ((hA_10_13 hA).mp z) (by decide)) (fun z => absurd ((hA_11_7 hA).mp z) (by decide)) (fun z => absurd ((hA_11_12 hA).mp z) (by decide)) (fun z => absurd ((hA_11_13 hA).mp z) (by decide)), cW_cW]
theorem mWx12 {A : Nat → Nat} {h : MH} {t u v : QT} (hA : inj40 A) : mW (mW (mW (h) (A 27) 1 (A 32) (A 35) t) (A 27) 2 (A 33) (A 36) u) (A 27) 1 (A 32) (A 35) v = mW (mW (h) (A 27) 1 (A 32) (A 35) v) (A 27) 2 (A 33) (A 36) u := by
  rw [mW_comm (by decide) (fun z => absurd ((hA_27_32 hA).mp z) (by decide)) (fun z => absurd ((hA_27_35 hA).mp z) (by decide)) (fun z => absurd ((hA_27_33 hA).mp z) (by decide)) (fun z => absurd ((hA_27_36 hA).mp z) (by decide)) (fun z => absurd ((hA_32_33 hA).mp z) (by decide)) (fun z => absurd ((hA_32_36 hA).mp z) (by decide)) (fun z => absurd ((hA_35_33 hA).mp z) (by decide)) (fun z => absurd ((hA_35_36 hA).mp z) (by decide)), mW_mW]
theorem cWx20 {A : Nat → Nat} {h : MH} {t u v : QT} (hA : inj40 A) : cW (cW (cW (h) (A 7) (A 12) (A 13) t) (A 5) (A 8) (A 9) u) (A 7) (A 12) (A 13) v = cW (cW (h) (A 7) (A 12) (A 13) v) (A 5) (A 8) (A 9) u := by
  rw [cW_comm (fun z => absurd ((hA_7_5 hA).mp z) (by decide)) (fun z => absurd ((hA_7_8 hA).mp z) (by decide)) (fun z => absurd ((hA_7_9 hA).mp z) (by decide)) (fun z => absurd ((hA_12_5 hA).mp z) (by decide)) (fun z => absurd ((hA_12_8 hA).mp z) (by decide)) (fun z => absurd ((hA_12_9 hA).mp z) (by decide)) (fun z => absurd ((hA_13_5 hA).mp z) (by decide)) (fun z => absurd ((hA_13_8 hA).mp z) (by decide)) (fun z => absurd ((hA_13_9 hA).mp z) (by decide)), cW_cW]
theorem mWx20 {A : Nat → Nat} {h : MH} {t u v : QT} (hA : inj40 A) : mW (mW (mW (h) (A 27) 2 (A 33) (A 36) t) (A 27) 0 (A 31) (A 34) u) (A 27) 2 (A 33) (A 36) v = mW (mW (h) (A 27) 2 (A 33) (A 36) v) (A 27) 0 (A 31) (A 34) u := by
  rw [mW_comm (by decide) (fun z => absurd ((hA_27_33 hA).mp z) (by decide)) (fun z => absurd ((hA_27_36 hA).mp z) (by decide)) (fun z => absurd ((hA_27_31 hA).mp z) (by decide)) (fun z => absurd ((hA_27_34 hA).mp z) (by decide)) (fun z => absurd ((hA_33_31 hA).mp z) (by decide)) (fun z => absurd ((hA_33_34 hA).mp z) (by decide)) (fun z => absurd ((hA_36_31 hA).mp z) (by decide)) (fun z => absurd ((hA_36_34 hA).mp z) (by decide)), mW_mW]
theorem cWx21 {A : Nat → Nat} {h : MH} {t u v : QT} (hA : inj40 A) : cW (cW (cW (h) (A 7) (A 12) (A 13) t) (A 6) (A 10) (A 11) u) (A 7) (A 12) (A 13) v = cW (cW (h) (A 7) (A 12) (A 13) v) (A 6) (A 10) (A 11) u := by
  rw [cW_comm (fun z => absurd ((hA_7_6 hA).mp z) (by decide)) (fun z => absurd ((hA_7_10 hA).mp z) (by decide)) (fun z => absurd ((hA_7_11 hA).mp z) (by decide)) (fun z => absurd ((hA_12_6 hA).mp z) (by decide)) (fun z => absurd ((hA_12_10 hA).mp z) (by decide)) (fun z => absurd ((hA_12_11 hA).mp z) (by decide)) (fun z => absurd ((hA_13_6 hA).mp z) (by decide)) (fun z => absurd ((hA_13_10 hA).mp z) (by decide)) (fun z => absurd ((hA_13_11 hA).mp z) (by decide)), cW_cW]
theorem mWx21 {A : Nat → Nat} {h : MH} {t u v : QT} (hA : inj40 A) : mW (mW (mW (h) (A 27) 2 (A 33) (A 36) t) (A 27) 1 (A 32) (A 35) u) (A 27) 2 (A 33) (A 36) v = mW (mW (h) (A 27) 2 (A 33) (A 36) v) (A 27) 1 (A 32) (A 35) u := by
  rw [mW_comm (by decide) (fun z => absurd ((hA_27_33 hA).mp z) (by decide)) (fun z => absurd ((hA_27_36 hA).mp z) (by decide)) (fun z => absurd ((hA_27_32 hA).mp z) (by decide)) (fun z => absurd ((hA_27_35 hA).mp z) (by decide)) (fun z => absurd ((hA_33_32 hA).mp z) (by decide)) (fun z => absurd ((hA_33_35 hA).mp z) (by decide)) (fun z => absurd ((hA_36_32 hA).mp z) (by decide)) (fun z => absurd ((hA_36_35 hA).mp z) (by decide)), mW_mW]
theorem i27_mW0 {A : Nat → Nat} {h : MH} {t : QT} (hA : inj40 A) {k : Nat} (hk : ¬ k = 0) : g_i (mW (h) (A 27) 0 (A 31) (A 34) t) (A 27) k = g_i h (A 27) k := by
  simp only [mW, mi_pi, (hA_27_31 hA), (hA_27_34 hA), Nat.reduceEqDiff, hk, and_false, false_and, if_false]
theorem i27_mW1 {A : Nat → Nat} {h : MH} {t : QT} (hA : inj40 A) {k : Nat} (hk : ¬ k = 1) : g_i (mW (h) (A 27) 1 (A 32) (A 35) t) (A 27) k = g_i h (A 27) k := by
  simp only [mW, mi_pi, (hA_27_32 hA), (hA_27_35 hA), Nat.reduceEqDiff, hk, and_false, false_and, if_false]
theorem i27_mW2 {A : Nat → Nat} {h : MH} {t : QT} (hA : inj40 A) {k : Nat} (hk : ¬ k = 2) : g_i (mW (h) (A 27) 2 (A 33) (A 36) t) (A 27) k = g_i h (A 27) k := by
  simp only [mW, mi_pi, (hA_27_33 hA), (hA_27_36 hA), Nat.reduceEqDiff, hk, and_false, false_and, if_false]

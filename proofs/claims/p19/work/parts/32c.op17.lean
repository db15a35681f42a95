theorem pcs02 {A : Nat → Nat} {h : MH} {t u : QT} {rc : Nat → Int64} {n M : Nat} {Q : MR → MH → Prop} (vk : K A h) (vcn : Cn A h) (m1 : t ∈ QS0) (m2 : u ∈ QS2) (e1 : ¬ t.2.2.2.2.1 - t.2.2.2.1 = 0) (e2 : ¬ u.2.1 - u.1 = 0) (hn : (Int32.ofNat n < Int32.ofNat M) = True) : Ok 73 37 [.ref (A 0), .int 0, .int 2, .ref (A 5), .ref (A 7), .int (Int32.ofNat M), .int (Int32.ofNat n)] [] (cW (cW (p_L h (A 3) (rc)) (A 5) (A 8) (A 9) t) (A 7) (A 12) (A 13) u) 1 6 Q ↔ Ok 73 37 [.ref (A 0), .int 0, .int 2, .ref (A 5), .ref (A 7), .int (Int32.ofNat M), .int (Int32.ofNat (n + 1))] [] (cW (cW (p_L h (A 3) (fun x => if x = (9 + u.1).toNatClampNeg then rc (1 + t.2.2.2.1).toNatClampNeg else rc x)) (A 5) (A 8) (A 9) (seF 1 5 (goF t))) (A 7) (A 12) (A 13) (seF 0 6 (ciF u))) 1 6 Q := by
  have vk0 := vk
  have vcn0 := vcn
  (refine K_el vk0 ?_; intros hA kc0 kc1 kc2 kc3 kc4 kc5 kc6 kc7 kc8 kc9 kc10 kc11 kc12 kc13 kc14 kc15 kc16 kc17 kc18 kc19 kc20 kc21 kc22 kc23 kc24 kc25 kc26 kc27 kc28 kc29 kc30 kc31 kc32 kc33 kc34 kc35 kc36 kc37 kc38 kc39 kz kt kn3 kn4 kn18 kn21 kn23 kn24 kn25 kn26 kn27 kn29 kn30 kr0_0 kr0_1 kr0_2 kr0_3 kr0_4 kr0_5 kr0_7 kr0_8 kr0_9 kr0_10 kr1_0 kr2_0 kr5_0 kr5_1 kr6_0 kr6_1 kr7_0 kr7_1 kr8_0 kr9_0 kr10_0 kr11_0 kr12_0 kr13_0 kr14_0 kr15_0 kr16_0 kr17_0 kr19_0 kr19_1 kr22_0 kr22_1 kr22_2 kr22_3 kr22_4 kr22_5 kr22_7 kr22_8 kr25_0 kr25_1 kr25_2 kr26_0 kr26_1 kr26_2 kr29_0 kr29_1)
  (refine Cn_el vcn0 ?_; intros ki5_2 ki6_2 ki7_2 ki8_1 ki8_2 ki8_3 ki9_1 ki9_2 ki9_3 ki10_1 ki10_2 ki10_3 ki11_1 ki11_2 ki11_3 ki12_1 ki12_2 ki12_3 ki13_1 ki13_2 ki13_3 ki14_1 ki14_2 ki14_3 ki28_0 ki28_1 ki31_0 ki31_1 ki32_0 ki32_1 ki33_0 ki33_1 ki34_0 ki34_1 ki35_0 ki35_1 ki36_0 ki36_1)
  have hAe : ∀ i j, i < 40 → j < 40 → (A i = A j ↔ i = j) := hA
  obtain ⟨i1, i2, hj, hq1⟩ := (qO_0 _ m1).resolve_left e1
  obtain ⟨i3, i4, hk, hq2⟩ := (qI_2 _ m2).resolve_left e2
  have hn1 : Int32.ofNat n + 1 = Int32.ofNat (n + 1) := n_add n 1
  have nq : ¬ A 8 = A 9 := fun z => absurd ((hAe 8 9 (by decide) (by decide)).mp z) (by decide)
  have nq2 : ¬ A 12 = A 13 := fun z => absurd ((hAe 12 13 (by decide) (by decide)).mp z) (by decide)
  rw [o73_37]
  simp only [o73_39, o73_41, o73_44, o73_46, o73_49, o73_52, o73_54, o73_55, o73_58, o73_61, o73_64, c_X1_hasNoRest (w := A 12) (r := A 13), c_X1_goOut (w := A 8) (r := A 9) (rw := A 1) (cs := A 3) (n := 16) (sz := 5) (ring := 1), c_X1_comeIn (w := A 12) (r := A 13) (rw := A 1) (cs := A 3) (n := 16) (sz := 6) (ring := 0), mcs_0, mcs_r, Kn_v, Kn_0, true_and, not_true_eq_false, not_false_eq_true, false_implies, forall_const, if_true, if_false, Nat.reduceEqDiff, Nat.reduceLeDiff, Nat.reduceAdd, Nat.zero_le, lt_le, Nat.reduceLT, hAe, c_cW, n_cW, r_cW, z_cW, l_cW, i_cW_q2, i_cW_w1, i_cW_w2, i_cW_w3, i_cW_r1, i_cW_r2, (hA_12_7 hA), icw2_j5 hA, icw2_j8 hA, icw2_j9 hA, icw0_j7 hA, icw0_j12 hA, icw0_j13 hA, icx2_0 hA, icx2_1 hA, icx0_3 hA, icx0_4 hA, pL_c, pL_n, pL_r, pL_i, pL_z, pL_l, kc1, kc3, kc5, kc7, kc8, kc9, kc12, kc13, kn3, kr1_0, kr5_0, kr5_1, kr7_0, kr7_1, kr9_0, kr12_0, kz, ki5_2, ki7_2, ki8_2, ki9_1, ki9_2, ki12_1, ki12_2, ki12_3, ki13_2, hn, hn1, e1, e2, i1, i2, hj, i3, i4, hk, cT0_cW2 hA, cT0_cW hA, cT2_cW hA, cWx02 hA, cW_cW, p_l_cW, pL_pl]

theorem pce02 {A : Nat → Nat} {h : MH} {t u : QT} {rc : Nat → Int64} {n M : Nat} {Q : MR → MH → Prop} (vk : K A h) (vcn : Cn A h) (m1 : t ∈ QS0) (m2 : u ∈ QS2) (hs : (Int32.ofNat n < Int32.ofNat M) = False ∨ u.2.1 - u.1 = 0) : Ok 73 37 [.ref (A 0), .int 0, .int 2, .ref (A 5), .ref (A 7), .int (Int32.ofNat M), .int (Int32.ofNat n)] [] (cW (cW (p_L h (A 3) (rc)) (A 5) (A 8) (A 9) t) (A 7) (A 12) (A 13) u) 1 6 Q ↔ Ok 73 67 [.ref (A 0), .int 0, .int 2, .ref (A 5), .ref (A 7), .int (Int32.ofNat M), .int (Int32.ofNat n)] [] (cW (cW (p_L h (A 3) (rc)) (A 5) (A 8) (A 9) t) (A 7) (A 12) (A 13) u) 1 6 Q := by
  have vk0 := vk
  have vcn0 := vcn
  (refine K_el vk0 ?_; intros hA kc0 kc1 kc2 kc3 kc4 kc5 kc6 kc7 kc8 kc9 kc10 kc11 kc12 kc13 kc14 kc15 kc16 kc17 kc18 kc19 kc20 kc21 kc22 kc23 kc24 kc25 kc26 kc27 kc28 kc29 kc30 kc31 kc32 kc33 kc34 kc35 kc36 kc37 kc38 kc39 kz kt kn3 kn4 kn18 kn21 kn23 kn24 kn25 kn26 kn27 kn29 kn30 kr0_0 kr0_1 kr0_2 kr0_3 kr0_4 kr0_5 kr0_7 kr0_8 kr0_9 kr0_10 kr1_0 kr2_0 kr5_0 kr5_1 kr6_0 kr6_1 kr7_0 kr7_1 kr8_0 kr9_0 kr10_0 kr11_0 kr12_0 kr13_0 kr14_0 kr15_0 kr16_0 kr17_0 kr19_0 kr19_1 kr22_0 kr22_1 kr22_2 kr22_3 kr22_4 kr22_5 kr22_7 kr22_8 kr25_0 kr25_1 kr25_2 kr26_0 kr26_1 kr26_2 kr29_0 kr29_1)
  (refine Cn_el vcn0 ?_; intros ki5_2 ki6_2 ki7_2 ki8_1 ki8_2 ki8_3 ki9_1 ki9_2 ki9_3 ki10_1 ki10_2 ki10_3 ki11_1 ki11_2 ki11_3 ki12_1 ki12_2 ki12_3 ki13_1 ki13_2 ki13_3 ki14_1 ki14_2 ki14_3 ki28_0 ki28_1 ki31_0 ki31_1 ki32_0 ki32_1 ki33_0 ki33_1 ki34_0 ki34_1 ki35_0 ki35_1 ki36_0 ki36_1)
  have hAe : ∀ i j, i < 40 → j < 40 → (A i = A j ↔ i = j) := hA
  by_cases hn : Int32.ofNat n < Int32.ofNat M
  · have e2 : u.2.1 - u.1 = 0 := hs.resolve_left (fun z => by rw [z] at hn; exact hn)
    rw [o73_37]
    simp only [o73_39, o73_41, o73_44, o73_46, o73_49, o73_52, o73_54, o73_55, c_X1_hasNoRest (w := A 12) (r := A 13), mcs_0, mcs_r, Kn_v, true_and, and_true, not_true_eq_false, not_false_eq_true, false_implies, forall_const, if_true, Nat.reduceLeDiff, Nat.reduceAdd, Nat.zero_le, i10, lt_le, c_cW, r_cW, icx2_0 hA, icx2_1 hA, pL_c, pL_r, kc5, kc7, kc12, kc13, kr7_0, kr7_1, hn, e2]
    all_goals (try exact Iff.rfl)
  · rw [o73_37]
    simp only [o73_39, o73_41, o73_44, o73_46, mcs_0, true_and, and_true, not_true_eq_false, not_false_eq_true, false_implies, forall_const, Nat.zero_le, lt_le, hn]
    all_goals (try exact Iff.rfl)

theorem pms02 {A : Nat → Nat} {h : MH} {t u : QT} {rm : Nat → Int64} {n : Nat} {Q : MR → MH → Prop} (vk : K A h) (vcn : Cn A h) (m1 : t ∈ QS0) (m2 : u ∈ QS2) (e1 : ¬ t.2.2.2.2.1 - t.2.2.2.1 = 0) (e2 : ¬ u.2.1 - u.1 = 0) : Ok 197 40 [.ref (A 22), .int 0, .int 2, .int (Int32.ofNat n)] [] (mW (mW (p_L h (A 23) (rm)) (A 27) 0 (A 31) (A 34) t) (A 27) 2 (A 33) (A 36) u) 0 0 Q ↔ Ok 197 40 [.ref (A 22), .int 0, .int 2, .int (Int32.ofNat (n + 1))] [] (mW (mW (p_L h (A 23) (fun x => if x = (9 + u.1).toNatClampNeg then rm (1 + t.2.2.2.1).toNatClampNeg else rm x)) (A 27) 0 (A 31) (A 34) (seF 1 5 (goF t))) (A 27) 2 (A 33) (A 36) (seF 0 6 (ciF u))) 0 0 Q := by
  have vk0 := vk
  have vcn0 := vcn
  (refine K_el vk0 ?_; intros hA kc0 kc1 kc2 kc3 kc4 kc5 kc6 kc7 kc8 kc9 kc10 kc11 kc12 kc13 kc14 kc15 kc16 kc17 kc18 kc19 kc20 kc21 kc22 kc23 kc24 kc25 kc26 kc27 kc28 kc29 kc30 kc31 kc32 kc33 kc34 kc35 kc36 kc37 kc38 kc39 kz kt kn3 kn4 kn18 kn21 kn23 kn24 kn25 kn26 kn27 kn29 kn30 kr0_0 kr0_1 kr0_2 kr0_3 kr0_4 kr0_5 kr0_7 kr0_8 kr0_9 kr0_10 kr1_0 kr2_0 kr5_0 kr5_1 kr6_0 kr6_1 kr7_0 kr7_1 kr8_0 kr9_0 kr10_0 kr11_0 kr12_0 kr13_0 kr14_0 kr15_0 kr16_0 kr17_0 kr19_0 kr19_1 kr22_0 kr22_1 kr22_2 kr22_3 kr22_4 kr22_5 kr22_7 kr22_8 kr25_0 kr25_1 kr25_2 kr26_0 kr26_1 kr26_2 kr29_0 kr29_1)
  (refine Cn_el vcn0 ?_; intros ki5_2 ki6_2 ki7_2 ki8_1 ki8_2 ki8_3 ki9_1 ki9_2 ki9_3 ki10_1 ki10_2 ki10_3 ki11_1 ki11_2 ki11_3 ki12_1 ki12_2 ki12_3 ki13_1 ki13_2 ki13_3 ki14_1 ki14_2 ki14_3 ki28_0 ki28_1 ki31_0 ki31_1 ki32_0 ki32_1 ki33_0 ki33_1 ki34_0 ki34_1 ki35_0 ki35_1 ki36_0 ki36_1)
  have hAe : ∀ i j, i < 40 → j < 40 → (A i = A j ↔ i = j) := hA
  obtain ⟨i1, i2, hj, hq1⟩ := (qO_0 _ m1).resolve_left e1
  obtain ⟨i3, i4, hk, hq2⟩ := (qI_2 _ m2).resolve_left e2
  have ar0 : arok 0 t.2.2.2.2.2.2 := fun z => absurd (by decide) z
  have ar2 : arok 2 u.2.2.2.2.2.2 := fun _ => (qA_2 _ m2).2.1
  have e3 : (0 < t.2.2.2.2.1 - t.2.2.2.1) = True := eq_true ((qN_0 _ m1).2.1 e1).1
  have e4 : (0 < u.2.1 - u.1) = True := eq_true ((qN_2 _ m2).2.2.2.2.2 e2)
  have hj2 := hj.2.2
  have hk2 := hk.2.2
  have hn1 : Int32.ofNat n + 1 = Int32.ofNat (n + 1) := n_add n 1
  rw [o197_40]
  simp only [o197_41, o197_44, o197_45, o197_46, o197_49, o197_52, o197_53, o197_56, o197_57, o197_58, o197_61, o197_64, o197_65, o197_66, o197_67, o197_68, o197_71, o197_74, o197_77, c_X7_rests, c_X8_goOut (x2 := A 25) (x3 := A 26) (a := A 27) (w := A 31) (r := A 34) (lr := A 23) (sz := 5), c_X8_comeIn (x2 := A 25) (x3 := A 26) (a := A 27) (w := A 33) (r := A 36) (lr := A 23) (sz := 6), mcs_0, mcs_i, mcs_r, Kn_v, Kn_0, mrf_some, true_and, not_true_eq_false, not_false_eq_true, false_implies, forall_const, if_true, if_false, and_self, Nat.reduceEqDiff, Nat.reduceLeDiff, Nat.reduceAdd, Nat.zero_le, lt_le, Int32.reduceLT, cl0, cl2, Nat.reduceLT, hAe, c_mW, n_mW, r_mW, z_mW, l_mW, i_mW_w0, i_mW_w1, i_mW_r0, i_mW_r1, imw0_j33 hA, imw0_j36 hA, imw2_j31 hA, imw2_j34 hA, (hA_31_27 hA), (hA_34_27 hA), (hA_33_27 hA), (hA_36_27 hA), imw2_j31 hA, imw2_j34 hA, imw0_j33 hA, imw0_j36 hA, imx2_0 hA, imx2_1 hA, imx0_3 hA, imx0_4 hA, imx0_6 hA, imx2_6 hA, i27_mW2 hA (k := 0) (by decide), pL_c, pL_n, pL_r, pL_i, pL_z, pL_l, kc22, kc23, kc25, kc26, kc27, kc31, kc33, kc34, kc36, kn23, kn25, kn26, kn27, kr22_0, kr22_2, kr22_3, kr22_4, kr25_0, kr25_2, kr26_0, kr26_2, kz, ki31_1, ki33_0, ki33_1, ki34_0, ki34_1, ki36_1, ar0, ar2, vq3, cl0, cl2, Int32.reduceLT, hn1, e3, e4, hj2, hk2, mT0_mW2 hA, mT0_mW hA, mT2_mW hA, mWx02 hA, mW_mW, p_l_mW, pL_pl]

theorem pme02 {A : Nat → Nat} {h : MH} {t u : QT} {rm : Nat → Int64} {n : Nat} {Q : MR → MH → Prop} (vk : K A h) (vcn : Cn A h) (m1 : t ∈ QS0) (m2 : u ∈ QS2) (hs : t.2.2.2.2.1 - t.2.2.2.1 = 0 ∨ u.2.1 - u.1 = 0) : Ok 197 40 [.ref (A 22), .int 0, .int 2, .int (Int32.ofNat n)] [] (mW (mW (p_L h (A 23) (rm)) (A 27) 0 (A 31) (A 34) t) (A 27) 2 (A 33) (A 36) u) 0 0 Q ↔ Ok 197 80 [.ref (A 22), .int 0, .int 2, .int (Int32.ofNat n)] [] (mW (mW (p_L h (A 23) (rm)) (A 27) 0 (A 31) (A 34) t) (A 27) 2 (A 33) (A 36) u) 0 0 Q := by
  have vk0 := vk
  have vcn0 := vcn
  (refine K_el vk0 ?_; intros hA kc0 kc1 kc2 kc3 kc4 kc5 kc6 kc7 kc8 kc9 kc10 kc11 kc12 kc13 kc14 kc15 kc16 kc17 kc18 kc19 kc20 kc21 kc22 kc23 kc24 kc25 kc26 kc27 kc28 kc29 kc30 kc31 kc32 kc33 kc34 kc35 kc36 kc37 kc38 kc39 kz kt kn3 kn4 kn18 kn21 kn23 kn24 kn25 kn26 kn27 kn29 kn30 kr0_0 kr0_1 kr0_2 kr0_3 kr0_4 kr0_5 kr0_7 kr0_8 kr0_9 kr0_10 kr1_0 kr2_0 kr5_0 kr5_1 kr6_0 kr6_1 kr7_0 kr7_1 kr8_0 kr9_0 kr10_0 kr11_0 kr12_0 kr13_0 kr14_0 kr15_0 kr16_0 kr17_0 kr19_0 kr19_1 kr22_0 kr22_1 kr22_2 kr22_3 kr22_4 kr22_5 kr22_7 kr22_8 kr25_0 kr25_1 kr25_2 kr26_0 kr26_1 kr26_2 kr29_0 kr29_1)
  (refine Cn_el vcn0 ?_; intros ki5_2 ki6_2 ki7_2 ki8_1 ki8_2 ki8_3 ki9_1 ki9_2 ki9_3 ki10_1 ki10_2 ki10_3 ki11_1 ki11_2 ki11_3 ki12_1 ki12_2 ki12_3 ki13_1 ki13_2 ki13_3 ki14_1 ki14_2 ki14_3 ki28_0 ki28_1 ki31_0 ki31_1 ki32_0 ki32_1 ki33_0 ki33_1 ki34_0 ki34_1 ki35_0 ki35_1 ki36_0 ki36_1)
  have hAe : ∀ i j, i < 40 → j < 40 → (A i = A j ↔ i = j) := hA
  by_cases e1 : t.2.2.2.2.1 - t.2.2.2.1 = 0
  · have e3 : (0 < t.2.2.2.2.1 - t.2.2.2.1) = False := eq_false ((qN_0 _ m1).1 e1).2
    rw [o197_40]
    simp only [o197_41, o197_44, o197_45, o197_46, o197_49, o197_52, o197_53, o197_56, o197_57, o197_58, o197_61, o197_64, o197_65, o197_66, o197_67, o197_68, c_X7_rests, mcs_0, mcs_i, mcs_r, Kn_v, mrf_some, true_and, and_true, not_true_eq_false, not_false_eq_true, false_implies, forall_const, and_self, Nat.reduceLeDiff, Nat.reduceAdd, Nat.zero_le, lt_le, Classical.not_not, cl0, cl2, c_mW, n_mW, r_mW, imw2_j34 hA, imw2_j34 hA, imx2_0 hA, imx2_1 hA, imx0_3 hA, imx0_4 hA, pL_c, pL_n, pL_r, kc22, kc25, kc26, kc33, kc34, kn25, kn26, kr22_2, kr22_3, kr25_2, kr26_0, e3, vq3, cl0, cl2]
    all_goals (try exact Iff.rfl)
  · have e3 : (0 < t.2.2.2.2.1 - t.2.2.2.1) = True := eq_true ((qN_0 _ m1).2.1 e1).1
    have e4 : (0 < u.2.1 - u.1) = False := eq_false ((qN_2 _ m2).2.2.2.2.1 (hs.resolve_left e1))
    rw [o197_40]
    simp only [o197_41, o197_44, o197_45, o197_46, o197_49, o197_52, o197_53, o197_56, o197_57, o197_58, o197_61, o197_64, o197_65, o197_66, o197_67, o197_68, c_X7_rests, mcs_0, mcs_i, mcs_r, Kn_v, mrf_some, true_and, and_true, not_true_eq_false, not_false_eq_true, false_implies, forall_const, and_self, Nat.reduceLeDiff, Nat.reduceAdd, Nat.zero_le, lt_le, cl0, cl2, c_mW, n_mW, r_mW, imw2_j34 hA, imw2_j34 hA, imx2_0 hA, imx2_1 hA, imx0_3 hA, imx0_4 hA, pL_c, pL_n, pL_r, kc22, kc25, kc26, kc33, kc34, kn25, kn26, kr22_2, kr22_3, kr25_2, kr26_0, e3, e4, vq3, cl0, cl2]
    all_goals (try exact Iff.rfl)

theorem pcs10 {A : Nat → Nat} {h : MH} {t u : QT} {rc : Nat → Int64} {n M : Nat} {Q : MR → MH → Prop} (vk : K A h) (vcn : Cn A h) (m1 : t ∈ QS1) (m2 : u ∈ QS0) (e1 : ¬ t.2.2.2.2.1 - t.2.2.2.1 = 0) (e2 : ¬ u.2.1 - u.1 = 0) (hn : (Int32.ofNat n < Int32.ofNat M) = True) : Ok 73 37 [.ref (A 0), .int 1, .int 0, .ref (A 6), .ref (A 5), .int (Int32.ofNat M), .int (Int32.ofNat n)] [] (cW (cW (p_L h (A 3) (rc)) (A 6) (A 10) (A 11) t) (A 5) (A 8) (A 9) u) 1 6 Q ↔ Ok 73 37 [.ref (A 0), .int 1, .int 0, .ref (A 6), .ref (A 5), .int (Int32.ofNat M), .int (Int32.ofNat (n + 1))] [] (cW (cW (p_L h (A 3) (fun x => if x = (1 + u.1).toNatClampNeg then rc (6 + t.2.2.2.1).toNatClampNeg else rc x)) (A 6) (A 10) (A 11) (seF 1 3 (goF t))) (A 5) (A 8) (A 9) (seF 1 5 (ciF u))) 1 6 Q := by
  have vk0 := vk
  have vcn0 := vcn
  (refine K_el vk0 ?_; intros hA kc0 kc1 kc2 kc3 kc4 kc5 kc6 kc7 kc8 kc9 kc10 kc11 kc12 kc13 kc14 kc15 kc16 kc17 kc18 kc19 kc20 kc21 kc22 kc23 kc24 kc25 kc26 kc27 kc28 kc29 kc30 kc31 kc32 kc33 kc34 kc35 kc36 kc37 kc38 kc39 kz kt kn3 kn4 kn18 kn21 kn23 kn24 kn25 kn26 kn27 kn29 kn30 kr0_0 kr0_1 kr0_2 kr0_3 kr0_4 kr0_5 kr0_7 kr0_8 kr0_9 kr0_10 kr1_0 kr2_0 kr5_0 kr5_1 kr6_0 kr6_1 kr7_0 kr7_1 kr8_0 kr9_0 kr10_0 kr11_0 kr12_0 kr13_0 kr14_0 kr15_0 kr16_0 kr17_0 kr19_0 kr19_1 kr22_0 kr22_1 kr22_2 kr22_3 kr22_4 kr22_5 kr22_7 kr22_8 kr25_0 kr25_1 kr25_2 kr26_0 kr26_1 kr26_2 kr29_0 kr29_1)
  (refine Cn_el vcn0 ?_; intros ki5_2 ki6_2 ki7_2 ki8_1 ki8_2 ki8_3 ki9_1 ki9_2 ki9_3 ki10_1 ki10_2 ki10_3 ki11_1 ki11_2 ki11_3 ki12_1 ki12_2 ki12_3 ki13_1 ki13_2 ki13_3 ki14_1 ki14_2 ki14_3 ki28_0 ki28_1 ki31_0 ki31_1 ki32_0 ki32_1 ki33_0 ki33_1 ki34_0 ki34_1 ki35_0 ki35_1 ki36_0 ki36_1)
  have hAe : ∀ i j, i < 40 → j < 40 → (A i = A j ↔ i = j) := hA
  obtain ⟨i1, i2, hj, hq1⟩ := (qO_1 _ m1).resolve_left e1
  obtain ⟨i3, i4, hk, hq2⟩ := (qI_0 _ m2).resolve_left e2
  have hn1 : Int32.ofNat n + 1 = Int32.ofNat (n + 1) := n_add n 1
  have nq : ¬ A 10 = A 11 := fun z => absurd ((hAe 10 11 (by decide) (by decide)).mp z) (by decide)
  have nq2 : ¬ A 8 = A 9 := fun z => absurd ((hAe 8 9 (by decide) (by decide)).mp z) (by decide)
  rw [o73_37]
  simp only [o73_39, o73_41, o73_44, o73_46, o73_49, o73_52, o73_54, o73_55, o73_58, o73_61, o73_64, c_X1_hasNoRest (w := A 8) (r := A 9), c_X1_goOut (w := A 10) (r := A 11) (rw := A 1) (cs := A 3) (n := 16) (sz := 3) (ring := 1), c_X1_comeIn (w := A 8) (r := A 9) (rw := A 1) (cs := A 3) (n := 16) (sz := 5) (ring := 1), mcs_0, mcs_r, Kn_v, Kn_0, true_and, not_true_eq_false, not_false_eq_true, false_implies, forall_const, if_true, if_false, Nat.reduceEqDiff, Nat.reduceLeDiff, Nat.reduceAdd, Nat.zero_le, lt_le, Nat.reduceLT, hAe, c_cW, n_cW, r_cW, z_cW, l_cW, i_cW_q2, i_cW_w1, i_cW_w2, i_cW_w3, i_cW_r1, i_cW_r2, (hA_8_5 hA), icw0_j6 hA, icw0_j10 hA, icw0_j11 hA, icw1_j5 hA, icw1_j8 hA, icw1_j9 hA, icx0_0 hA, icx0_1 hA, icx1_3 hA, icx1_4 hA, pL_c, pL_n, pL_r, pL_i, pL_z, pL_l, kc1, kc3, kc5, kc6, kc8, kc9, kc10, kc11, kn3, kr1_0, kr5_0, kr5_1, kr6_0, kr6_1, kr8_0, kr11_0, kz, ki5_2, ki6_2, ki8_1, ki8_2, ki8_3, ki9_2, ki10_2, ki11_1, ki11_2, hn, hn1, e1, e2, i1, i2, hj, i3, i4, hk, cT1_cW0 hA, cT1_cW hA, cT0_cW hA, cWx10 hA, cW_cW, p_l_cW, pL_pl]

theorem pce10 {A : Nat → Nat} {h : MH} {t u : QT} {rc : Nat → Int64} {n M : Nat} {Q : MR → MH → Prop} (vk : K A h) (vcn : Cn A h) (m1 : t ∈ QS1) (m2 : u ∈ QS0) (hs : (Int32.ofNat n < Int32.ofNat M) = False ∨ u.2.1 - u.1 = 0) : Ok 73 37 [.ref (A 0), .int 1, .int 0, .ref (A 6), .ref (A 5), .int (Int32.ofNat M), .int (Int32.ofNat n)] [] (cW (cW (p_L h (A 3) (rc)) (A 6) (A 10) (A 11) t) (A 5) (A 8) (A 9) u) 1 6 Q ↔ Ok 73 67 [.ref (A 0), .int 1, .int 0, .ref (A 6), .ref (A 5), .int (Int32.ofNat M), .int (Int32.ofNat n)] [] (cW (cW (p_L h (A 3) (rc)) (A 6) (A 10) (A 11) t) (A 5) (A 8) (A 9) u) 1 6 Q := by
  have vk0 := vk
  have vcn0 := vcn
  (refine K_el vk0 ?_; intros hA kc0 kc1 kc2 kc3 kc4 kc5 kc6 kc7 kc8 kc9 kc10 kc11 kc12 kc13 kc14 kc15 kc16 kc17 kc18 kc19 kc20 kc21 kc22 kc23 kc24 kc25 kc26 kc27 kc28 kc29 kc30 kc31 kc32 kc33 kc34 kc35 kc36 kc37 kc38 kc39 kz kt kn3 kn4 kn18 kn21 kn23 kn24 kn25 kn26 kn27 kn29 kn30 kr0_0 kr0_1 kr0_2 kr0_3 kr0_4 kr0_5 kr0_7 kr0_8 kr0_9 kr0_10 kr1_0 kr2_0 kr5_0 kr5_1 kr6_0 kr6_1 kr7_0 kr7_1 kr8_0 kr9_0 kr10_0 kr11_0 kr12_0 kr13_0 kr14_0 kr15_0 kr16_0 kr17_0 kr19_0 kr19_1 kr22_0 kr22_1 kr22_2 kr22_3 kr22_4 kr22_5 kr22_7 kr22_8 kr25_0 kr25_1 kr25_2 kr26_0 kr26_1 kr26_2 kr29_0 kr29_1)
  (refine Cn_el vcn0 ?_; intros ki5_2 ki6_2 ki7_2 ki8_1 ki8_2 ki8_3 ki9_1 ki9_2 ki9_3 ki10_1 ki10_2 ki10_3 ki11_1 ki11_2 ki11_3 ki12_1 ki12_2 ki12_3 ki13_1 ki13_2 ki13_3 ki14_1 ki14_2 ki14_3 ki28_0 ki28_1 ki31_0 ki31_1 ki32_0 ki32_1 ki33_0 ki33_1 ki34_0 ki34_1 ki35_0 ki35_1 ki36_0 ki36_1)
  have hAe : ∀ i j, i < 40 → j < 40 → (A i = A j ↔ i = j) := hA
  by_cases hn : Int32.ofNat n < Int32.ofNat M
  · have e2 : u.2.1 - u.1 = 0 := hs.resolve_left (fun z => by rw [z] at hn; exact hn)
    rw [o73_37]
    simp only [o73_39, o73_41, o73_44, o73_46, o73_49, o73_52, o73_54, o73_55, c_X1_hasNoRest (w := A 8) (r := A 9), mcs_0, mcs_r, Kn_v, true_and, and_true, not_true_eq_false, not_false_eq_true, false_implies, forall_const, if_true, Nat.reduceLeDiff, Nat.reduceAdd, Nat.zero_le, i10, lt_le, c_cW, r_cW, icx0_0 hA, icx0_1 hA, pL_c, pL_r, kc5, kc6, kc8, kc9, kr5_0, kr5_1, hn, e2]
    all_goals (try exact Iff.rfl)
  · rw [o73_37]
    simp only [o73_39, o73_41, o73_44, o73_46, mcs_0, true_and, and_true, not_true_eq_false, not_false_eq_true, false_implies, forall_const, Nat.zero_le, lt_le, hn]
    all_goals (try exact Iff.rfl)

theorem pms10 {A : Nat → Nat} {h : MH} {t u : QT} {rm : Nat → Int64} {n : Nat} {Q : MR → MH → Prop} (vk : K A h) (vcn : Cn A h) (m1 : t ∈ QS1) (m2 : u ∈ QS0) (e1 : ¬ t.2.2.2.2.1 - t.2.2.2.1 = 0) (e2 : ¬ u.2.1 - u.1 = 0) : Ok 197 40 [.ref (A 22), .int 1, .int 0, .int (Int32.ofNat n)] [] (mW (mW (p_L h (A 23) (rm)) (A 27) 1 (A 32) (A 35) t) (A 27) 0 (A 31) (A 34) u) 0 0 Q ↔ Ok 197 40 [.ref (A 22), .int 1, .int 0, .int (Int32.ofNat (n + 1))] [] (mW (mW (p_L h (A 23) (fun x => if x = (1 + u.1).toNatClampNeg then rm (6 + t.2.2.2.1).toNatClampNeg else rm x)) (A 27) 1 (A 32) (A 35) (seF 1 3 (goF t))) (A 27) 0 (A 31) (A 34) (seF 1 5 (ciF u))) 0 0 Q := by
  have vk0 := vk
  have vcn0 := vcn
  (refine K_el vk0 ?_; intros hA kc0 kc1 kc2 kc3 kc4 kc5 kc6 kc7 kc8 kc9 kc10 kc11 kc12 kc13 kc14 kc15 kc16 kc17 kc18 kc19 kc20 kc21 kc22 kc23 kc24 kc25 kc26 kc27 kc28 kc29 kc30 kc31 kc32 kc33 kc34 kc35 kc36 kc37 kc38 kc39 kz kt kn3 kn4 kn18 kn21 kn23 kn24 kn25 kn26 kn27 kn29 kn30 kr0_0 kr0_1 kr0_2 kr0_3 kr0_4 kr0_5 kr0_7 kr0_8 kr0_9 kr0_10 kr1_0 kr2_0 kr5_0 kr5_1 kr6_0 kr6_1 kr7_0 kr7_1 kr8_0 kr9_0 kr10_0 kr11_0 kr12_0 kr13_0 kr14_0 kr15_0 kr16_0 kr17_0 kr19_0 kr19_1 kr22_0 kr22_1 kr22_2 kr22_3 kr22_4 kr22_5 kr22_7 kr22_8 kr25_0 kr25_1 kr25_2 kr26_0 kr26_1 kr26_2 kr29_0 kr29_1)
  (refine Cn_el vcn0 ?_; intros ki5_2 ki6_2 ki7_2 ki8_1 ki8_2 ki8_3 ki9_1 ki9_2 ki9_3 ki10_1 ki10_2 ki10_3 ki11_1 ki11_2 ki11_3 ki12_1 ki12_2 ki12_3 ki13_1 ki13_2 ki13_3 ki14_1 ki14_2 ki14_3 ki28_0 ki28_1 ki31_0 ki31_1 ki32_0 ki32_1 ki33_0 ki33_1 ki34_0 ki34_1 ki35_0 ki35_1 ki36_0 ki36_1)
  have hAe : ∀ i j, i < 40 → j < 40 → (A i = A j ↔ i = j) := hA
  obtain ⟨i1, i2, hj, hq1⟩ := (qO_1 _ m1).resolve_left e1
  obtain ⟨i3, i4, hk, hq2⟩ := (qI_0 _ m2).resolve_left e2
  have ar1 : arok 1 t.2.2.2.2.2.2 := fun z => absurd (by decide) z
  have ar0 : arok 0 u.2.2.2.2.2.2 := fun z => absurd (by decide) z
  have e3 : (0 < t.2.2.2.2.1 - t.2.2.2.1) = True := eq_true ((qN_1 _ m1).2.1 e1).1
  have e4 : (0 < u.2.1 - u.1) = True := eq_true ((qN_0 _ m2).2.2.2.2.2 e2)
  have hj2 := hj.2.2
  have hk2 := hk.2.2
  have hn1 : Int32.ofNat n + 1 = Int32.ofNat (n + 1) := n_add n 1
  rw [o197_40]
  simp only [o197_41, o197_44, o197_45, o197_46, o197_49, o197_52, o197_53, o197_56, o197_57, o197_58, o197_61, o197_64, o197_65, o197_66, o197_67, o197_68, o197_71, o197_74, o197_77, c_X7_rests, c_X8_goOut (x2 := A 25) (x3 := A 26) (a := A 27) (w := A 32) (r := A 35) (lr := A 23) (sz := 3), c_X8_comeIn (x2 := A 25) (x3 := A 26) (a := A 27) (w := A 31) (r := A 34) (lr := A 23) (sz := 5), mcs_0, mcs_i, mcs_r, Kn_v, Kn_0, mrf_some, true_and, not_true_eq_false, not_false_eq_true, false_implies, forall_const, if_true, and_self, Nat.reduceEqDiff, Nat.reduceLeDiff, Nat.reduceAdd, Nat.zero_le, lt_le, Int32.reduceLT, cl0, cl1, Nat.reduceLT, hAe, c_mW, n_mW, r_mW, z_mW, l_mW, i_mW_w0, i_mW_w1, i_mW_r0, i_mW_r1, imw1_j31 hA, imw1_j34 hA, imw0_j32 hA, imw0_j35 hA, (hA_32_27 hA), (hA_35_27 hA), (hA_31_27 hA), (hA_34_27 hA), imw0_j32 hA, imw0_j35 hA, imw1_j31 hA, imw1_j34 hA, imx0_0 hA, imx0_1 hA, imx1_3 hA, imx1_4 hA, imx1_6 hA, imx0_6 hA, i27_mW0 hA (k := 1) (by decide), pL_c, pL_n, pL_r, pL_i, pL_z, pL_l, kc22, kc23, kc25, kc26, kc27, kc31, kc32, kc34, kc35, kn23, kn25, kn26, kn27, kr22_0, kr22_2, kr22_3, kr22_4, kr25_0, kr25_1, kr26_0, kr26_1, kz, ki31_0, ki31_1, ki32_1, ki34_1, ki35_0, ki35_1, ar1, ar0, vq3, cl0, cl1, Int32.reduceLT, hn1, e3, e4, hj2, hk2, mT1_mW0 hA, mT1_mW hA, mT0_mW hA, mWx10 hA, mW_mW, p_l_mW, pL_pl]

theorem pme10 {A : Nat → Nat} {h : MH} {t u : QT} {rm : Nat → Int64} {n : Nat} {Q : MR → MH → Prop} (vk : K A h) (vcn : Cn A h) (m1 : t ∈ QS1) (m2 : u ∈ QS0) (hs : t.2.2.2.2.1 - t.2.2.2.1 = 0 ∨ u.2.1 - u.1 = 0) : Ok 197 40 [.ref (A 22), .int 1, .int 0, .int (Int32.ofNat n)] [] (mW (mW (p_L h (A 23) (rm)) (A 27) 1 (A 32) (A 35) t) (A 27) 0 (A 31) (A 34) u) 0 0 Q ↔ Ok 197 80 [.ref (A 22), .int 1, .int 0, .int (Int32.ofNat n)] [] (mW (mW (p_L h (A 23) (rm)) (A 27) 1 (A 32) (A 35) t) (A 27) 0 (A 31) (A 34) u) 0 0 Q := by
  have vk0 := vk
  have vcn0 := vcn
  (refine K_el vk0 ?_; intros hA kc0 kc1 kc2 kc3 kc4 kc5 kc6 kc7 kc8 kc9 kc10 kc11 kc12 kc13 kc14 kc15 kc16 kc17 kc18 kc19 kc20 kc21 kc22 kc23 kc24 kc25 kc26 kc27 kc28 kc29 kc30 kc31 kc32 kc33 kc34 kc35 kc36 kc37 kc38 kc39 kz kt kn3 kn4 kn18 kn21 kn23 kn24 kn25 kn26 kn27 kn29 kn30 kr0_0 kr0_1 kr0_2 kr0_3 kr0_4 kr0_5 kr0_7 kr0_8 kr0_9 kr0_10 kr1_0 kr2_0 kr5_0 kr5_1 kr6_0 kr6_1 kr7_0 kr7_1 kr8_0 kr9_0 kr10_0 kr11_0 kr12_0 kr13_0 kr14_0 kr15_0 kr16_0 kr17_0 kr19_0 kr19_1 kr22_0 kr22_1 kr22_2 kr22_3 kr22_4 kr22_5 kr22_7 kr22_8 kr25_0 kr25_1 kr25_2 kr26_0 kr26_1 kr26_2 kr29_0 kr29_1)
  (refine Cn_el vcn0 ?_; intros ki5_2 ki6_2 ki7_2 ki8_1 ki8_2 ki8_3 ki9_1 ki9_2 ki9_3 ki10_1 ki10_2 ki10_3 ki11_1 ki11_2 ki11_3 ki12_1 ki12_2 ki12_3 ki13_1 ki13_2 ki13_3 ki14_1 ki14_2 ki14_3 ki28_0 ki28_1 ki31_0 ki31_1 ki32_0 ki32_1 ki33_0 ki33_1 ki34_0 ki34_1 ki35_0 ki35_1 ki36_0 ki36_1)
  have hAe : ∀ i j, i < 40 → j < 40 → (A i = A j ↔ i = j) := hA
  by_cases e1 : t.2.2.2.2.1 - t.2.2.2.1 = 0
  · have e3 : (0 < t.2.2.2.2.1 - t.2.2.2.1) = False := eq_false ((qN_1 _ m1).1 e1).2
    rw [o197_40]
    simp only [o197_41, o197_44, o197_45, o197_46, o197_49, o197_52, o197_53, o197_56, o197_57, o197_58, o197_61, o197_64, o197_65, o197_66, o197_67, o197_68, c_X7_rests, mcs_0, mcs_i, mcs_r, Kn_v, mrf_some, true_and, and_true, not_true_eq_false, not_false_eq_true, false_implies, forall_const, and_self, Nat.reduceLeDiff, Nat.reduceAdd, Nat.zero_le, lt_le, Classical.not_not, cl0, cl1, c_mW, n_mW, r_mW, imw0_j35 hA, imw0_j35 hA, imx0_0 hA, imx0_1 hA, imx1_3 hA, imx1_4 hA, pL_c, pL_n, pL_r, kc22, kc25, kc26, kc31, kc35, kn25, kn26, kr22_2, kr22_3, kr25_0, kr26_1, e3, vq3, cl0, cl1]
    all_goals (try exact Iff.rfl)
  · have e3 : (0 < t.2.2.2.2.1 - t.2.2.2.1) = True := eq_true ((qN_1 _ m1).2.1 e1).1
    have e4 : (0 < u.2.1 - u.1) = False := eq_false ((qN_0 _ m2).2.2.2.2.1 (hs.resolve_left e1))
    rw [o197_40]
    simp only [o197_41, o197_44, o197_45, o197_46, o197_49, o197_52, o197_53, o197_56, o197_57, o197_58, o197_61, o197_64, o197_65, o197_66, o197_67, o197_68, c_X7_rests, mcs_0, mcs_i, mcs_r, Kn_v, mrf_some, true_and, and_true, not_true_eq_false, not_false_eq_true, false_implies, forall_const, and_self, Nat.reduceLeDiff, Nat.reduceAdd, Nat.zero_le, lt_le, cl0, cl1, c_mW, n_mW, r_mW, imw0_j35 hA, imw0_j35 hA, imx0_0 hA, imx0_1 hA, imx1_3 hA, imx1_4 hA, pL_c, pL_n, pL_r, kc22, kc25, kc26, kc31, kc35, kn25, kn26, kr22_2, kr22_3, kr25_0, kr26_1, e3, e4, vq3, cl0, cl1]
    all_goals (try exact Iff.rfl)

theorem pcs12 {A : Nat → Nat} {h : MH} {t u : QT} {rc : Nat → Int64} {n M : Nat} {Q : MR → MH → Prop} (vk : K A h) (vcn : Cn A h) (m1 : t ∈ QS1) (m2 : u ∈ QS2) (e1 : ¬ t.2.2.2.2.1 - t.2.2.2.1 = 0) (e2 : ¬ u.2.1 - u.1 = 0) (hn : (Int32.ofNat n < Int32.ofNat M) = True) : Ok 73 37 [.ref (A 0), .int 1, .int 2, .ref (A 6), .ref (A 7), .int (Int32.ofNat M), .int (Int32.ofNat n)] [] (cW (cW (p_L h (A 3) (rc)) (A 6) (A 10) (A 11) t) (A 7) (A 12) (A 13) u) 1 6 Q ↔ Ok 73 37 [.ref (A 0), .int 1, .int 2, .ref (A 6), .ref (A 7), .int (Int32.ofNat M), .int (Int32.ofNat (n + 1))] [] (cW (cW (p_L h (A 3) (fun x => if x = (9 + u.1).toNatClampNeg then rc (6 + t.2.2.2.1).toNatClampNeg else rc x)) (A 6) (A 10) (A 11) (seF 1 3 (goF t))) (A 7) (A 12) (A 13) (seF 0 6 (ciF u))) 1 6 Q := by
  have vk0 := vk
  have vcn0 := vcn
  (refine K_el vk0 ?_; intros hA kc0 kc1 kc2 kc3 kc4 kc5 kc6 kc7 kc8 kc9 kc10 kc11 kc12 kc13 kc14 kc15 kc16 kc17 kc18 kc19 kc20 kc21 kc22 kc23 kc24 kc25 kc26 kc27 kc28 kc29 kc30 kc31 kc32 kc33 kc34 kc35 kc36 kc37 kc38 kc39 kz kt kn3 kn4 kn18 kn21 kn23 kn24 kn25 kn26 kn27 kn29 kn30 kr0_0 kr0_1 kr0_2 kr0_3 kr0_4 kr0_5 kr0_7 kr0_8 kr0_9 kr0_10 kr1_0 kr2_0 kr5_0 kr5_1 kr6_0 kr6_1 kr7_0 kr7_1 kr8_0 kr9_0 kr10_0 kr11_0 kr12_0 kr13_0 kr14_0 kr15_0 kr16_0 kr17_0 kr19_0 kr19_1 kr22_0 kr22_1 kr22_2 kr22_3 kr22_4 kr22_5 kr22_7 kr22_8 kr25_0 kr25_1 kr25_2 kr26_0 kr26_1 kr26_2 kr29_0 kr29_1)
  (refine Cn_el vcn0 ?_; intros ki5_2 ki6_2 ki7_2 ki8_1 ki8_2 ki8_3 ki9_1 ki9_2 ki9_3 ki10_1 ki10_2 ki10_3 ki11_1 ki11_2 ki11_3 ki12_1 ki12_2 ki12_3 ki13_1 ki13_2 ki13_3 ki14_1 ki14_2 ki14_3 ki28_0 ki28_1 ki31_0 ki31_1 ki32_0 ki32_1 ki33_0 ki33_1 ki34_0 ki34_1 ki35_0 ki35_1 ki36_0 ki36_1)
  have hAe : ∀ i j, i < 40 → j < 40 → (A i = A j ↔ i = j) := hA
  obtain ⟨i1, i2, hj, hq1⟩ := (qO_1 _ m1).resolve_left e1
  obtain ⟨i3, i4, hk, hq2⟩ := (qI_2 _ m2).resolve_left e2
  have hn1 : Int32.ofNat n + 1 = Int32.ofNat (n + 1) := n_add n 1
  have nq : ¬ A 10 = A 11 := fun z => absurd ((hAe 10 11 (by decide) (by decide)).mp z) (by decide)
  have nq2 : ¬ A 12 = A 13 := fun z => absurd ((hAe 12 13 (by decide) (by decide)).mp z) (by decide)
  rw [o73_37]
  simp only [o73_39, o73_41, o73_44, o73_46, o73_49, o73_52, o73_54, o73_55, o73_58, o73_61, o73_64, c_X1_hasNoRest (w := A 12) (r := A 13), c_X1_goOut (w := A 10) (r := A 11) (rw := A 1) (cs := A 3) (n := 16) (sz := 3) (ring := 1), c_X1_comeIn (w := A 12) (r := A 13) (rw := A 1) (cs := A 3) (n := 16) (sz := 6) (ring := 0), mcs_0, mcs_r, Kn_v, Kn_0, true_and, not_true_eq_false, not_false_eq_true, false_implies, forall_const, if_true, if_false, Nat.reduceEqDiff, Nat.reduceLeDiff, Nat.reduceAdd, Nat.zero_le, lt_le, Nat.reduceLT, hAe, c_cW, n_cW, r_cW, z_cW, l_cW, i_cW_q2, i_cW_w1, i_cW_w2, i_cW_w3, i_cW_r1, i_cW_r2, (hA_12_7 hA), icw2_j6 hA, icw2_j10 hA, icw2_j11 hA, icw1_j7 hA, icw1_j12 hA, icw1_j13 hA, icx2_0 hA, icx2_1 hA, icx1_3 hA, icx1_4 hA, pL_c, pL_n, pL_r, pL_i, pL_z, pL_l, kc1, kc3, kc6, kc7, kc10, kc11, kc12, kc13, kn3, kr1_0, kr6_0, kr6_1, kr7_0, kr7_1, kr11_0, kr12_0, kz, ki6_2, ki7_2, ki10_2, ki11_1, ki11_2, ki12_1, ki12_2, ki12_3, ki13_2, hn, hn1, e1, e2, i1, i2, hj, i3, i4, hk, cT1_cW2 hA, cT1_cW hA, cT2_cW hA, cWx12 hA, cW_cW, p_l_cW, pL_pl]

theorem pce12 {A : Nat → Nat} {h : MH} {t u : QT} {rc : Nat → Int64} {n M : Nat} {Q : MR → MH → Prop} (vk : K A h) (vcn : Cn A h) (m1 : t ∈ QS1) (m2 : u ∈ QS2) (hs : (Int32.ofNat n < Int32.ofNat M) = False ∨ u.2.1 - u.1 = 0) : Ok 73 37 [.ref (A 0), .int 1, .int 2, .ref (A 6), .ref (A 7), .int (Int32.ofNat M), .int (Int32.ofNat n)] [] (cW (cW (p_L h (A 3) (rc)) (A 6) (A 10) (A 11) t) (A 7) (A 12) (A 13) u) 1 6 Q ↔ Ok 73 67 [.ref (A 0), .int 1, .int 2, .ref (A 6), .ref (A 7), .int (Int32.ofNat M), .int (Int32.ofNat n)] [] (cW (cW (p_L h (A 3) (rc)) (A 6) (A 10) (A 11) t) (A 7) (A 12) (A 13) u) 1 6 Q := by
  have vk0 := vk
  have vcn0 := vcn
  (refine K_el vk0 ?_; intros hA kc0 kc1 kc2 kc3 kc4 kc5 kc6 kc7 kc8 kc9 kc10 kc11 kc12 kc13 kc14 kc15 kc16 kc17 kc18 kc19 kc20 kc21 kc22 kc23 kc24 kc25 kc26 kc27 kc28 kc29 kc30 kc31 kc32 kc33 kc34 kc35 kc36 kc37 kc38 kc39 kz kt kn3 kn4 kn18 kn21 kn23 kn24 kn25 kn26 kn27 kn29 kn30 kr0_0 kr0_1 kr0_2 kr0_3 kr0_4 kr0_5 kr0_7 kr0_8 kr0_9 kr0_10 kr1_0 kr2_0 kr5_0 kr5_1 kr6_0 kr6_1 kr7_0 kr7_1 kr8_0 kr9_0 kr10_0 kr11_0 kr12_0 kr13_0 kr14_0 kr15_0 kr16_0 kr17_0 kr19_0 kr19_1 kr22_0 kr22_1 kr22_2 kr22_3 kr22_4 kr22_5 kr22_7 kr22_8 kr25_0 kr25_1 kr25_2 kr26_0 kr26_1 kr26_2 kr29_0 kr29_1)
  (refine Cn_el vcn0 ?_; intros ki5_2 ki6_2 ki7_2 ki8_1 ki8_2 ki8_3 ki9_1 ki9_2 ki9_3 ki10_1 ki10_2 ki10_3 ki11_1 ki11_2 ki11_3 ki12_1 ki12_2 ki12_3 ki13_1 ki13_2 ki13_3 ki14_1 ki14_2 ki14_3 ki28_0 ki28_1 ki31_0 ki31_1 ki32_0 ki32_1 ki33_0 ki33_1 ki34_0 ki34_1 ki35_0 ki35_1 ki36_0 ki36_1)
  have hAe : ∀ i j, i < 40 → j < 40 → (A i = A j ↔ i = j) := hA
  by_cases hn : Int32.ofNat n < Int32.ofNat M
  · have e2 : u.2.1 - u.1 = 0 := hs.resolve_left (fun z => by rw [z] at hn; exact hn)
    rw [o73_37]
    simp only [o73_39, o73_41, o73_44, o73_46, o73_49, o73_52, o73_54, o73_55, c_X1_hasNoRest (w := A 12) (r := A 13), mcs_0, mcs_r, Kn_v, true_and, and_true, not_true_eq_false, not_false_eq_true, false_implies, forall_const, if_true, Nat.reduceLeDiff, Nat.reduceAdd, Nat.zero_le, i10, lt_le, c_cW, r_cW, icx2_0 hA, icx2_1 hA, pL_c, pL_r, kc6, kc7, kc12, kc13, kr7_0, kr7_1, hn, e2]
    all_goals (try exact Iff.rfl)
  · rw [o73_37]
    simp only [o73_39, o73_41, o73_44, o73_46, mcs_0, true_and, and_true, not_true_eq_false, not_false_eq_true, false_implies, forall_const, Nat.zero_le, lt_le, hn]
    all_goals (try exact Iff.rfl)

theorem pms12 {A : Nat → Nat} {h : MH} {t u : QT} {rm : Nat → Int64} {n : Nat} {Q : MR → MH → Prop} (vk : K A h) (vcn : Cn A h) (m1 : t ∈ QS1) (m2 : u ∈ QS2) (e1 : ¬ t.2.2.2.2.1 - t.2.2.2.1 = 0) (e2 : ¬ u.2.1 - u.1 = 0) : Ok 197 40 [.ref (A 22), .int 1, .int 2, .int (Int32.ofNat n)] [] (mW (mW (p_L h (A 23) (rm)) (A 27) 1 (A 32) (A 35) t) (A 27) 2 (A 33) (A 36) u) 0 0 Q ↔ Ok 197 40 [.ref (A 22), .int 1, .int 2, .int (Int32.ofNat (n + 1))] [] (mW (mW (p_L h (A 23) (fun x => if x = (9 + u.1).toNatClampNeg then rm (6 + t.2.2.2.1).toNatClampNeg else rm x)) (A 27) 1 (A 32) (A 35) (seF 1 3 (goF t))) (A 27) 2 (A 33) (A 36) (seF 0 6 (ciF u))) 0 0 Q := by
  have vk0 := vk
  have vcn0 := vcn
  (refine K_el vk0 ?_; intros hA kc0 kc1 kc2 kc3 kc4 kc5 kc6 kc7 kc8 kc9 kc10 kc11 kc12 kc13 kc14 kc15 kc16 kc17 kc18 kc19 kc20 kc21 kc22 kc23 kc24 kc25 kc26 kc27 kc28 kc29 kc30 kc31 kc32 kc33 kc34 kc35 kc36 kc37 kc38 kc39 kz kt kn3 kn4 kn18 kn21 kn23 kn24 kn25 kn26 kn27 kn29 kn30 kr0_0 kr0_1 kr0_2 kr0_3 kr0_4 kr0_5 kr0_7 kr0_8 kr0_9 kr0_10 kr1_0 kr2_0 kr5_0 kr5_1 kr6_0 kr6_1 kr7_0 kr7_1 kr8_0 kr9_0 kr10_0 kr11_0 kr12_0 kr13_0 kr14_0 kr15_0 kr16_0 kr17_0 kr19_0 kr19_1 kr22_0 kr22_1 kr22_2 kr22_3 kr22_4 kr22_5 kr22_7 kr22_8 kr25_0 kr25_1 kr25_2 kr26_0 kr26_1 kr26_2 kr29_0 kr29_1)
  (refine Cn_el vcn0 ?_; intros ki5_2 ki6_2 ki7_2 ki8_1 ki8_2 ki8_3 ki9_1 ki9_2 ki9_3 ki10_1 ki10_2 ki10_3 ki11_1 ki11_2 ki11_3 ki12_1 ki12_2 ki12_3 ki13_1 ki13_2 ki13_3 ki14_1 ki14_2 ki14_3 ki28_0 ki28_1 ki31_0 ki31_1 ki32_0 ki32_1 ki33_0 ki33_1 ki34_0 ki34_1 ki35_0 ki35_1 ki36_0 ki36_1)
  have hAe : ∀ i j, i < 40 → j < 40 → (A i = A j ↔ i = j) := hA
  obtain ⟨i1, i2, hj, hq1⟩ := (qO_1 _ m1).resolve_left e1
  obtain ⟨i3, i4, hk, hq2⟩ := (qI_2 _ m2).resolve_left e2
  have ar1 : arok 1 t.2.2.2.2.2.2 := fun z => absurd (by decide) z
  have ar2 : arok 2 u.2.2.2.2.2.2 := fun _ => (qA_2 _ m2).2.1
  have e3 : (0 < t.2.2.2.2.1 - t.2.2.2.1) = True := eq_true ((qN_1 _ m1).2.1 e1).1
  have e4 : (0 < u.2.1 - u.1) = True := eq_true ((qN_2 _ m2).2.2.2.2.2 e2)
  have hj2 := hj.2.2
  have hk2 := hk.2.2
  have hn1 : Int32.ofNat n + 1 = Int32.ofNat (n + 1) := n_add n 1
  rw [o197_40]
  simp only [o197_41, o197_44, o197_45, o197_46, o197_49, o197_52, o197_53, o197_56, o197_57, o197_58, o197_61, o197_64, o197_65, o197_66, o197_67, o197_68, o197_71, o197_74, o197_77, c_X7_rests, c_X8_goOut (x2 := A 25) (x3 := A 26) (a := A 27) (w := A 32) (r := A 35) (lr := A 23) (sz := 3), c_X8_comeIn (x2 := A 25) (x3 := A 26) (a := A 27) (w := A 33) (r := A 36) (lr := A 23) (sz := 6), mcs_0, mcs_i, mcs_r, Kn_v, Kn_0, mrf_some, true_and, not_true_eq_false, not_false_eq_true, false_implies, forall_const, if_true, if_false, and_self, Nat.reduceEqDiff, Nat.reduceLeDiff, Nat.reduceAdd, Nat.zero_le, lt_le, Int32.reduceLT, cl1, cl2, Nat.reduceLT, hAe, c_mW, n_mW, r_mW, z_mW, l_mW, i_mW_w0, i_mW_w1, i_mW_r0, i_mW_r1, imw1_j33 hA, imw1_j36 hA, imw2_j32 hA, imw2_j35 hA, (hA_32_27 hA), (hA_35_27 hA), (hA_33_27 hA), (hA_36_27 hA), imw2_j32 hA, imw2_j35 hA, imw1_j33 hA, imw1_j36 hA, imx2_0 hA, imx2_1 hA, imx1_3 hA, imx1_4 hA, imx1_6 hA, imx2_6 hA, i27_mW2 hA (k := 1) (by decide), pL_c, pL_n, pL_r, pL_i, pL_z, pL_l, kc22, kc23, kc25, kc26, kc27, kc32, kc33, kc35, kc36, kn23, kn25, kn26, kn27, kr22_0, kr22_2, kr22_3, kr22_4, kr25_1, kr25_2, kr26_1, kr26_2, kz, ki32_1, ki33_0, ki33_1, ki35_0, ki35_1, ki36_1, ar1, ar2, vq3, cl1, cl2, Int32.reduceLT, hn1, e3, e4, hj2, hk2, mT1_mW2 hA, mT1_mW hA, mT2_mW hA, mWx12 hA, mW_mW, p_l_mW, pL_pl]

theorem pme12 {A : Nat → Nat} {h : MH} {t u : QT} {rm : Nat → Int64} {n : Nat} {Q : MR → MH → Prop} (vk : K A h) (vcn : Cn A h) (m1 : t ∈ QS1) (m2 : u ∈ QS2) (hs : t.2.2.2.2.1 - t.2.2.2.1 = 0 ∨ u.2.1 - u.1 = 0) : Ok 197 40 [.ref (A 22), .int 1, .int 2, .int (Int32.ofNat n)] [] (mW (mW (p_L h (A 23) (rm)) (A 27) 1 (A 32) (A 35) t) (A 27) 2 (A 33) (A 36) u) 0 0 Q ↔ Ok 197 80 [.ref (A 22), .int 1, .int 2, .int (Int32.ofNat n)] [] (mW (mW (p_L h (A 23) (rm)) (A 27) 1 (A 32) (A 35) t) (A 27) 2 (A 33) (A 36) u) 0 0 Q := by
  have vk0 := vk
  have vcn0 := vcn
  (refine K_el vk0 ?_; intros hA kc0 kc1 kc2 kc3 kc4 kc5 kc6 kc7 kc8 kc9 kc10 kc11 kc12 kc13 kc14 kc15 kc16 kc17 kc18 kc19 kc20 kc21 kc22 kc23 kc24 kc25 kc26 kc27 kc28 kc29 kc30 kc31 kc32 kc33 kc34 kc35 kc36 kc37 kc38 kc39 kz kt kn3 kn4 kn18 kn21 kn23 kn24 kn25 kn26 kn27 kn29 kn30 kr0_0 kr0_1 kr0_2 kr0_3 kr0_4 kr0_5 kr0_7 kr0_8 kr0_9 kr0_10 kr1_0 kr2_0 kr5_0 kr5_1 kr6_0 kr6_1 kr7_0 kr7_1 kr8_0 kr9_0 kr10_0 kr11_0 kr12_0 kr13_0 kr14_0 kr15_0 kr16_0 kr17_0 kr19_0 kr19_1 kr22_0 kr22_1 kr22_2 kr22_3 kr22_4 kr22_5 kr22_7 kr22_8 kr25_0 kr25_1 kr25_2 kr26_0 kr26_1 kr26_2 kr29_0 kr29_1)
  (refine Cn_el vcn0 ?_; intros ki5_2 ki6_2 ki7_2 ki8_1 ki8_2 ki8_3 ki9_1 ki9_2 ki9_3 ki10_1 ki10_2 ki10_3 ki11_1 ki11_2 ki11_3 ki12_1 ki12_2 ki12_3 ki13_1 ki13_2 ki13_3 ki14_1 ki14_2 ki14_3 ki28_0 ki28_1 ki31_0 ki31_1 ki32_0 ki32_1 ki33_0 ki33_1 ki34_0 ki34_1 ki35_0 ki35_1 ki36_0 ki36_1)
  have hAe : ∀ i j, i < 40 → j < 40 → (A i = A j ↔ i = j) := hA
  by_cases e1 : t.2.2.2.2.1 - t.2.2.2.1 = 0
  · have e3 : (0 < t.2.2.2.2.1 - t.2.2.2.1) = False := eq_false ((qN_1 _ m1).1 e1).2
    rw [o197_40]
    simp only [o197_41, o197_44, o197_45, o197_46, o197_49, o197_52, o197_53, o197_56, o197_57, o197_58, o197_61, o197_64, o197_65, o197_66, o197_67, o197_68, c_X7_rests, mcs_0, mcs_i, mcs_r, Kn_v, mrf_some, true_and, and_true, not_true_eq_false, not_false_eq_true, false_implies, forall_const, and_self, Nat.reduceLeDiff, Nat.reduceAdd, Nat.zero_le, lt_le, Classical.not_not, cl1, cl2, c_mW, n_mW, r_mW, imw2_j35 hA, imw2_j35 hA, imx2_0 hA, imx2_1 hA, imx1_3 hA, imx1_4 hA, pL_c, pL_n, pL_r, kc22, kc25, kc26, kc33, kc35, kn25, kn26, kr22_2, kr22_3, kr25_2, kr26_1, e3, vq3, cl1, cl2]
    all_goals (try exact Iff.rfl)
  · have e3 : (0 < t.2.2.2.2.1 - t.2.2.2.1) = True := eq_true ((qN_1 _ m1).2.1 e1).1
    have e4 : (0 < u.2.1 - u.1) = False := eq_false ((qN_2 _ m2).2.2.2.2.1 (hs.resolve_left e1))
    rw [o197_40]
    simp only [o197_41, o197_44, o197_45, o197_46, o197_49, o197_52, o197_53, o197_56, o197_57, o197_58, o197_61, o197_64, o197_65, o197_66, o197_67, o197_68, c_X7_rests, mcs_0, mcs_i, mcs_r, Kn_v, mrf_some, true_and, and_true, not_true_eq_false, not_false_eq_true, false_implies, forall_const, and_self, Nat.reduceLeDiff, Nat.reduceAdd, Nat.zero_le, lt_le, cl1, cl2, c_mW, n_mW, r_mW, imw2_j35 hA, imw2_j35 hA, imx2_0 hA, imx2_1 hA, imx1_3 hA, imx1_4 hA, pL_c, pL_n, pL_r, kc22, kc25, kc26, kc33, kc35, kn25, kn26, kr22_2, kr22_3, kr25_2, kr26_1, e3, e4, vq3, cl1, cl2]
    all_goals (try exact Iff.rfl)

theorem pcs20 {A : Nat → Nat} {h : MH} {t u : QT} {rc : Nat → Int64} {n M : Nat} {Q : MR → MH → Prop} (vk : K A h) (vcn : Cn A h) (m1 : t ∈ QS2) (m2 : u ∈ QS0) (e1 : ¬ t.2.2.2.2.1 - t.2.2.2.1 = 0) (e2 : ¬ u.2.1 - u.1 = 0) (hn : (Int32.ofNat n < Int32.ofNat M) = True) : Ok 73 37 [.ref (A 0), .int 2, .int 0, .ref (A 7), .ref (A 5), .int (Int32.ofNat M), .int (Int32.ofNat n)] [] (cW (cW (p_L h (A 3) (rc)) (A 7) (A 12) (A 13) t) (A 5) (A 8) (A 9) u) 1 6 Q ↔ Ok 73 37 [.ref (A 0), .int 2, .int 0, .ref (A 7), .ref (A 5), .int (Int32.ofNat M), .int (Int32.ofNat (n + 1))] [] (cW (cW (p_L h (A 3) (fun x => if x = (1 + u.1).toNatClampNeg then rc (9 + t.2.2.2.1).toNatClampNeg else rc x)) (A 7) (A 12) (A 13) (seF 0 6 (goF t))) (A 5) (A 8) (A 9) (seF 1 5 (ciF u))) 1 6 Q := by
  have vk0 := vk
  have vcn0 := vcn
  (refine K_el vk0 ?_; intros hA kc0 kc1 kc2 kc3 kc4 kc5 kc6 kc7 kc8 kc9 kc10 kc11 kc12 kc13 kc14 kc15 kc16 kc17 kc18 kc19 kc20 kc21 kc22 kc23 kc24 kc25 kc26 kc27 kc28 kc29 kc30 kc31 kc32 kc33 kc34 kc35 kc36 kc37 kc38 kc39 kz kt kn3 kn4 kn18 kn21 kn23 kn24 kn25 kn26 kn27 kn29 kn30 kr0_0 kr0_1 kr0_2 kr0_3 kr0_4 kr0_5 kr0_7 kr0_8 kr0_9 kr0_10 kr1_0 kr2_0 kr5_0 kr5_1 kr6_0 kr6_1 kr7_0 kr7_1 kr8_0 kr9_0 kr10_0 kr11_0 kr12_0 kr13_0 kr14_0 kr15_0 kr16_0 kr17_0 kr19_0 kr19_1 kr22_0 kr22_1 kr22_2 kr22_3 kr22_4 kr22_5 kr22_7 kr22_8 kr25_0 kr25_1 kr25_2 kr26_0 kr26_1 kr26_2 kr29_0 kr29_1)
  (refine Cn_el vcn0 ?_; intros ki5_2 ki6_2 ki7_2 ki8_1 ki8_2 ki8_3 ki9_1 ki9_2 ki9_3 ki10_1 ki10_2 ki10_3 ki11_1 ki11_2 ki11_3 ki12_1 ki12_2 ki12_3 ki13_1 ki13_2 ki13_3 ki14_1 ki14_2 ki14_3 ki28_0 ki28_1 ki31_0 ki31_1 ki32_0 ki32_1 ki33_0 ki33_1 ki34_0 ki34_1 ki35_0 ki35_1 ki36_0 ki36_1)
  have hAe : ∀ i j, i < 40 → j < 40 → (A i = A j ↔ i = j) := hA
  obtain ⟨i1, i2, hj, hq1⟩ := (qO_2 _ m1).resolve_left e1
  obtain ⟨i3, i4, hk, hq2⟩ := (qI_0 _ m2).resolve_left e2
  have hn1 : Int32.ofNat n + 1 = Int32.ofNat (n + 1) := n_add n 1
  have nq : ¬ A 12 = A 13 := fun z => absurd ((hAe 12 13 (by decide) (by decide)).mp z) (by decide)
  have nq2 : ¬ A 8 = A 9 := fun z => absurd ((hAe 8 9 (by decide) (by decide)).mp z) (by decide)
  rw [o73_37]
  simp only [o73_39, o73_41, o73_44, o73_46, o73_49, o73_52, o73_54, o73_55, o73_58, o73_61, o73_64, c_X1_hasNoRest (w := A 8) (r := A 9), c_X1_goOut (w := A 12) (r := A 13) (rw := A 1) (cs := A 3) (n := 16) (sz := 6) (ring := 0), c_X1_comeIn (w := A 8) (r := A 9) (rw := A 1) (cs := A 3) (n := 16) (sz := 5) (ring := 1), mcs_0, mcs_r, Kn_v, Kn_0, true_and, not_true_eq_false, not_false_eq_true, false_implies, forall_const, if_true, if_false, Nat.reduceEqDiff, Nat.reduceLeDiff, Nat.reduceAdd, Nat.zero_le, lt_le, Nat.reduceLT, hAe, c_cW, n_cW, r_cW, z_cW, l_cW, i_cW_q2, i_cW_w1, i_cW_w2, i_cW_w3, i_cW_r1, i_cW_r2, (hA_8_5 hA), icw0_j7 hA, icw0_j12 hA, icw0_j13 hA, icw2_j5 hA, icw2_j8 hA, icw2_j9 hA, icx0_0 hA, icx0_1 hA, icx2_3 hA, icx2_4 hA, pL_c, pL_n, pL_r, pL_i, pL_z, pL_l, kc1, kc3, kc5, kc7, kc8, kc9, kc12, kc13, kn3, kr1_0, kr5_0, kr5_1, kr7_0, kr7_1, kr8_0, kr13_0, kz, ki5_2, ki7_2, ki8_1, ki8_2, ki8_3, ki9_2, ki12_2, ki13_1, ki13_2, hn, hn1, e1, e2, i1, i2, hj, i3, i4, hk, cT2_cW0 hA, cT2_cW hA, cT0_cW hA, cWx20 hA, cW_cW, p_l_cW, pL_pl]

theorem pce20 {A : Nat → Nat} {h : MH} {t u : QT} {rc : Nat → Int64} {n M : Nat} {Q : MR → MH → Prop} (vk : K A h) (vcn : Cn A h) (m1 : t ∈ QS2) (m2 : u ∈ QS0) (hs : (Int32.ofNat n < Int32.ofNat M) = False ∨ u.2.1 - u.1 = 0) : Ok 73 37 [.ref (A 0), .int 2, .int 0, .ref (A 7), .ref (A 5), .int (Int32.ofNat M), .int (Int32.ofNat n)] [] (cW (cW (p_L h (A 3) (rc)) (A 7) (A 12) (A 13) t) (A 5) (A 8) (A 9) u) 1 6 Q ↔ Ok 73 67 [.ref (A 0), .int 2, .int 0, .ref (A 7), .ref (A 5), .int (Int32.ofNat M), .int (Int32.ofNat n)] [] (cW (cW (p_L h (A 3) (rc)) (A 7) (A 12) (A 13) t) (A 5) (A 8) (A 9) u) 1 6 Q := by
  have vk0 := vk
  have vcn0 := vcn
  (refine K_el vk0 ?_; intros hA kc0 kc1 kc2 kc3 kc4 kc5 kc6 kc7 kc8 kc9 kc10 kc11 kc12 kc13 kc14 kc15 kc16 kc17 kc18 kc19 kc20 kc21 kc22 kc23 kc24 kc25 kc26 kc27 kc28 kc29 kc30 kc31 kc32 kc33 kc34 kc35 kc36 kc37 kc38 kc39 kz kt kn3 kn4 kn18 kn21 kn23 kn24 kn25 kn26 kn27 kn29 kn30 kr0_0 kr0_1 kr0_2 kr0_3 kr0_4 kr0_5 kr0_7 kr0_8 kr0_9 kr0_10 kr1_0 kr2_0 kr5_0 kr5_1 kr6_0 kr6_1 kr7_0 kr7_1 kr8_0 kr9_0 kr10_0 kr11_0 kr12_0 kr13_0 kr14_0 kr15_0 kr16_0 kr17_0 kr19_0 kr19_1 kr22_0 kr22_1 kr22_2 kr22_3 kr22_4 kr22_5 kr22_7 kr22_8 kr25_0 kr25_1 kr25_2 kr26_0 kr26_1 kr26_2 kr29_0 kr29_1)
  (refine Cn_el vcn0 ?_; intros ki5_2 ki6_2 ki7_2 ki8_1 ki8_2 ki8_3 ki9_1 ki9_2 ki9_3 ki10_1 ki10_2 ki10_3 ki11_1 ki11_2 ki11_3 ki12_1 ki12_2 ki12_3 ki13_1 ki13_2 ki13_3 ki14_1 ki14_2 ki14_3 ki28_0 ki28_1 ki31_0 ki31_1 ki32_0 ki32_1 ki33_0 ki33_1 ki34_0 ki34_1 ki35_0 ki35_1 ki36_0 ki36_1)
  have hAe : ∀ i j, i < 40 → j < 40 → (A i = A j ↔ i = j) := hA
  by_cases hn : Int32.ofNat n < Int32.ofNat M
  · have e2 : u.2.1 - u.1 = 0 := hs.resolve_left (fun z => by rw [z] at hn; exact hn)
    rw [o73_37]
    simp only [o73_39, o73_41, o73_44, o73_46, o73_49, o73_52, o73_54, o73_55, c_X1_hasNoRest (w := A 8) (r := A 9), mcs_0, mcs_r, Kn_v, true_and, and_true, not_true_eq_false, not_false_eq_true, false_implies, forall_const, if_true, Nat.reduceLeDiff, Nat.reduceAdd, Nat.zero_le, i10, lt_le, c_cW, r_cW, icx0_0 hA, icx0_1 hA, pL_c, pL_r, kc5, kc7, kc8, kc9, kr5_0, kr5_1, hn, e2]
    all_goals (try exact Iff.rfl)
  · rw [o73_37]
    simp only [o73_39, o73_41, o73_44, o73_46, mcs_0, true_and, and_true, not_true_eq_false, not_false_eq_true, false_implies, forall_const, Nat.zero_le, lt_le, hn]
    all_goals (try exact Iff.rfl)

theorem pms20 {A : Nat → Nat} {h : MH} {t u : QT} {rm : Nat → Int64} {n : Nat} {Q : MR → MH → Prop} (vk : K A h) (vcn : Cn A h) (m1 : t ∈ QS2) (m2 : u ∈ QS0) (e1 : ¬ t.2.2.2.2.1 - t.2.2.2.1 = 0) (e2 : ¬ u.2.1 - u.1 = 0) : Ok 197 40 [.ref (A 22), .int 2, .int 0, .int (Int32.ofNat n)] [] (mW (mW (p_L h (A 23) (rm)) (A 27) 2 (A 33) (A 36) t) (A 27) 0 (A 31) (A 34) u) 0 0 Q ↔ Ok 197 40 [.ref (A 22), .int 2, .int 0, .int (Int32.ofNat (n + 1))] [] (mW (mW (p_L h (A 23) (fun x => if x = (1 + u.1).toNatClampNeg then rm (9 + t.2.2.2.1).toNatClampNeg else rm x)) (A 27) 2 (A 33) (A 36) (seF 0 6 (goF t))) (A 27) 0 (A 31) (A 34) (seF 1 5 (ciF u))) 0 0 Q := by
  have vk0 := vk
  have vcn0 := vcn
  (refine K_el vk0 ?_; intros hA kc0 kc1 kc2 kc3 kc4 kc5 kc6 kc7 kc8 kc9 kc10 kc11 kc12 kc13 kc14 kc15 kc16 kc17 kc18 kc19 kc20 kc21 kc22 kc23 kc24 kc25 kc26 kc27 kc28 kc29 kc30 kc31 kc32 kc33 kc34 kc35 kc36 kc37 kc38 kc39 kz kt kn3 kn4 kn18 kn21 kn23 kn24 kn25 kn26 kn27 kn29 kn30 kr0_0 kr0_1 kr0_2 kr0_3 kr0_4 kr0_5 kr0_7 kr0_8 kr0_9 kr0_10 kr1_0 kr2_0 kr5_0 kr5_1 kr6_0 kr6_1 kr7_0 kr7_1 kr8_0 kr9_0 kr10_0 kr11_0 kr12_0 kr13_0 kr14_0 kr15_0 kr16_0 kr17_0 kr19_0 kr19_1 kr22_0 kr22_1 kr22_2 kr22_3 kr22_4 kr22_5 kr22_7 kr22_8 kr25_0 kr25_1 kr25_2 kr26_0 kr26_1 kr26_2 kr29_0 kr29_1)
  (refine Cn_el vcn0 ?_; intros ki5_2 ki6_2 ki7_2 ki8_1 ki8_2 ki8_3 ki9_1 ki9_2 ki9_3 ki10_1 ki10_2 ki10_3 ki11_1 ki11_2 ki11_3 ki12_1 ki12_2 ki12_3 ki13_1 ki13_2 ki13_3 ki14_1 ki14_2 ki14_3 ki28_0 ki28_1 ki31_0 ki31_1 ki32_0 ki32_1 ki33_0 ki33_1 ki34_0 ki34_1 ki35_0 ki35_1 ki36_0 ki36_1)
  have hAe : ∀ i j, i < 40 → j < 40 → (A i = A j ↔ i = j) := hA
  obtain ⟨i1, i2, hj, hq1⟩ := (qO_2 _ m1).resolve_left e1
  obtain ⟨i3, i4, hk, hq2⟩ := (qI_0 _ m2).resolve_left e2
  have ar2 : arok 2 t.2.2.2.2.2.2 := fun _ => (qA_2 _ m1).2.1
  have ar0 : arok 0 u.2.2.2.2.2.2 := fun z => absurd (by decide) z
  have e3 : (0 < t.2.2.2.2.1 - t.2.2.2.1) = True := eq_true ((qN_2 _ m1).2.1 e1).1
  have e4 : (0 < u.2.1 - u.1) = True := eq_true ((qN_0 _ m2).2.2.2.2.2 e2)
  have hj2 := hj.2.2
  have hk2 := hk.2.2
  have hn1 : Int32.ofNat n + 1 = Int32.ofNat (n + 1) := n_add n 1
  rw [o197_40]
  simp only [o197_41, o197_44, o197_45, o197_46, o197_49, o197_52, o197_53, o197_56, o197_57, o197_58, o197_61, o197_64, o197_65, o197_66, o197_67, o197_68, o197_71, o197_74, o197_77, c_X7_rests, c_X8_goOut (x2 := A 25) (x3 := A 26) (a := A 27) (w := A 33) (r := A 36) (lr := A 23) (sz := 6), c_X8_comeIn (x2 := A 25) (x3 := A 26) (a := A 27) (w := A 31) (r := A 34) (lr := A 23) (sz := 5), mcs_0, mcs_i, mcs_r, Kn_v, Kn_0, mrf_some, true_and, not_true_eq_false, not_false_eq_true, false_implies, forall_const, if_true, if_false, and_self, Nat.reduceEqDiff, Nat.reduceLeDiff, Nat.reduceAdd, Nat.zero_le, lt_le, Int32.reduceLT, cl0, cl2, Nat.reduceLT, hAe, c_mW, n_mW, r_mW, z_mW, l_mW, i_mW_w0, i_mW_w1, i_mW_r0, i_mW_r1, imw2_j31 hA, imw2_j34 hA, imw0_j33 hA, imw0_j36 hA, (hA_33_27 hA), (hA_36_27 hA), (hA_31_27 hA), (hA_34_27 hA), imw0_j33 hA, imw0_j36 hA, imw2_j31 hA, imw2_j34 hA, imx0_0 hA, imx0_1 hA, imx2_3 hA, imx2_4 hA, imx2_6 hA, imx0_6 hA, i27_mW0 hA (k := 2) (by decide), pL_c, pL_n, pL_r, pL_i, pL_z, pL_l, kc22, kc23, kc25, kc26, kc27, kc31, kc33, kc34, kc36, kn23, kn25, kn26, kn27, kr22_0, kr22_2, kr22_3, kr22_4, kr25_0, kr25_2, kr26_0, kr26_2, kz, ki31_0, ki31_1, ki33_1, ki34_1, ki36_0, ki36_1, ar2, ar0, vq3, cl0, cl2, Int32.reduceLT, hn1, e3, e4, hj2, hk2, mT2_mW0 hA, mT2_mW hA, mT0_mW hA, mWx20 hA, mW_mW, p_l_mW, pL_pl]

theorem pme20 {A : Nat → Nat} {h : MH} {t u : QT} {rm : Nat → Int64} {n : Nat} {Q : MR → MH → Prop} (vk : K A h) (vcn : Cn A h) (m1 : t ∈ QS2) (m2 : u ∈ QS0) (hs : t.2.2.2.2.1 - t.2.2.2.1 = 0 ∨ u.2.1 - u.1 = 0) : Ok 197 40 [.ref (A 22), .int 2, .int 0, .int (Int32.ofNat n)] [] (mW (mW (p_L h (A 23) (rm)) (A 27) 2 (A 33) (A 36) t) (A 27) 0 (A 31) (A 34) u) 0 0 Q ↔ Ok 197 80 [.ref (A 22), .int 2, .int 0, .int (Int32.ofNat n)] [] (mW (mW (p_L h (A 23) (rm)) (A 27) 2 (A 33) (A 36) t) (A 27) 0 (A 31) (A 34) u) 0 0 Q := by
  have vk0 := vk
  have vcn0 := vcn
  (refine K_el vk0 ?_; intros hA kc0 kc1 kc2 kc3 kc4 kc5 kc6 kc7 kc8 kc9 kc10 kc11 kc12 kc13 kc14 kc15 kc16 kc17 kc18 kc19 kc20 kc21 kc22 kc23 kc24 kc25 kc26 kc27 kc28 kc29 kc30 kc31 kc32 kc33 kc34 kc35 kc36 kc37 kc38 kc39 kz kt kn3 kn4 kn18 kn21 kn23 kn24 kn25 kn26 kn27 kn29 kn30 kr0_0 kr0_1 kr0_2 kr0_3 kr0_4 kr0_5 kr0_7 kr0_8 kr0_9 kr0_10 kr1_0 kr2_0 kr5_0 kr5_1 kr6_0 kr6_1 kr7_0 kr7_1 kr8_0 kr9_0 kr10_0 kr11_0 kr12_0 kr13_0 kr14_0 kr15_0 kr16_0 kr17_0 kr19_0 kr19_1 kr22_0 kr22_1 kr22_2 kr22_3 kr22_4 kr22_5 kr22_7 kr22_8 kr25_0 kr25_1 kr25_2 kr26_0 kr26_1 kr26_2 kr29_0 kr29_1)
  (refine Cn_el vcn0 ?_; intros ki5_2 ki6_2 ki7_2 ki8_1 ki8_2 ki8_3 ki9_1 ki9_2 ki9_3 ki10_1 ki10_2 ki10_3 ki11_1 ki11_2 ki11_3 ki12_1 ki12_2 ki12_3 ki13_1 ki13_2 ki13_3 ki14_1 ki14_2 ki14_3 ki28_0 ki28_1 ki31_0 ki31_1 ki32_0 ki32_1 ki33_0 ki33_1 ki34_0 ki34_1 ki35_0 ki35_1 ki36_0 ki36_1)
  have hAe : ∀ i j, i < 40 → j < 40 → (A i = A j ↔ i = j) := hA
  by_cases e1 : t.2.2.2.2.1 - t.2.2.2.1 = 0
  · have e3 : (0 < t.2.2.2.2.1 - t.2.2.2.1) = False := eq_false ((qN_2 _ m1).1 e1).2
    rw [o197_40]
    simp only [o197_41, o197_44, o197_45, o197_46, o197_49, o197_52, o197_53, o197_56, o197_57, o197_58, o197_61, o197_64, o197_65, o197_66, o197_67, o197_68, c_X7_rests, mcs_0, mcs_i, mcs_r, Kn_v, mrf_some, true_and, and_true, not_true_eq_false, not_false_eq_true, false_implies, forall_const, and_self, Nat.reduceLeDiff, Nat.reduceAdd, Nat.zero_le, lt_le, Classical.not_not, cl0, cl2, c_mW, n_mW, r_mW, imw0_j36 hA, imw0_j36 hA, imx0_0 hA, imx0_1 hA, imx2_3 hA, imx2_4 hA, pL_c, pL_n, pL_r, kc22, kc25, kc26, kc31, kc36, kn25, kn26, kr22_2, kr22_3, kr25_0, kr26_2, e3, vq3, cl0, cl2]
    all_goals (try exact Iff.rfl)
  · have e3 : (0 < t.2.2.2.2.1 - t.2.2.2.1) = True := eq_true ((qN_2 _ m1).2.1 e1).1
    have e4 : (0 < u.2.1 - u.1) = False := eq_false ((qN_0 _ m2).2.2.2.2.1 (hs.resolve_left e1))
    rw [o197_40]
    simp only [o197_41, o197_44, o197_45, o197_46, o197_49, o197_52, o197_53, o197_56, o197_57, o197_58, o197_61, o197_64, o197_65, o197_66, o197_67, o197_68, c_X7_rests, mcs_0, mcs_i, mcs_r, Kn_v, mrf_some, true_and, and_true, not_true_eq_false, not_false_eq_true, false_implies, forall_const, and_self, Nat.reduceLeDiff, Nat.reduceAdd, Nat.zero_le, lt_le, cl0, cl2, c_mW, n_mW, r_mW, imw0_j36 hA, imw0_j36 hA, imx0_0 hA, imx0_1 hA, imx2_3 hA, imx2_4 hA, pL_c, pL_n, pL_r, kc22, kc25, kc26, kc31, kc36, kn25, kn26, kr22_2, kr22_3, kr25_0, kr26_2, e3, e4, vq3, cl0, cl2]
    all_goals (try exact Iff.rfl)

theorem pcs21 {A : Nat → Nat} {h : MH} {t u : QT} {rc : Nat → Int64} {n M : Nat} {Q : MR → MH → Prop} (vk : K A h) (vcn : Cn A h) (m1 : t ∈ QS2) (m2 : u ∈ QS1) (e1 : ¬ t.2.2.2.2.1 - t.2.2.2.1 = 0) (e2 : ¬ u.2.1 - u.1 = 0) (hn : (Int32.ofNat n < Int32.ofNat M) = True) : Ok 73 37 [.ref (A 0), .int 2, .int 1, .ref (A 7), .ref (A 6), .int (Int32.ofNat M), .int (Int32.ofNat n)] [] (cW (cW (p_L h (A 3) (rc)) (A 7) (A 12) (A 13) t) (A 6) (A 10) (A 11) u) 1 6 Q ↔ Ok 73 37 [.ref (A 0), .int 2, .int 1, .ref (A 7), .ref (A 6), .int (Int32.ofNat M), .int (Int32.ofNat (n + 1))] [] (cW (cW (p_L h (A 3) (fun x => if x = (6 + u.1).toNatClampNeg then rc (9 + t.2.2.2.1).toNatClampNeg else rc x)) (A 7) (A 12) (A 13) (seF 0 6 (goF t))) (A 6) (A 10) (A 11) (seF 1 3 (ciF u))) 1 6 Q := by
  have vk0 := vk
  have vcn0 := vcn
  (refine K_el vk0 ?_; intros hA kc0 kc1 kc2 kc3 kc4 kc5 kc6 kc7 kc8 kc9 kc10 kc11 kc12 kc13 kc14 kc15 kc16 kc17 kc18 kc19 kc20 kc21 kc22 kc23 kc24 kc25 kc26 kc27 kc28 kc29 kc30 kc31 kc32 kc33 kc34 kc35 kc36 kc37 kc38 kc39 kz kt kn3 kn4 kn18 kn21 kn23 kn24 kn25 kn26 kn27 kn29 kn30 kr0_0 kr0_1 kr0_2 kr0_3 kr0_4 kr0_5 kr0_7 kr0_8 kr0_9 kr0_10 kr1_0 kr2_0 kr5_0 kr5_1 kr6_0 kr6_1 kr7_0 kr7_1 kr8_0 kr9_0 kr10_0 kr11_0 kr12_0 kr13_0 kr14_0 kr15_0 kr16_0 kr17_0 kr19_0 kr19_1 kr22_0 kr22_1 kr22_2 kr22_3 kr22_4 kr22_5 kr22_7 kr22_8 kr25_0 kr25_1 kr25_2 kr26_0 kr26_1 kr26_2 kr29_0 kr29_1)
  (refine Cn_el vcn0 ?_; intros ki5_2 ki6_2 ki7_2 ki8_1 ki8_2 ki8_3 ki9_1 ki9_2 ki9_3 ki10_1 ki10_2 ki10_3 ki11_1 ki11_2 ki11_3 ki12_1 ki12_2 ki12_3 ki13_1 ki13_2 ki13_3 ki14_1 ki14_2 ki14_3 ki28_0 ki28_1 ki31_0 ki31_1 ki32_0 ki32_1 ki33_0 ki33_1 ki34_0 ki34_1 ki35_0 ki35_1 ki36_0 ki36_1)
  have hAe : ∀ i j, i < 40 → j < 40 → (A i = A j ↔ i = j) := hA
  obtain ⟨i1, i2, hj, hq1⟩ := (qO_2 _ m1).resolve_left e1
  obtain ⟨i3, i4, hk, hq2⟩ := (qI_1 _ m2).resolve_left e2
  have hn1 : Int32.ofNat n + 1 = Int32.ofNat (n + 1) := n_add n 1
  have nq : ¬ A 12 = A 13 := fun z => absurd ((hAe 12 13 (by decide) (by decide)).mp z) (by decide)
  have nq2 : ¬ A 10 = A 11 := fun z => absurd ((hAe 10 11 (by decide) (by decide)).mp z) (by decide)
  rw [o73_37]
  simp only [o73_39, o73_41, o73_44, o73_46, o73_49, o73_52, o73_54, o73_55, o73_58, o73_61, o73_64, c_X1_hasNoRest (w := A 10) (r := A 11), c_X1_goOut (w := A 12) (r := A 13) (rw := A 1) (cs := A 3) (n := 16) (sz := 6) (ring := 0), c_X1_comeIn (w := A 10) (r := A 11) (rw := A 1) (cs := A 3) (n := 16) (sz := 3) (ring := 1), mcs_0, mcs_r, Kn_v, Kn_0, true_and, not_true_eq_false, not_false_eq_true, false_implies, forall_const, if_true, if_false, Nat.reduceEqDiff, Nat.reduceLeDiff, Nat.reduceAdd, Nat.zero_le, lt_le, Nat.reduceLT, hAe, c_cW, n_cW, r_cW, z_cW, l_cW, i_cW_q2, i_cW_w1, i_cW_w2, i_cW_w3, i_cW_r1, i_cW_r2, (hA_10_6 hA), icw1_j7 hA, icw1_j12 hA, icw1_j13 hA, icw2_j6 hA, icw2_j10 hA, icw2_j11 hA, icx1_0 hA, icx1_1 hA, icx2_3 hA, icx2_4 hA, pL_c, pL_n, pL_r, pL_i, pL_z, pL_l, kc1, kc3, kc6, kc7, kc10, kc11, kc12, kc13, kn3, kr1_0, kr6_0, kr6_1, kr7_0, kr7_1, kr10_0, kr13_0, kz, ki6_2, ki7_2, ki10_1, ki10_2, ki10_3, ki11_2, ki12_2, ki13_1, ki13_2, hn, hn1, e1, e2, i1, i2, hj, i3, i4, hk, cT2_cW1 hA, cT2_cW hA, cT1_cW hA, cWx21 hA, cW_cW, p_l_cW, pL_pl]

theorem pce21 {A : Nat → Nat} {h : MH} {t u : QT} {rc : Nat → Int64} {n M : Nat} {Q : MR → MH → Prop} (vk : K A h) (vcn : Cn A h) (m1 : t ∈ QS2) (m2 : u ∈ QS1) (hs : (Int32.ofNat n < Int32.ofNat M) = False ∨ u.2.1 - u.1 = 0) : Ok 73 37 [.ref (A 0), .int 2, .int 1, .ref (A 7), .ref (A 6), .int (Int32.ofNat M), .int (Int32.ofNat n)] [] (cW (cW (p_L h (A 3) (rc)) (A 7) (A 12) (A 13) t) (A 6) (A 10) (A 11) u) 1 6 Q ↔ Ok 73 67 [.ref (A 0), .int 2, .int 1, .ref (A 7), .ref (A 6), .int (Int32.ofNat M), .int (Int32.ofNat n)] [] (cW (cW (p_L h (A 3) (rc)) (A 7) (A 12) (A 13) t) (A 6) (A 10) (A 11) u) 1 6 Q := by
  have vk0 := vk
  have vcn0 := vcn
  (refine K_el vk0 ?_; intros hA kc0 kc1 kc2 kc3 kc4 kc5 kc6 kc7 kc8 kc9 kc10 kc11 kc12 kc13 kc14 kc15 kc16 kc17 kc18 kc19 kc20 kc21 kc22 kc23 kc24 kc25 kc26 kc27 kc28 kc29 kc30 kc31 kc32 kc33 kc34 kc35 kc36 kc37 kc38 kc39 kz kt kn3 kn4 kn18 kn21 kn23 kn24 kn25 kn26 kn27 kn29 kn30 kr0_0 kr0_1 kr0_2 kr0_3 kr0_4 kr0_5 kr0_7 kr0_8 kr0_9 kr0_10 kr1_0 kr2_0 kr5_0 kr5_1 kr6_0 kr6_1 kr7_0 kr7_1 kr8_0 kr9_0 kr10_0 kr11_0 kr12_0 kr13_0 kr14_0 kr15_0 kr16_0 kr17_0 kr19_0 kr19_1 kr22_0 kr22_1 kr22_2 kr22_3 kr22_4 kr22_5 kr22_7 kr22_8 kr25_0 kr25_1 kr25_2 kr26_0 kr26_1 kr26_2 kr29_0 kr29_1)
  (refine Cn_el vcn0 ?_; intros ki5_2 ki6_2 ki7_2 ki8_1 ki8_2 ki8_3 ki9_1 ki9_2 ki9_3 ki10_1 ki10_2 ki10_3 ki11_1 ki11_2 ki11_3 ki12_1 ki12_2 ki12_3 ki13_1 ki13_2 ki13_3 ki14_1 ki14_2 ki14_3 ki28_0 ki28_1 ki31_0 ki31_1 ki32_0 ki32_1 ki33_0 ki33_1 ki34_0 ki34_1 ki35_0 ki35_1 ki36_0 ki36_1)
  have hAe : ∀ i j, i < 40 → j < 40 → (A i = A j ↔ i = j) := hA
  by_cases hn : Int32.ofNat n < Int32.ofNat M
  · have e2 : u.2.1 - u.1 = 0 := hs.resolve_left (fun z => by rw [z] at hn; exact hn)
    rw [o73_37]
    simp only [o73_39, o73_41, o73_44, o73_46, o73_49, o73_52, o73_54, o73_55, c_X1_hasNoRest (w := A 10) (r := A 11), mcs_0, mcs_r, Kn_v, true_and, and_true, not_true_eq_false, not_false_eq_true, false_implies, forall_const, if_true, Nat.reduceLeDiff, Nat.reduceAdd, Nat.zero_le, i10, lt_le, c_cW, r_cW, icx1_0 hA, icx1_1 hA, pL_c, pL_r, kc6, kc7, kc10, kc11, kr6_0, kr6_1, hn, e2]
    all_goals (try exact Iff.rfl)
  · rw [o73_37]
    simp only [o73_39, o73_41, o73_44, o73_46, mcs_0, true_and, and_true, not_true_eq_false, not_false_eq_true, false_implies, forall_const, Nat.zero_le, lt_le, hn]
    all_goals (try exact Iff.rfl)

theorem pms21 {A : Nat → Nat} {h : MH} {t u : QT} {rm : Nat → Int64} {n : Nat} {Q : MR → MH → Prop} (vk : K A h) (vcn : Cn A h) (m1 : t ∈ QS2) (m2 : u ∈ QS1) (e1 : ¬ t.2.2.2.2.1 - t.2.2.2.1 = 0) (e2 : ¬ u.2.1 - u.1 = 0) : Ok 197 40 [.ref (A 22), .int 2, .int 1, .int (Int32.ofNat n)] [] (mW (mW (p_L h (A 23) (rm)) (A 27) 2 (A 33) (A 36) t) (A 27) 1 (A 32) (A 35) u) 0 0 Q ↔ Ok 197 40 [.ref (A 22), .int 2, .int 1, .int (Int32.ofNat (n + 1))] [] (mW (mW (p_L h (A 23) (fun x => if x = (6 + u.1).toNatClampNeg then rm (9 + t.2.2.2.1).toNatClampNeg else rm x)) (A 27) 2 (A 33) (A 36) (seF 0 6 (goF t))) (A 27) 1 (A 32) (A 35) (seF 1 3 (ciF u))) 0 0 Q := by
  have vk0 := vk
  have vcn0 := vcn
  (refine K_el vk0 ?_; intros hA kc0 kc1 kc2 kc3 kc4 kc5 kc6 kc7 kc8 kc9 kc10 kc11 kc12 kc13 kc14 kc15 kc16 kc17 kc18 kc19 kc20 kc21 kc22 kc23 kc24 kc25 kc26 kc27 kc28 kc29 kc30 kc31 kc32 kc33 kc34 kc35 kc36 kc37 kc38 kc39 kz kt kn3 kn4 kn18 kn21 kn23 kn24 kn25 kn26 kn27 kn29 kn30 kr0_0 kr0_1 kr0_2 kr0_3 kr0_4 kr0_5 kr0_7 kr0_8 kr0_9 kr0_10 kr1_0 kr2_0 kr5_0 kr5_1 kr6_0 kr6_1 kr7_0 kr7_1 kr8_0 kr9_0 kr10_0 kr11_0 kr12_0 kr13_0 kr14_0 kr15_0 kr16_0 kr17_0 kr19_0 kr19_1 kr22_0 kr22_1 kr22_2 kr22_3 kr22_4 kr22_5 kr22_7 kr22_8 kr25_0 kr25_1 kr25_2 kr26_0 kr26_1 kr26_2 kr29_0 kr29_1)
  (refine Cn_el vcn0 ?_; intros ki5_2 ki6_2 ki7_2 ki8_1 ki8_2 ki8_3 ki9_1 ki9_2 ki9_3 ki10_1 ki10_2 ki10_3 ki11_1 ki11_2 ki11_3 ki12_1 ki12_2 ki12_3 ki13_1 ki13_2 ki13_3 ki14_1 ki14_2 ki14_3 ki28_0 ki28_1 ki31_0 ki31_1 ki32_0 ki32_1 ki33_0 ki33_1 ki34_0 ki34_1 ki35_0 ki35_1 ki36_0 ki36_1)
  have hAe : ∀ i j, i < 40 → j < 40 → (A i = A j ↔ i = j) := hA
  obtain ⟨i1, i2, hj, hq1⟩ := (qO_2 _ m1).resolve_left e1
  obtain ⟨i3, i4, hk, hq2⟩ := (qI_1 _ m2).resolve_left e2
  have ar2 : arok 2 t.2.2.2.2.2.2 := fun _ => (qA_2 _ m1).2.1
  have ar1 : arok 1 u.2.2.2.2.2.2 := fun z => absurd (by decide) z
  have e3 : (0 < t.2.2.2.2.1 - t.2.2.2.1) = True := eq_true ((qN_2 _ m1).2.1 e1).1
  have e4 : (0 < u.2.1 - u.1) = True := eq_true ((qN_1 _ m2).2.2.2.2.2 e2)
  have hj2 := hj.2.2
  have hk2 := hk.2.2
  have hn1 : Int32.ofNat n + 1 = Int32.ofNat (n + 1) := n_add n 1
  rw [o197_40]
  simp only [o197_41, o197_44, o197_45, o197_46, o197_49, o197_52, o197_53, o197_56, o197_57, o197_58, o197_61, o197_64, o197_65, o197_66, o197_67, o197_68, o197_71, o197_74, o197_77, c_X7_rests, c_X8_goOut (x2 := A 25) (x3 := A 26) (a := A 27) (w := A 33) (r := A 36) (lr := A 23) (sz := 6), c_X8_comeIn (x2 := A 25) (x3 := A 26) (a := A 27) (w := A 32) (r := A 35) (lr := A 23) (sz := 3), mcs_0, mcs_i, mcs_r, Kn_v, Kn_0, mrf_some, true_and, not_true_eq_false, not_false_eq_true, false_implies, forall_const, if_true, if_false, and_self, Nat.reduceEqDiff, Nat.reduceLeDiff, Nat.reduceAdd, Nat.zero_le, lt_le, Int32.reduceLT, cl1, cl2, Nat.reduceLT, hAe, c_mW, n_mW, r_mW, z_mW, l_mW, i_mW_w0, i_mW_w1, i_mW_r0, i_mW_r1, imw2_j32 hA, imw2_j35 hA, imw1_j33 hA, imw1_j36 hA, (hA_33_27 hA), (hA_36_27 hA), (hA_32_27 hA), (hA_35_27 hA), imw1_j33 hA, imw1_j36 hA, imw2_j32 hA, imw2_j35 hA, imx1_0 hA, imx1_1 hA, imx2_3 hA, imx2_4 hA, imx2_6 hA, imx1_6 hA, i27_mW1 hA (k := 2) (by decide), pL_c, pL_n, pL_r, pL_i, pL_z, pL_l, kc22, kc23, kc25, kc26, kc27, kc32, kc33, kc35, kc36, kn23, kn25, kn26, kn27, kr22_0, kr22_2, kr22_3, kr22_4, kr25_1, kr25_2, kr26_1, kr26_2, kz, ki32_0, ki32_1, ki33_1, ki35_1, ki36_0, ki36_1, ar2, ar1, vq3, cl1, cl2, Int32.reduceLT, hn1, e3, e4, hj2, hk2, mT2_mW1 hA, mT2_mW hA, mT1_mW hA, mWx21 hA, mW_mW, p_l_mW, pL_pl]

theorem pme21 {A : Nat → Nat} {h : MH} {t u : QT} {rm : Nat → Int64} {n : Nat} {Q : MR → MH → Prop} (vk : K A h) (vcn : Cn A h) (m1 : t ∈ QS2) (m2 : u ∈ QS1) (hs : t.2.2.2.2.1 - t.2.2.2.1 = 0 ∨ u.2.1 - u.1 = 0) : Ok 197 40 [.ref (A 22), .int 2, .int 1, .int (Int32.ofNat n)] [] (mW (mW (p_L h (A 23) (rm)) (A 27) 2 (A 33) (A 36) t) (A 27) 1 (A 32) (A 35) u) 0 0 Q ↔ Ok 197 80 [.ref (A 22), .int 2, .int 1, .int (Int32.ofNat n)] [] (mW (mW (p_L h (A 23) (rm)) (A 27) 2 (A 33) (A 36) t) (A 27) 1 (A 32) (A 35) u) 0 0 Q := by
  have vk0 := vk
  have vcn0 := vcn
  (refine K_el vk0 ?_; intros hA kc0 kc1 kc2 kc3 kc4 kc5 kc6 kc7 kc8 kc9 kc10 kc11 kc12 kc13 kc14 kc15 kc16 kc17 kc18 kc19 kc20 kc21 kc22 kc23 kc24 kc25 kc26 kc27 kc28 kc29 kc30 kc31 kc32 kc33 kc34 kc35 kc36 kc37 kc38 kc39 kz kt kn3 kn4 kn18 kn21 kn23 kn24 kn25 kn26 kn27 kn29 kn30 kr0_0 kr0_1 kr0_2 kr0_3 kr0_4 kr0_5 kr0_7 kr0_8 kr0_9 kr0_10 kr1_0 kr2_0 kr5_0 kr5_1 kr6_0 kr6_1 kr7_0 kr7_1 kr8_0 kr9_0 kr10_0 kr11_0 kr12_0 kr13_0 kr14_0 kr15_0 kr16_0 kr17_0 kr19_0 kr19_1 kr22_0 kr22_1 kr22_2 kr22_3 kr22_4 kr22_5 kr22_7 kr22_8 kr25_0 kr25_1 kr25_2 kr26_0 kr26_1 kr26_2 kr29_0 kr29_1)
  (refine Cn_el vcn0 ?_; intros ki5_2 ki6_2 ki7_2 ki8_1 ki8_2 ki8_3 ki9_1 ki9_2 ki9_3 ki10_1 ki10_2 ki10_3 ki11_1 ki11_2 ki11_3 ki12_1 ki12_2 ki12_3 ki13_1 ki13_2 ki13_3 ki14_1 ki14_2 ki14_3 ki28_0 ki28_1 ki31_0 ki31_1 ki32_0 ki32_1 ki33_0 ki33_1 ki34_0 ki34_1 ki35_0 ki35_1 ki36_0 ki36_1)
  have hAe : ∀ i j, i < 40 → j < 40 → (A i = A j ↔ i = j) := hA
  by_cases e1 : t.2.2.2.2.1 - t.2.2.2.1 = 0
  · have e3 : (0 < t.2.2.2.2.1 - t.2.2.2.1) = False := eq_false ((qN_2 _ m1).1 e1).2
    rw [o197_40]
    simp only [o197_41, o197_44, o197_45, o197_46, o197_49, o197_52, o197_53, o197_56, o197_57, o197_58, o197_61, o197_64, o197_65, o197_66, o197_67, o197_68, c_X7_rests, mcs_0, mcs_i, mcs_r, Kn_v, mrf_some, true_and, and_true, not_true_eq_false, not_false_eq_true, false_implies, forall_const, and_self, Nat.reduceLeDiff, Nat.reduceAdd, Nat.zero_le, lt_le, Classical.not_not, cl1, cl2, c_mW, n_mW, r_mW, imw1_j36 hA, imw1_j36 hA, imx1_0 hA, imx1_1 hA, imx2_3 hA, imx2_4 hA, pL_c, pL_n, pL_r, kc22, kc25, kc26, kc32, kc36, kn25, kn26, kr22_2, kr22_3, kr25_1, kr26_2, e3, vq3, cl1, cl2]
    all_goals (try exact Iff.rfl)
  · have e3 : (0 < t.2.2.2.2.1 - t.2.2.2.1) = True := eq_true ((qN_2 _ m1).2.1 e1).1
    have e4 : (0 < u.2.1 - u.1) = False := eq_false ((qN_1 _ m2).2.2.2.2.1 (hs.resolve_left e1))
    rw [o197_40]
    simp only [o197_41, o197_44, o197_45, o197_46, o197_49, o197_52, o197_53, o197_56, o197_57, o197_58, o197_61, o197_64, o197_65, o197_66, o197_67, o197_68, c_X7_rests, mcs_0, mcs_i, mcs_r, Kn_v, mrf_some, true_and, and_true, not_true_eq_false, not_false_eq_true, false_implies, forall_const, and_self, Nat.reduceLeDiff, Nat.reduceAdd, Nat.zero_le, lt_le, cl1, cl2, c_mW, n_mW, r_mW, imw1_j36 hA, imw1_j36 hA, imx1_0 hA, imx1_1 hA, imx2_3 hA, imx2_4 hA, pL_c, pL_n, pL_r, kc22, kc25, kc26, kc32, kc36, kn25, kn26, kr22_2, kr22_3, kr25_1, kr26_2, e3, e4, vq3, cl1, cl2]
    all_goals (try exact Iff.rfl)


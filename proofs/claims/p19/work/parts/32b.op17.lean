theorem pcs01 {A : Nat → Nat} {h : MH} {t u : QT} {rc : Nat → Int64} {n M : Nat} {Q : MR → MH → Prop} (vk : K A h) (vcn : Cn A h) (m1 : t ∈ QS0) (m2 : u ∈ QS1) (e1 : ¬ t.2.2.2.2.1 - t.2.2.2.1 = 0) (e2 : ¬ u.2.1 - u.1 = 0) (hn : (Int32.ofNat n < Int32.ofNat M) = True) : Ok 73 37 [.ref (A 0), .int 0, .int 1, .ref (A 5), .ref (A 6), .int (Int32.ofNat M), .int (Int32.ofNat n)] [] (cW (cW (p_L h (A 3) (rc)) (A 5) (A 8) (A 9) t) (A 6) (A 10) (A 11) u) 1 6 Q ↔ Ok 73 37 [.ref (A 0), .int 0, .int 1, .ref (A 5), .ref (A 6), .int (Int32.ofNat M), .int (Int32.ofNat (n + 1))] [] (cW (cW (p_L h (A 3) (fun x => if x = (6 + u.1).toNatClampNeg then rc (1 + t.2.2.2.1).toNatClampNeg else rc x)) (A 5) (A 8) (A 9) (seF 1 5 (goF t))) (A 6) (A 10) (A 11) (seF 1 3 (ciF u))) 1 6 Q := by
  have vk0 := vk
  have vcn0 := vcn
  (refine K_el vk0 ?_; intros hA kc0 kc1 kc2 kc3 kc4 kc5 kc6 kc7 kc8 kc9 kc10 kc11 kc12 kc13 kc14 kc15 kc16 kc17 kc18 kc19 kc20 kc21 kc22 kc23 kc24 kc25 kc26 kc27 kc28 kc29 kc30 kc31 kc32 kc33 kc34 kc35 kc36 kc37 kc38 kc39 kz kt kn3 kn4 kn18 kn21 kn23 kn24 kn25 kn26 kn27 kn29 kn30 kr0_0 kr0_1 kr0_2 kr0_3 kr0_4 kr0_5 kr0_7 kr0_8 kr0_9 kr0_10 kr1_0 kr2_0 kr5_0 kr5_1 kr6_0 kr6_1 kr7_0 kr7_1 kr8_0 kr9_0 kr10_0 kr11_0 kr12_0 kr13_0 kr14_0 kr15_0 kr16_0 kr17_0 kr19_0 kr19_1 kr22_0 kr22_1 kr22_2 kr22_3 kr22_4 kr22_5 kr22_7 kr22_8 kr25_0 kr25_1 kr25_2 kr26_0 kr26_1 kr26_2 kr29_0 kr29_1)
  (refine Cn_el vcn0 ?_; intros ki5_2 ki6_2 ki7_2 ki8_1 ki8_2 ki8_3 ki9_1 ki9_2 ki9_3 ki10_1 ki10_2 ki10_3 ki11_1 ki11_2 ki11_3 ki12_1 ki12_2 ki12_3 ki13_1 ki13_2 ki13_3 ki14_1 ki14_2 ki14_3 ki28_0 ki28_1 ki31_0 ki31_1 ki32_0 ki32_1 ki33_0 ki33_1 ki34_0 ki34_1 ki35_0 ki35_1 ki36_0 ki36_1)
  have hAe : ∀ i j, i < 40 → j < 40 → (A i = A j ↔ i = j) := hA
  obtain ⟨i1, i2, hj, hq1⟩ := (qO_0 _ m1).resolve_left e1
  obtain ⟨i3, i4, hk, hq2⟩ := (qI_1 _ m2).resolve_left e2
  have hn1 : Int32.ofNat n + 1 = Int32.ofNat (n + 1) := n_add n 1
  have nq : ¬ A 8 = A 9 := fun z => absurd ((hAe 8 9 (by decide) (by decide)).mp z) (by decide)
  have nq2 : ¬ A 10 = A 11 := fun z => absurd ((hAe 10 11 (by decide) (by decide)).mp z) (by decide)
  rw [o73_37]
  simp only [o73_39, o73_41, o73_44, o73_46, o73_49, o73_52, o73_54, o73_55, o73_58, o73_61, o73_64, c_X1_hasNoRest (w := A 10) (r := A 11), c_X1_goOut (w := A 8) (r := A 9) (rw := A 1) (cs := A 3) (n := 16) (sz := 5) (ring := 1), c_X1_comeIn (w := A 10) (r := A 11) (rw := A 1) (cs := A 3) (n := 16) (sz := 3) (ring := 1), mcs_0, mcs_r, Kn_v, Kn_0, true_and, not_true_eq_false, not_false_eq_true, false_implies, forall_const, if_true, if_false, Nat.reduceEqDiff, Nat.reduceLeDiff, Nat.reduceAdd, Nat.zero_le, lt_le, Nat.reduceLT, hAe, c_cW, n_cW, r_cW, z_cW, l_cW, i_cW_q2, i_cW_w1, i_cW_w2, i_cW_w3, i_cW_r1, i_cW_r2, (hA_10_6 hA), icw1_j5 hA, icw1_j8 hA, icw1_j9 hA, icw0_j6 hA, icw0_j10 hA, icw0_j11 hA, icx1_0 hA, icx1_1 hA, icx0_3 hA, icx0_4 hA, pL_c, pL_n, pL_r, pL_i, pL_z, pL_l, kc1, kc3, kc5, kc6, kc8, kc9, kc10, kc11, kn3, kr1_0, kr5_0, kr5_1, kr6_0, kr6_1, kr9_0, kr10_0, kz, ki5_2, ki6_2, ki8_2, ki9_1, ki9_2, ki10_1, ki10_2, ki10_3, ki11_2, hn, hn1, e1, e2, i1, i2, hj, i3, i4, hk, cT0_cW1 hA, cT0_cW hA, cT1_cW hA, cWx01 hA, cW_cW, p_l_cW, pL_pl]

theorem pce01 {A : Nat → Nat} {h : MH} {t u : QT} {rc : Nat → Int64} {n M : Nat} {Q : MR → MH → Prop} (vk : K A h) (vcn : Cn A h) (m1 : t ∈ QS0) (m2 : u ∈ QS1) (hs : (Int32.ofNat n < Int32.ofNat M) = False ∨ u.2.1 - u.1 = 0) : Ok 73 37 [.ref (A 0), .int 0, .int 1, .ref (A 5), .ref (A 6), .int (Int32.ofNat M), .int (Int32.ofNat n)] [] (cW (cW (p_L h (A 3) (rc)) (A 5) (A 8) (A 9) t) (A 6) (A 10) (A 11) u) 1 6 Q ↔ Ok 73 67 [.ref (A 0), .int 0, .int 1, .ref (A 5), .ref (A 6), .int (Int32.ofNat M), .int (Int32.ofNat n)] [] (cW (cW (p_L h (A 3) (rc)) (A 5) (A 8) (A 9) t) (A 6) (A 10) (A 11) u) 1 6 Q := by
  have vk0 := vk
  have vcn0 := vcn
  (refine K_el vk0 ?_; intros hA kc0 kc1 kc2 kc3 kc4 kc5 kc6 kc7 kc8 kc9 kc10 kc11 kc12 kc13 kc14 kc15 kc16 kc17 kc18 kc19 kc20 kc21 kc22 kc23 kc24 kc25 kc26 kc27 kc28 kc29 kc30 kc31 kc32 kc33 kc34 kc35 kc36 kc37 kc38 kc39 kz kt kn3 kn4 kn18 kn21 kn23 kn24 kn25 kn26 kn27 kn29 kn30 kr0_0 kr0_1 kr0_2 kr0_3 kr0_4 kr0_5 kr0_7 kr0_8 kr0_9 kr0_10 kr1_0 kr2_0 kr5_0 kr5_1 kr6_0 kr6_1 kr7_0 kr7_1 kr8_0 kr9_0 kr10_0 kr11_0 kr12_0 kr13_0 kr14_0 kr15_0 kr16_0 kr17_0 kr19_0 kr19_1 kr22_0 kr22_1 kr22_2 kr22_3 kr22_4 kr22_5 kr22_7 kr22_8 kr25_0 kr25_1 kr25_2 kr26_0 kr26_1 kr26_2 kr29_0 kr29_1)
  (refine Cn_el vcn0 ?_; intros ki5_2 ki6_2 ki7_2 ki8_1 ki8_2 ki8_3 ki9_1 ki9_2 ki9_3 ki10_1 ki10_2 ki10_3 ki11_1 ki11_2 ki11_3 ki12_1 ki12_2 ki12_3 ki13_1 ki13_2 ki13_3 ki14_1 ki14_2 ki14_3 ki28_0 ki28_1 ki31_0 ki31_1 ki32_0 ki32_1 ki33_0 ki33_1 ki34_0 ki34_1 ki35_0 ki35_1 ki36_0 ki36_1)
  have hAe : ∀ i j, i < 40 → j < 40 → (A i = A j ↔ i = j) := hA
  by_cases hn : Int32.ofNat n < Int32.ofNat M
  · have e2 : u.2.1 - u.1 = 0 := hs.resolve_left (fun z => by rw [z] at hn; exact hn)
    rw [o73_37]
    simp only [o73_39, o73_41, o73_44, o73_46, o73_49, o73_52, o73_54, o73_55, c_X1_hasNoRest (w := A 10) (r := A 11), mcs_0, mcs_r, Kn_v, true_and, and_true, not_true_eq_false, not_false_eq_true, false_implies, forall_const, if_true, Nat.reduceLeDiff, Nat.reduceAdd, Nat.zero_le, i10, lt_le, c_cW, r_cW, icx1_0 hA, icx1_1 hA, pL_c, pL_r, kc5, kc6, kc10, kc11, kr6_0, kr6_1, hn, e2]
    all_goals (try exact Iff.rfl)
  · rw [o73_37]
    simp only [o73_39, o73_41, o73_44, o73_46, mcs_0, true_and, and_true, not_true_eq_false, not_false_eq_true, false_implies, forall_const, Nat.zero_le, lt_le, hn]
    all_goals (try exact Iff.rfl)

theorem pms01 {A : Nat → Nat} {h : MH} {t u : QT} {rm : Nat → Int64} {n : Nat} {Q : MR → MH → Prop} (vk : K A h) (vcn : Cn A h) (m1 : t ∈ QS0) (m2 : u ∈ QS1) (e1 : ¬ t.2.2.2.2.1 - t.2.2.2.1 = 0) (e2 : ¬ u.2.1 - u.1 = 0) : Ok 197 40 [.ref (A 22), .int 0, .int 1, .int (Int32.ofNat n)] [] (mW (mW (p_L h (A 23) (rm)) (A 27) 0 (A 31) (A 34) t) (A 27) 1 (A 32) (A 35) u) 0 0 Q ↔ Ok 197 40 [.ref (A 22), .int 0, .int 1, .int (Int32.ofNat (n + 1))] [] (mW (mW (p_L h (A 23) (fun x => if x = (6 + u.1).toNatClampNeg then rm (1 + t.2.2.2.1).toNatClampNeg else rm x)) (A 27) 0 (A 31) (A 34) (seF 1 5 (goF t))) (A 27) 1 (A 32) (A 35) (seF 1 3 (ciF u))) 0 0 Q := by
  have vk0 := vk
  have vcn0 := vcn
  (refine K_el vk0 ?_; intros hA kc0 kc1 kc2 kc3 kc4 kc5 kc6 kc7 kc8 kc9 kc10 kc11 kc12 kc13 kc14 kc15 kc16 kc17 kc18 kc19 kc20 kc21 kc22 kc23 kc24 kc25 kc26 kc27 kc28 kc29 kc30 kc31 kc32 kc33 kc34 kc35 kc36 kc37 kc38 kc39 kz kt kn3 kn4 kn18 kn21 kn23 kn24 kn25 kn26 kn27 kn29 kn30 kr0_0 kr0_1 kr0_2 kr0_3 kr0_4 kr0_5 kr0_7 kr0_8 kr0_9 kr0_10 kr1_0 kr2_0 kr5_0 kr5_1 kr6_0 kr6_1 kr7_0 kr7_1 kr8_0 kr9_0 kr10_0 kr11_0 kr12_0 kr13_0 kr14_0 kr15_0 kr16_0 kr17_0 kr19_0 kr19_1 kr22_0 kr22_1 kr22_2 kr22_3 kr22_4 kr22_5 kr22_7 kr22_8 kr25_0 kr25_1 kr25_2 kr26_0 kr26_1 kr26_2 kr29_0 kr29_1)
  (refine Cn_el vcn0 ?_; intros ki5_2 ki6_2 ki7_2 ki8_1 ki8_2 ki8_3 ki9_1 ki9_2 ki9_3 ki10_1 ki10_2 ki10_3 ki11_1 ki11_2 ki11_3 ki12_1 ki12_2 ki12_3 ki13_1 ki13_2 ki13_3 ki14_1 ki14_2 ki14_3 ki28_0 ki28_1 ki31_0 ki31_1 ki32_0 ki32_1 ki33_0 ki33_1 ki34_0 ki34_1 ki35_0 ki35_1 ki36_0 ki36_1)
  have hAe : ∀ i j, i < 40 → j < 40 → (A i = A j ↔ i = j) := hA
  obtain ⟨i1, i2, hj, hq1⟩ := (qO_0 _ m1).resolve_left e1
  obtain ⟨i3, i4, hk, hq2⟩ := (qI_1 _ m2).resolve_left e2
  have ar0 : arok 0 t.2.2.2.2.2.2 := fun z => absurd (by decide) z
  have ar1 : arok 1 u.2.2.2.2.2.2 := fun z => absurd (by decide) z
  have e3 : (0 < t.2.2.2.2.1 - t.2.2.2.1) = True := eq_true ((qN_0 _ m1).2.1 e1).1
  have e4 : (0 < u.2.1 - u.1) = True := eq_true ((qN_1 _ m2).2.2.2.2.2 e2)
  have hj2 := hj.2.2
  have hk2 := hk.2.2
  have hn1 : Int32.ofNat n + 1 = Int32.ofNat (n + 1) := n_add n 1
  rw [o197_40]
  simp only [o197_41, o197_44, o197_45, o197_46, o197_49, o197_52, o197_53, o197_56, o197_57, o197_58, o197_61, o197_64, o197_65, o197_66, o197_67, o197_68, o197_71, o197_74, o197_77, c_X7_rests, c_X8_goOut (x2 := A 25) (x3 := A 26) (a := A 27) (w := A 31) (r := A 34) (lr := A 23) (sz := 5), c_X8_comeIn (x2 := A 25) (x3 := A 26) (a := A 27) (w := A 32) (r := A 35) (lr := A 23) (sz := 3), mcs_0, mcs_i, mcs_r, Kn_v, Kn_0, mrf_some, true_and, not_true_eq_false, not_false_eq_true, false_implies, forall_const, if_true, and_self, Nat.reduceEqDiff, Nat.reduceLeDiff, Nat.reduceAdd, Nat.zero_le, lt_le, Int32.reduceLT, cl0, cl1, Nat.reduceLT, hAe, c_mW, n_mW, r_mW, z_mW, l_mW, i_mW_w0, i_mW_w1, i_mW_r0, i_mW_r1, imw0_j32 hA, imw0_j35 hA, imw1_j31 hA, imw1_j34 hA, (hA_31_27 hA), (hA_34_27 hA), (hA_32_27 hA), (hA_35_27 hA), imw1_j31 hA, imw1_j34 hA, imw0_j32 hA, imw0_j35 hA, imx1_0 hA, imx1_1 hA, imx0_3 hA, imx0_4 hA, imx0_6 hA, imx1_6 hA, i27_mW1 hA (k := 0) (by decide), pL_c, pL_n, pL_r, pL_i, pL_z, pL_l, kc22, kc23, kc25, kc26, kc27, kc31, kc32, kc34, kc35, kn23, kn25, kn26, kn27, kr22_0, kr22_2, kr22_3, kr22_4, kr25_0, kr25_1, kr26_0, kr26_1, kz, ki31_1, ki32_0, ki32_1, ki34_0, ki34_1, ki35_1, ar0, ar1, vq3, cl0, cl1, Int32.reduceLT, hn1, e3, e4, hj2, hk2, mT0_mW1 hA, mT0_mW hA, mT1_mW hA, mWx01 hA, mW_mW, p_l_mW, pL_pl]

theorem pme01 {A : Nat → Nat} {h : MH} {t u : QT} {rm : Nat → Int64} {n : Nat} {Q : MR → MH → Prop} (vk : K A h) (vcn : Cn A h) (m1 : t ∈ QS0) (m2 : u ∈ QS1) (hs : t.2.2.2.2.1 - t.2.2.2.1 = 0 ∨ u.2.1 - u.1 = 0) : Ok 197 40 [.ref (A 22), .int 0, .int 1, .int (Int32.ofNat n)] [] (mW (mW (p_L h (A 23) (rm)) (A 27) 0 (A 31) (A 34) t) (A 27) 1 (A 32) (A 35) u) 0 0 Q ↔ Ok 197 80 [.ref (A 22), .int 0, .int 1, .int (Int32.ofNat n)] [] (mW (mW (p_L h (A 23) (rm)) (A 27) 0 (A 31) (A 34) t) (A 27) 1 (A 32) (A 35) u) 0 0 Q := by
  have vk0 := vk
  have vcn0 := vcn
  (refine K_el vk0 ?_; intros hA kc0 kc1 kc2 kc3 kc4 kc5 kc6 kc7 kc8 kc9 kc10 kc11 kc12 kc13 kc14 kc15 kc16 kc17 kc18 kc19 kc20 kc21 kc22 kc23 kc24 kc25 kc26 kc27 kc28 kc29 kc30 kc31 kc32 kc33 kc34 kc35 kc36 kc37 kc38 kc39 kz kt kn3 kn4 kn18 kn21 kn23 kn24 kn25 kn26 kn27 kn29 kn30 kr0_0 kr0_1 kr0_2 kr0_3 kr0_4 kr0_5 kr0_7 kr0_8 kr0_9 kr0_10 kr1_0 kr2_0 kr5_0 kr5_1 kr6_0 kr6_1 kr7_0 kr7_1 kr8_0 kr9_0 kr10_0 kr11_0 kr12_0 kr13_0 kr14_0 kr15_0 kr16_0 kr17_0 kr19_0 kr19_1 kr22_0 kr22_1 kr22_2 kr22_3 kr22_4 kr22_5 kr22_7 kr22_8 kr25_0 kr25_1 kr25_2 kr26_0 kr26_1 kr26_2 kr29_0 kr29_1)
  (refine Cn_el vcn0 ?_; intros ki5_2 ki6_2 ki7_2 ki8_1 ki8_2 ki8_3 ki9_1 ki9_2 ki9_3 ki10_1 ki10_2 ki10_3 ki11_1 ki11_2 ki11_3 ki12_1 ki12_2 ki12_3 ki13_1 ki13_2 ki13_3 ki14_1 ki14_2 ki14_3 ki28_0 ki28_1 ki31_0 ki31_1 ki32_0 ki32_1 ki33_0 ki33_1 ki34_0 ki34_1 ki35_0 ki35_1 ki36_0 ki36_1)
  have hAe : ∀ i j, i < 40 → j < 40 → (A i = A j ↔ i = j) := hA
  by_cases e1 : t.2.2.2.2.1 - t.2.2.2.1 = 0
  · have e3 : (0 < t.2.2.2.2.1 - t.2.2.2.1) = False := eq_false ((qN_0 _ m1).1 e1).2
    rw [o197_40]
    simp only [o197_41, o197_44, o197_45, o197_46, o197_49, o197_52, o197_53, o197_56, o197_57, o197_58, o197_61, o197_64, o197_65, o197_66, o197_67, o197_68, c_X7_rests, mcs_0, mcs_i, mcs_r, Kn_v, mrf_some, true_and, and_true, not_true_eq_false, not_false_eq_true, false_implies, forall_const, and_self, Nat.reduceLeDiff, Nat.reduceAdd, Nat.zero_le, lt_le, Classical.not_not, cl0, cl1, c_mW, n_mW, r_mW, imw1_j34 hA, imw1_j34 hA, imx1_0 hA, imx1_1 hA, imx0_3 hA, imx0_4 hA, pL_c, pL_n, pL_r, kc22, kc25, kc26, kc32, kc34, kn25, kn26, kr22_2, kr22_3, kr25_1, kr26_0, e3, vq3, cl0, cl1]
    all_goals (try exact Iff.rfl)
  · have e3 : (0 < t.2.2.2.2.1 - t.2.2.2.1) = True := eq_true ((qN_0 _ m1).2.1 e1).1
    have e4 : (0 < u.2.1 - u.1) = False := eq_false ((qN_1 _ m2).2.2.2.2.1 (hs.resolve_left e1))
    rw [o197_40]
    simp only [o197_41, o197_44, o197_45, o197_46, o197_49, o197_52, o197_53, o197_56, o197_57, o197_58, o197_61, o197_64, o197_65, o197_66, o197_67, o197_68, c_X7_rests, mcs_0, mcs_i, mcs_r, Kn_v, mrf_some, true_and, and_true, not_true_eq_false, not_false_eq_true, false_implies, forall_const, and_self, Nat.reduceLeDiff, Nat.reduceAdd, Nat.zero_le, lt_le, cl0, cl1, c_mW, n_mW, r_mW, imw1_j34 hA, imw1_j34 hA, imx1_0 hA, imx1_1 hA, imx0_3 hA, imx0_4 hA, pL_c, pL_n, pL_r, kc22, kc25, kc26, kc32, kc34, kn25, kn26, kr22_2, kr22_3, kr25_1, kr26_0, e3, e4, vq3, cl0, cl1]
    all_goals (try exact Iff.rfl)


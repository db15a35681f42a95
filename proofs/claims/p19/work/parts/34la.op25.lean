set_option maxRecDepth 16384
/-! THE CHECKSUM, the reference -/
theorem m_plX0_0 {A : Nat → Nat} {h : MH} {Q : MR → MH → Prop} (R : Rl A h) (hQ : ∀ m, Fr (p_i h (A 22) 9 0) m → Q (.inl (some (.int (g_i h (A 8) 4)))) m) : Ok 204 0 [.ref (A 22), .int 0, .int 0, mk0] [] h 1 7 Q := by
  have R0 := R
  obtain ⟨vk, vcn, v0, v1, v2, vp, vl0, vl1, vlr, vsr, vc, tx⟩ := R0
  have vk0 := vk
  have vcn0 := vcn
  (refine K_el vk0 ?_; intros hA kc0 kc1 kc2 kc3 kc4 kc5 kc6 kc7 kc8 kc9 kc10 kc11 kc12 kc13 kc14 kc15 kc16 kc17 kc18 kc19 kc20 kc21 kc22 kc23 kc24 kc25 kc26 kc27 kc28 kc29 kc30 kc31 kc32 kc33 kc34 kc35 kc36 kc37 kc38 kc39 kz kt kn3 kn4 kn18 kn21 kn23 kn24 kn25 kn26 kn27 kn29 kn30 kr0_0 kr0_1 kr0_2 kr0_3 kr0_4 kr0_5 kr0_7 kr0_8 kr0_9 kr0_10 kr1_0 kr2_0 kr5_0 kr5_1 kr6_0 kr6_1 kr7_0 kr7_1 kr8_0 kr9_0 kr10_0 kr11_0 kr12_0 kr13_0 kr14_0 kr15_0 kr16_0 kr17_0 kr19_0 kr19_1 kr22_0 kr22_1 kr22_2 kr22_3 kr22_4 kr22_5 kr22_7 kr22_8 kr25_0 kr25_1 kr25_2 kr26_0 kr26_1 kr26_2 kr29_0 kr29_1)
  (refine Cn_el vcn0 ?_; intros ki5_2 ki6_2 ki7_2 ki8_1 ki8_2 ki8_3 ki9_1 ki9_2 ki9_3 ki10_1 ki10_2 ki10_3 ki11_1 ki11_2 ki11_3 ki12_1 ki12_2 ki12_3 ki13_1 ki13_2 ki13_3 ki14_1 ki14_2 ki14_3 ki28_0 ki28_1 ki31_0 ki31_1 ki32_0 ki32_1 ki33_0 ki33_1 ki34_0 ki34_1 ki35_0 ki35_1 ki36_0 ki36_1)
  have hAe : ∀ i j, i < 40 → j < 40 → (A i = A j ↔ i = j) := hA
  have hta : ∀ i, i < 40 → (A i = g_t h) = False := fun i hi => eq_false (fun z => by have := kt i hi; omega)
  have hta2 : ∀ i, i < 40 → (g_t h = A i) = False := fun i hi => eq_false (fun z => by have := kt i hi; omega)
  have hzt : g_z h ≤ g_t h := Nat.le_trans (kz 0 (by decide)) (Nat.le_of_lt (kt 0 (by decide)))
  have he2 := v0.1
  simp only [cT, mT, Prod.mk.injEq] at he2
  obtain ⟨g1, g2, g3, g4, g5, g6, g7⟩ := he2
  replace g1 := g1.symm
  replace g2 := g2.symm
  replace g3 := g3.symm
  replace g4 := g4.symm
  replace g5 := g5.symm
  replace g6 := g6.symm
  simp only [o204_0, o204_1, o204_2, o204_5, o204_8, o204_9, o204_12, o204_13, o204_14, o204_17, o204_18, o204_20, o204_23, o204_24, o204_27, o204_28, o204_31, o204_34, o204_35, o204_36, o204_38, o204_40, o204_41, o204_42, o204_43, o204_46, o204_47, o204_48, o204_51, o204_52, o204_53, o204_54, o204_55, o204_58, o204_59, o204_60, o204_63, o204_64, o204_65, o204_66, o204_67, o204_70, o204_71, o204_72, o204_75, o204_76, o204_77, o204_78, o204_79, o204_82, o204_83, o204_84, o204_87, o204_88, o204_89, o204_90, o204_91, o204_94, o204_95, o204_96, o204_99, o204_100, o204_101, o204_102, o204_103, o204_106, o204_107, o204_108, o204_111, o204_112, o204_113, o204_115, o204_116, o204_119, o204_120, o204_121, o204_124, o204_125, o204_126, o204_127, o204_128, o204_129, c_X8_isQueue, c_X8_isThrown_, mc_pi, mc_pN, mn_pi, mn_pN, mi_pi, mi_pN, mr_pi, mr_pN, mt_pi, mz_pi, mz_pN, mcs_0, mcs_r, Kn_v, mrf_some, true_and, and_true, and_false, not_true_eq_false, not_false_eq_true, false_implies, forall_const, if_true, if_false, and_self, Nat.reduceEqDiff, Nat.reduceLeDiff, Nat.reduceSub, Nat.reduceAdd, Nat.zero_le, Nat.le_refl, i10, lt_le, Int32.reduceLT, cl0, cl1, cl2, cl3, cl4, cl5, cl6, cl7, Nat.reduceLT, hAe, kc22, kc25, kc26, kc31, kc34, kn25, kn26, kr22_2, kr22_3, kr25_0, kr26_0, kz, ki34_0, ki34_1, vq3, hta, hta2, hzt, vpk, Int32.reduceLT, g1, g2, g4, g5, g6]
  exact hQ _ (show Fr (p_i h (A 22) 9 0) _ from (Fr_pi (Fr_pi (Fr_pi (Fr_pi (Fr_pi (Fr_pi (Fr_pi (Fr_pN Fr_rfl) (Nat.le_refl _)) (Nat.le_refl _)) (Nat.le_refl _)) (Nat.le_refl _)) (Nat.le_refl _)) (Nat.le_refl _)) (Nat.le_refl _)))

theorem m_plX0_1 {A : Nat → Nat} {h : MH} {Q : MR → MH → Prop} (R : Rl A h) (hQ : ∀ m, Fr (p_i h (A 22) 9 0) m → Q (.inl (some (.int (g_i h (A 8) 5)))) m) : Ok 204 0 [.ref (A 22), .int 0, .int 1, mk0] [] h 1 7 Q := by
  have R0 := R
  obtain ⟨vk, vcn, v0, v1, v2, vp, vl0, vl1, vlr, vsr, vc, tx⟩ := R0
  have vk0 := vk
  have vcn0 := vcn
  (refine K_el vk0 ?_; intros hA kc0 kc1 kc2 kc3 kc4 kc5 kc6 kc7 kc8 kc9 kc10 kc11 kc12 kc13 kc14 kc15 kc16 kc17 kc18 kc19 kc20 kc21 kc22 kc23 kc24 kc25 kc26 kc27 kc28 kc29 kc30 kc31 kc32 kc33 kc34 kc35 kc36 kc37 kc38 kc39 kz kt kn3 kn4 kn18 kn21 kn23 kn24 kn25 kn26 kn27 kn29 kn30 kr0_0 kr0_1 kr0_2 kr0_3 kr0_4 kr0_5 kr0_7 kr0_8 kr0_9 kr0_10 kr1_0 kr2_0 kr5_0 kr5_1 kr6_0 kr6_1 kr7_0 kr7_1 kr8_0 kr9_0 kr10_0 kr11_0 kr12_0 kr13_0 kr14_0 kr15_0 kr16_0 kr17_0 kr19_0 kr19_1 kr22_0 kr22_1 kr22_2 kr22_3 kr22_4 kr22_5 kr22_7 kr22_8 kr25_0 kr25_1 kr25_2 kr26_0 kr26_1 kr26_2 kr29_0 kr29_1)
  (refine Cn_el vcn0 ?_; intros ki5_2 ki6_2 ki7_2 ki8_1 ki8_2 ki8_3 ki9_1 ki9_2 ki9_3 ki10_1 ki10_2 ki10_3 ki11_1 ki11_2 ki11_3 ki12_1 ki12_2 ki12_3 ki13_1 ki13_2 ki13_3 ki14_1 ki14_2 ki14_3 ki28_0 ki28_1 ki31_0 ki31_1 ki32_0 ki32_1 ki33_0 ki33_1 ki34_0 ki34_1 ki35_0 ki35_1 ki36_0 ki36_1)
  have hAe : ∀ i j, i < 40 → j < 40 → (A i = A j ↔ i = j) := hA
  have hta : ∀ i, i < 40 → (A i = g_t h) = False := fun i hi => eq_false (fun z => by have := kt i hi; omega)
  have hta2 : ∀ i, i < 40 → (g_t h = A i) = False := fun i hi => eq_false (fun z => by have := kt i hi; omega)
  have hzt : g_z h ≤ g_t h := Nat.le_trans (kz 0 (by decide)) (Nat.le_of_lt (kt 0 (by decide)))
  have he2 := v0.1
  simp only [cT, mT, Prod.mk.injEq] at he2
  obtain ⟨g1, g2, g3, g4, g5, g6, g7⟩ := he2
  replace g1 := g1.symm
  replace g2 := g2.symm
  replace g3 := g3.symm
  replace g4 := g4.symm
  replace g5 := g5.symm
  replace g6 := g6.symm
  simp only [o204_0, o204_1, o204_2, o204_5, o204_8, o204_9, o204_12, o204_13, o204_14, o204_17, o204_18, o204_20, o204_23, o204_24, o204_27, o204_28, o204_31, o204_34, o204_35, o204_36, o204_38, o204_40, o204_41, o204_42, o204_43, o204_46, o204_47, o204_48, o204_51, o204_52, o204_53, o204_54, o204_55, o204_58, o204_59, o204_60, o204_63, o204_64, o204_65, o204_66, o204_67, o204_70, o204_71, o204_72, o204_75, o204_76, o204_77, o204_78, o204_79, o204_82, o204_83, o204_84, o204_87, o204_88, o204_89, o204_90, o204_91, o204_94, o204_95, o204_96, o204_99, o204_100, o204_101, o204_102, o204_103, o204_106, o204_107, o204_108, o204_111, o204_112, o204_113, o204_115, o204_116, o204_119, o204_120, o204_121, o204_124, o204_125, o204_126, o204_127, o204_128, o204_129, c_X8_isQueue, c_X8_isThrown_, mc_pi, mc_pN, mn_pi, mn_pN, mi_pi, mi_pN, mr_pi, mr_pN, mt_pi, mz_pi, mz_pN, mcs_0, mcs_r, Kn_v, mrf_some, true_and, and_true, and_false, not_true_eq_false, not_false_eq_true, false_implies, forall_const, if_true, if_false, and_self, Nat.reduceEqDiff, Nat.reduceLeDiff, Nat.reduceSub, Nat.reduceAdd, Nat.zero_le, Nat.le_refl, i10, lt_le, Int32.reduceLT, cl0, cl1, cl2, cl3, cl4, cl5, cl6, cl7, Nat.reduceLT, hAe, kc22, kc25, kc26, kc31, kc34, kn25, kn26, kr22_2, kr22_3, kr25_0, kr26_0, kz, ki34_0, ki34_1, vq3, hta, hta2, hzt, vpk, Int32.reduceLT, g1, g2, g4, g5, g6]
  exact hQ _ (show Fr (p_i h (A 22) 9 0) _ from (Fr_pi (Fr_pi (Fr_pi (Fr_pi (Fr_pi (Fr_pi (Fr_pi (Fr_pN Fr_rfl) (Nat.le_refl _)) (Nat.le_refl _)) (Nat.le_refl _)) (Nat.le_refl _)) (Nat.le_refl _)) (Nat.le_refl _)) (Nat.le_refl _)))

theorem m_plX0_2 {A : Nat → Nat} {h : MH} {Q : MR → MH → Prop} (R : Rl A h) (hQ : ∀ m, Fr (p_i h (A 22) 9 0) m → Q (.inl (some (.int (g_i h (A 9) 4)))) m) : Ok 204 0 [.ref (A 22), .int 0, .int 2, mk0] [] h 1 7 Q := by
  have R0 := R
  obtain ⟨vk, vcn, v0, v1, v2, vp, vl0, vl1, vlr, vsr, vc, tx⟩ := R0
  have vk0 := vk
  have vcn0 := vcn
  (refine K_el vk0 ?_; intros hA kc0 kc1 kc2 kc3 kc4 kc5 kc6 kc7 kc8 kc9 kc10 kc11 kc12 kc13 kc14 kc15 kc16 kc17 kc18 kc19 kc20 kc21 kc22 kc23 kc24 kc25 kc26 kc27 kc28 kc29 kc30 kc31 kc32 kc33 kc34 kc35 kc36 kc37 kc38 kc39 kz kt kn3 kn4 kn18 kn21 kn23 kn24 kn25 kn26 kn27 kn29 kn30 kr0_0 kr0_1 kr0_2 kr0_3 kr0_4 kr0_5 kr0_7 kr0_8 kr0_9 kr0_10 kr1_0 kr2_0 kr5_0 kr5_1 kr6_0 kr6_1 kr7_0 kr7_1 kr8_0 kr9_0 kr10_0 kr11_0 kr12_0 kr13_0 kr14_0 kr15_0 kr16_0 kr17_0 kr19_0 kr19_1 kr22_0 kr22_1 kr22_2 kr22_3 kr22_4 kr22_5 kr22_7 kr22_8 kr25_0 kr25_1 kr25_2 kr26_0 kr26_1 kr26_2 kr29_0 kr29_1)
  (refine Cn_el vcn0 ?_; intros ki5_2 ki6_2 ki7_2 ki8_1 ki8_2 ki8_3 ki9_1 ki9_2 ki9_3 ki10_1 ki10_2 ki10_3 ki11_1 ki11_2 ki11_3 ki12_1 ki12_2 ki12_3 ki13_1 ki13_2 ki13_3 ki14_1 ki14_2 ki14_3 ki28_0 ki28_1 ki31_0 ki31_1 ki32_0 ki32_1 ki33_0 ki33_1 ki34_0 ki34_1 ki35_0 ki35_1 ki36_0 ki36_1)
  have hAe : ∀ i j, i < 40 → j < 40 → (A i = A j ↔ i = j) := hA
  have hta : ∀ i, i < 40 → (A i = g_t h) = False := fun i hi => eq_false (fun z => by have := kt i hi; omega)
  have hta2 : ∀ i, i < 40 → (g_t h = A i) = False := fun i hi => eq_false (fun z => by have := kt i hi; omega)
  have hzt : g_z h ≤ g_t h := Nat.le_trans (kz 0 (by decide)) (Nat.le_of_lt (kt 0 (by decide)))
  have he2 := v0.1
  simp only [cT, mT, Prod.mk.injEq] at he2
  obtain ⟨g1, g2, g3, g4, g5, g6, g7⟩ := he2
  replace g1 := g1.symm
  replace g2 := g2.symm
  replace g3 := g3.symm
  replace g4 := g4.symm
  replace g5 := g5.symm
  replace g6 := g6.symm
  simp only [o204_0, o204_1, o204_2, o204_5, o204_8, o204_9, o204_12, o204_13, o204_14, o204_17, o204_18, o204_20, o204_23, o204_24, o204_27, o204_28, o204_31, o204_34, o204_35, o204_36, o204_38, o204_40, o204_41, o204_42, o204_43, o204_46, o204_47, o204_48, o204_51, o204_52, o204_53, o204_54, o204_55, o204_58, o204_59, o204_60, o204_63, o204_64, o204_65, o204_66, o204_67, o204_70, o204_71, o204_72, o204_75, o204_76, o204_77, o204_78, o204_79, o204_82, o204_83, o204_84, o204_87, o204_88, o204_89, o204_90, o204_91, o204_94, o204_95, o204_96, o204_99, o204_100, o204_101, o204_102, o204_103, o204_106, o204_107, o204_108, o204_111, o204_112, o204_113, o204_115, o204_116, o204_119, o204_120, o204_121, o204_124, o204_125, o204_126, o204_127, o204_128, o204_129, c_X8_isQueue, c_X8_isThrown_, mc_pi, mc_pN, mn_pi, mn_pN, mi_pi, mi_pN, mr_pi, mr_pN, mt_pi, mz_pi, mz_pN, mcs_0, mcs_r, Kn_v, mrf_some, true_and, and_true, and_false, not_true_eq_false, not_false_eq_true, false_implies, forall_const, if_true, if_false, and_self, Nat.reduceEqDiff, Nat.reduceLeDiff, Nat.reduceSub, Nat.reduceAdd, Nat.zero_le, Nat.le_refl, i10, lt_le, Int32.reduceLT, cl0, cl1, cl2, cl3, cl4, cl5, cl6, cl7, Nat.reduceLT, hAe, kc22, kc25, kc26, kc31, kc34, kn25, kn26, kr22_2, kr22_3, kr25_0, kr26_0, kz, ki34_0, ki34_1, vq3, hta, hta2, hzt, vpk, Int32.reduceLT, g1, g2, g4, g5, g6]
  exact hQ _ (show Fr (p_i h (A 22) 9 0) _ from (Fr_pi (Fr_pi (Fr_pi (Fr_pi (Fr_pi (Fr_pi (Fr_pi (Fr_pN Fr_rfl) (Nat.le_refl _)) (Nat.le_refl _)) (Nat.le_refl _)) (Nat.le_refl _)) (Nat.le_refl _)) (Nat.le_refl _)) (Nat.le_refl _)))

theorem m_plX0_3 {A : Nat → Nat} {h : MH} {Q : MR → MH → Prop} (R : Rl A h) (hQ : ∀ m, Fr (p_i h (A 22) 9 0) m → Q (.inl (some (.int (g_i h (A 9) 5)))) m) : Ok 204 0 [.ref (A 22), .int 0, .int 3, mk0] [] h 1 7 Q := by
  have R0 := R
  obtain ⟨vk, vcn, v0, v1, v2, vp, vl0, vl1, vlr, vsr, vc, tx⟩ := R0
  have vk0 := vk
  have vcn0 := vcn
  (refine K_el vk0 ?_; intros hA kc0 kc1 kc2 kc3 kc4 kc5 kc6 kc7 kc8 kc9 kc10 kc11 kc12 kc13 kc14 kc15 kc16 kc17 kc18 kc19 kc20 kc21 kc22 kc23 kc24 kc25 kc26 kc27 kc28 kc29 kc30 kc31 kc32 kc33 kc34 kc35 kc36 kc37 kc38 kc39 kz kt kn3 kn4 kn18 kn21 kn23 kn24 kn25 kn26 kn27 kn29 kn30 kr0_0 kr0_1 kr0_2 kr0_3 kr0_4 kr0_5 kr0_7 kr0_8 kr0_9 kr0_10 kr1_0 kr2_0 kr5_0 kr5_1 kr6_0 kr6_1 kr7_0 kr7_1 kr8_0 kr9_0 kr10_0 kr11_0 kr12_0 kr13_0 kr14_0 kr15_0 kr16_0 kr17_0 kr19_0 kr19_1 kr22_0 kr22_1 kr22_2 kr22_3 kr22_4 kr22_5 kr22_7 kr22_8 kr25_0 kr25_1 kr25_2 kr26_0 kr26_1 kr26_2 kr29_0 kr29_1)
  (refine Cn_el vcn0 ?_; intros ki5_2 ki6_2 ki7_2 ki8_1 ki8_2 ki8_3 ki9_1 ki9_2 ki9_3 ki10_1 ki10_2 ki10_3 ki11_1 ki11_2 ki11_3 ki12_1 ki12_2 ki12_3 ki13_1 ki13_2 ki13_3 ki14_1 ki14_2 ki14_3 ki28_0 ki28_1 ki31_0 ki31_1 ki32_0 ki32_1 ki33_0 ki33_1 ki34_0 ki34_1 ki35_0 ki35_1 ki36_0 ki36_1)
  have hAe : ∀ i j, i < 40 → j < 40 → (A i = A j ↔ i = j) := hA
  have hta : ∀ i, i < 40 → (A i = g_t h) = False := fun i hi => eq_false (fun z => by have := kt i hi; omega)
  have hta2 : ∀ i, i < 40 → (g_t h = A i) = False := fun i hi => eq_false (fun z => by have := kt i hi; omega)
  have hzt : g_z h ≤ g_t h := Nat.le_trans (kz 0 (by decide)) (Nat.le_of_lt (kt 0 (by decide)))
  have he2 := v0.1
  simp only [cT, mT, Prod.mk.injEq] at he2
  obtain ⟨g1, g2, g3, g4, g5, g6, g7⟩ := he2
  replace g1 := g1.symm
  replace g2 := g2.symm
  replace g3 := g3.symm
  replace g4 := g4.symm
  replace g5 := g5.symm
  replace g6 := g6.symm
  simp only [o204_0, o204_1, o204_2, o204_5, o204_8, o204_9, o204_12, o204_13, o204_14, o204_17, o204_18, o204_20, o204_23, o204_24, o204_27, o204_28, o204_31, o204_34, o204_35, o204_36, o204_38, o204_40, o204_41, o204_42, o204_43, o204_46, o204_47, o204_48, o204_51, o204_52, o204_53, o204_54, o204_55, o204_58, o204_59, o204_60, o204_63, o204_64, o204_65, o204_66, o204_67, o204_70, o204_71, o204_72, o204_75, o204_76, o204_77, o204_78, o204_79, o204_82, o204_83, o204_84, o204_87, o204_88, o204_89, o204_90, o204_91, o204_94, o204_95, o204_96, o204_99, o204_100, o204_101, o204_102, o204_103, o204_106, o204_107, o204_108, o204_111, o204_112, o204_113, o204_115, o204_116, o204_119, o204_120, o204_121, o204_124, o204_125, o204_126, o204_127, o204_128, o204_129, c_X8_isQueue, c_X8_isThrown_, mc_pi, mc_pN, mn_pi, mn_pN, mi_pi, mi_pN, mr_pi, mr_pN, mt_pi, mz_pi, mz_pN, mcs_0, mcs_r, Kn_v, mrf_some, true_and, and_true, and_false, not_true_eq_false, not_false_eq_true, false_implies, forall_const, if_true, if_false, and_self, Nat.reduceEqDiff, Nat.reduceLeDiff, Nat.reduceSub, Nat.reduceAdd, Nat.zero_le, Nat.le_refl, i10, lt_le, Int32.reduceLT, cl0, cl1, cl2, cl3, cl4, cl5, cl6, cl7, Nat.reduceLT, hAe, kc22, kc25, kc26, kc31, kc34, kn25, kn26, kr22_2, kr22_3, kr25_0, kr26_0, kz, ki34_0, ki34_1, vq3, hta, hta2, hzt, vpk, Int32.reduceLT, g1, g2, g4, g5, g6]
  exact hQ _ (show Fr (p_i h (A 22) 9 0) _ from (Fr_pi (Fr_pi (Fr_pi (Fr_pi (Fr_pi (Fr_pi (Fr_pi (Fr_pN Fr_rfl) (Nat.le_refl _)) (Nat.le_refl _)) (Nat.le_refl _)) (Nat.le_refl _)) (Nat.le_refl _)) (Nat.le_refl _)) (Nat.le_refl _)))

theorem m_plX0_4 {A : Nat → Nat} {h : MH} {Q : MR → MH → Prop} (R : Rl A h) (hQ : ∀ m, Fr (p_i h (A 22) 9 0) m → Q (.inl (some (.int (g_i h (A 9) 6)))) m) : Ok 204 0 [.ref (A 22), .int 0, .int 4, mk0] [] h 1 7 Q := by
  have R0 := R
  obtain ⟨vk, vcn, v0, v1, v2, vp, vl0, vl1, vlr, vsr, vc, tx⟩ := R0
  have vk0 := vk
  have vcn0 := vcn
  (refine K_el vk0 ?_; intros hA kc0 kc1 kc2 kc3 kc4 kc5 kc6 kc7 kc8 kc9 kc10 kc11 kc12 kc13 kc14 kc15 kc16 kc17 kc18 kc19 kc20 kc21 kc22 kc23 kc24 kc25 kc26 kc27 kc28 kc29 kc30 kc31 kc32 kc33 kc34 kc35 kc36 kc37 kc38 kc39 kz kt kn3 kn4 kn18 kn21 kn23 kn24 kn25 kn26 kn27 kn29 kn30 kr0_0 kr0_1 kr0_2 kr0_3 kr0_4 kr0_5 kr0_7 kr0_8 kr0_9 kr0_10 kr1_0 kr2_0 kr5_0 kr5_1 kr6_0 kr6_1 kr7_0 kr7_1 kr8_0 kr9_0 kr10_0 kr11_0 kr12_0 kr13_0 kr14_0 kr15_0 kr16_0 kr17_0 kr19_0 kr19_1 kr22_0 kr22_1 kr22_2 kr22_3 kr22_4 kr22_5 kr22_7 kr22_8 kr25_0 kr25_1 kr25_2 kr26_0 kr26_1 kr26_2 kr29_0 kr29_1)
  (refine Cn_el vcn0 ?_; intros ki5_2 ki6_2 ki7_2 ki8_1 ki8_2 ki8_3 ki9_1 ki9_2 ki9_3 ki10_1 ki10_2 ki10_3 ki11_1 ki11_2 ki11_3 ki12_1 ki12_2 ki12_3 ki13_1 ki13_2 ki13_3 ki14_1 ki14_2 ki14_3 ki28_0 ki28_1 ki31_0 ki31_1 ki32_0 ki32_1 ki33_0 ki33_1 ki34_0 ki34_1 ki35_0 ki35_1 ki36_0 ki36_1)
  have hAe : ∀ i j, i < 40 → j < 40 → (A i = A j ↔ i = j) := hA
  have hta : ∀ i, i < 40 → (A i = g_t h) = False := fun i hi => eq_false (fun z => by have := kt i hi; omega)
  have hta2 : ∀ i, i < 40 → (g_t h = A i) = False := fun i hi => eq_false (fun z => by have := kt i hi; omega)
  have hzt : g_z h ≤ g_t h := Nat.le_trans (kz 0 (by decide)) (Nat.le_of_lt (kt 0 (by decide)))
  have he2 := v0.1
  simp only [cT, mT, Prod.mk.injEq] at he2
  obtain ⟨g1, g2, g3, g4, g5, g6, g7⟩ := he2
  replace g1 := g1.symm
  replace g2 := g2.symm
  replace g3 := g3.symm
  replace g4 := g4.symm
  replace g5 := g5.symm
  replace g6 := g6.symm
  simp only [o204_0, o204_1, o204_2, o204_5, o204_8, o204_9, o204_12, o204_13, o204_14, o204_17, o204_18, o204_20, o204_23, o204_24, o204_27, o204_28, o204_31, o204_34, o204_35, o204_36, o204_38, o204_40, o204_41, o204_42, o204_43, o204_46, o204_47, o204_48, o204_51, o204_52, o204_53, o204_54, o204_55, o204_58, o204_59, o204_60, o204_63, o204_64, o204_65, o204_66, o204_67, o204_70, o204_71, o204_72, o204_75, o204_76, o204_77, o204_78, o204_79, o204_82, o204_83, o204_84, o204_87, o204_88, o204_89, o204_90, o204_91, o204_94, o204_95, o204_96, o204_99, o204_100, o204_101, o204_102, o204_103, o204_106, o204_107, o204_108, o204_111, o204_112, o204_113, o204_115, o204_116, o204_119, o204_120, o204_121, o204_124, o204_125, o204_126, o204_127, o204_128, o204_129, c_X8_isQueue, c_X8_isThrown_, mc_pi, mc_pN, mn_pi, mn_pN, mi_pi, mi_pN, mr_pi, mr_pN, mt_pi, mz_pi, mz_pN, mcs_0, mcs_r, Kn_v, mrf_some, true_and, and_true, and_false, not_true_eq_false, not_false_eq_true, false_implies, forall_const, if_true, if_false, and_self, Nat.reduceEqDiff, Nat.reduceLeDiff, Nat.reduceSub, Nat.reduceAdd, Nat.zero_le, Nat.le_refl, i10, lt_le, Int32.reduceLT, cl0, cl1, cl2, cl3, cl4, cl5, cl6, cl7, Nat.reduceLT, hAe, kc22, kc25, kc26, kc31, kc34, kn25, kn26, kr22_2, kr22_3, kr25_0, kr26_0, kz, ki34_0, ki34_1, vq3, hta, hta2, hzt, vpk, Int32.reduceLT, g1, g2, g4, g5, g6]
  exact hQ _ (show Fr (p_i h (A 22) 9 0) _ from (Fr_pi (Fr_pi (Fr_pi (Fr_pi (Fr_pi (Fr_pi (Fr_pi (Fr_pN Fr_rfl) (Nat.le_refl _)) (Nat.le_refl _)) (Nat.le_refl _)) (Nat.le_refl _)) (Nat.le_refl _)) (Nat.le_refl _)) (Nat.le_refl _)))

theorem m_plX0_5 {A : Nat → Nat} {h : MH} {Q : MR → MH → Prop} (R : Rl A h) (hQ : ∀ m, Fr (p_i h (A 22) 9 0) m → Q (.inl (some (.int (5)))) m) : Ok 204 0 [.ref (A 22), .int 0, .int 5, mk0] [] h 1 7 Q := by
  have R0 := R
  obtain ⟨vk, vcn, v0, v1, v2, vp, vl0, vl1, vlr, vsr, vc, tx⟩ := R0
  have vk0 := vk
  have vcn0 := vcn
  (refine K_el vk0 ?_; intros hA kc0 kc1 kc2 kc3 kc4 kc5 kc6 kc7 kc8 kc9 kc10 kc11 kc12 kc13 kc14 kc15 kc16 kc17 kc18 kc19 kc20 kc21 kc22 kc23 kc24 kc25 kc26 kc27 kc28 kc29 kc30 kc31 kc32 kc33 kc34 kc35 kc36 kc37 kc38 kc39 kz kt kn3 kn4 kn18 kn21 kn23 kn24 kn25 kn26 kn27 kn29 kn30 kr0_0 kr0_1 kr0_2 kr0_3 kr0_4 kr0_5 kr0_7 kr0_8 kr0_9 kr0_10 kr1_0 kr2_0 kr5_0 kr5_1 kr6_0 kr6_1 kr7_0 kr7_1 kr8_0 kr9_0 kr10_0 kr11_0 kr12_0 kr13_0 kr14_0 kr15_0 kr16_0 kr17_0 kr19_0 kr19_1 kr22_0 kr22_1 kr22_2 kr22_3 kr22_4 kr22_5 kr22_7 kr22_8 kr25_0 kr25_1 kr25_2 kr26_0 kr26_1 kr26_2 kr29_0 kr29_1)
  (refine Cn_el vcn0 ?_; intros ki5_2 ki6_2 ki7_2 ki8_1 ki8_2 ki8_3 ki9_1 ki9_2 ki9_3 ki10_1 ki10_2 ki10_3 ki11_1 ki11_2 ki11_3 ki12_1 ki12_2 ki12_3 ki13_1 ki13_2 ki13_3 ki14_1 ki14_2 ki14_3 ki28_0 ki28_1 ki31_0 ki31_1 ki32_0 ki32_1 ki33_0 ki33_1 ki34_0 ki34_1 ki35_0 ki35_1 ki36_0 ki36_1)
  have hAe : ∀ i j, i < 40 → j < 40 → (A i = A j ↔ i = j) := hA
  have hta : ∀ i, i < 40 → (A i = g_t h) = False := fun i hi => eq_false (fun z => by have := kt i hi; omega)
  have hta2 : ∀ i, i < 40 → (g_t h = A i) = False := fun i hi => eq_false (fun z => by have := kt i hi; omega)
  have hzt : g_z h ≤ g_t h := Nat.le_trans (kz 0 (by decide)) (Nat.le_of_lt (kt 0 (by decide)))
  have he2 := v0.1
  simp only [cT, mT, Prod.mk.injEq] at he2
  obtain ⟨g1, g2, g3, g4, g5, g6, g7⟩ := he2
  replace g1 := g1.symm
  replace g2 := g2.symm
  replace g3 := g3.symm
  replace g4 := g4.symm
  replace g5 := g5.symm
  replace g6 := g6.symm
  simp only [o204_0, o204_1, o204_2, o204_5, o204_8, o204_9, o204_12, o204_13, o204_14, o204_17, o204_18, o204_20, o204_23, o204_24, o204_27, o204_28, o204_31, o204_34, o204_35, o204_36, o204_38, o204_40, o204_41, o204_42, o204_43, o204_46, o204_47, o204_48, o204_51, o204_52, o204_53, o204_54, o204_55, o204_58, o204_59, o204_60, o204_63, o204_64, o204_65, o204_66, o204_67, o204_70, o204_71, o204_72, o204_75, o204_76, o204_77, o204_78, o204_79, o204_82, o204_83, o204_84, o204_87, o204_88, o204_89, o204_90, o204_91, o204_94, o204_95, o204_96, o204_99, o204_100, o204_101, o204_102, o204_103, o204_106, o204_107, o204_108, o204_111, o204_112, o204_113, o204_115, o204_116, o204_119, o204_120, o204_121, o204_124, o204_125, o204_126, o204_127, o204_128, o204_129, c_X8_isQueue, c_X8_isThrown_, mc_pi, mc_pN, mn_pi, mn_pN, mi_pi, mi_pN, mr_pi, mr_pN, mt_pi, mz_pi, mz_pN, mcs_0, mcs_r, Kn_v, mrf_some, true_and, and_true, and_false, not_true_eq_false, not_false_eq_true, false_implies, forall_const, if_true, if_false, and_self, Nat.reduceEqDiff, Nat.reduceLeDiff, Nat.reduceSub, Nat.reduceAdd, Nat.zero_le, Nat.le_refl, i10, lt_le, Int32.reduceLT, cl0, cl1, cl2, cl3, cl4, cl5, cl6, cl7, Nat.reduceLT, hAe, kc22, kc25, kc26, kc31, kc34, kn25, kn26, kr22_2, kr22_3, kr25_0, kr26_0, kz, ki34_0, ki34_1, vq3, hta, hta2, hzt, vpk, Int32.reduceLT, g1, g2, g4, g5, g6]
  exact hQ _ (show Fr (p_i h (A 22) 9 0) _ from (Fr_pi (Fr_pi (Fr_pi (Fr_pi (Fr_pi (Fr_pi (Fr_pi (Fr_pN Fr_rfl) (Nat.le_refl _)) (Nat.le_refl _)) (Nat.le_refl _)) (Nat.le_refl _)) (Nat.le_refl _)) (Nat.le_refl _)) (Nat.le_refl _)))

theorem m_plX0_6 {A : Nat → Nat} {h : MH} {Q : MR → MH → Prop} (R : Rl A h) (hQ : ∀ m, Fr (p_i h (A 22) 9 0) m → Q (.inl (some (.int (1)))) m) : Ok 204 0 [.ref (A 22), .int 0, .int 6, mk0] [] h 1 7 Q := by
  have R0 := R
  obtain ⟨vk, vcn, v0, v1, v2, vp, vl0, vl1, vlr, vsr, vc, tx⟩ := R0
  have vk0 := vk
  have vcn0 := vcn
  (refine K_el vk0 ?_; intros hA kc0 kc1 kc2 kc3 kc4 kc5 kc6 kc7 kc8 kc9 kc10 kc11 kc12 kc13 kc14 kc15 kc16 kc17 kc18 kc19 kc20 kc21 kc22 kc23 kc24 kc25 kc26 kc27 kc28 kc29 kc30 kc31 kc32 kc33 kc34 kc35 kc36 kc37 kc38 kc39 kz kt kn3 kn4 kn18 kn21 kn23 kn24 kn25 kn26 kn27 kn29 kn30 kr0_0 kr0_1 kr0_2 kr0_3 kr0_4 kr0_5 kr0_7 kr0_8 kr0_9 kr0_10 kr1_0 kr2_0 kr5_0 kr5_1 kr6_0 kr6_1 kr7_0 kr7_1 kr8_0 kr9_0 kr10_0 kr11_0 kr12_0 kr13_0 kr14_0 kr15_0 kr16_0 kr17_0 kr19_0 kr19_1 kr22_0 kr22_1 kr22_2 kr22_3 kr22_4 kr22_5 kr22_7 kr22_8 kr25_0 kr25_1 kr25_2 kr26_0 kr26_1 kr26_2 kr29_0 kr29_1)
  (refine Cn_el vcn0 ?_; intros ki5_2 ki6_2 ki7_2 ki8_1 ki8_2 ki8_3 ki9_1 ki9_2 ki9_3 ki10_1 ki10_2 ki10_3 ki11_1 ki11_2 ki11_3 ki12_1 ki12_2 ki12_3 ki13_1 ki13_2 ki13_3 ki14_1 ki14_2 ki14_3 ki28_0 ki28_1 ki31_0 ki31_1 ki32_0 ki32_1 ki33_0 ki33_1 ki34_0 ki34_1 ki35_0 ki35_1 ki36_0 ki36_1)
  have hAe : ∀ i j, i < 40 → j < 40 → (A i = A j ↔ i = j) := hA
  have hta : ∀ i, i < 40 → (A i = g_t h) = False := fun i hi => eq_false (fun z => by have := kt i hi; omega)
  have hta2 : ∀ i, i < 40 → (g_t h = A i) = False := fun i hi => eq_false (fun z => by have := kt i hi; omega)
  have hzt : g_z h ≤ g_t h := Nat.le_trans (kz 0 (by decide)) (Nat.le_of_lt (kt 0 (by decide)))
  have he2 := v0.1
  simp only [cT, mT, Prod.mk.injEq] at he2
  obtain ⟨g1, g2, g3, g4, g5, g6, g7⟩ := he2
  replace g1 := g1.symm
  replace g2 := g2.symm
  replace g3 := g3.symm
  replace g4 := g4.symm
  replace g5 := g5.symm
  replace g6 := g6.symm
  simp only [o204_0, o204_1, o204_2, o204_5, o204_8, o204_9, o204_12, o204_13, o204_14, o204_17, o204_18, o204_20, o204_23, o204_24, o204_27, o204_28, o204_31, o204_34, o204_35, o204_36, o204_38, o204_40, o204_41, o204_42, o204_43, o204_46, o204_47, o204_48, o204_51, o204_52, o204_53, o204_54, o204_55, o204_58, o204_59, o204_60, o204_63, o204_64, o204_65, o204_66, o204_67, o204_70, o204_71, o204_72, o204_75, o204_76, o204_77, o204_78, o204_79, o204_82, o204_83, o204_84, o204_87, o204_88, o204_89, o204_90, o204_91, o204_94, o204_95, o204_96, o204_99, o204_100, o204_101, o204_102, o204_103, o204_106, o204_107, o204_108, o204_111, o204_112, o204_113, o204_115, o204_116, o204_119, o204_120, o204_121, o204_124, o204_125, o204_126, o204_127, o204_128, o204_129, c_X8_isQueue, c_X8_isThrown_, mc_pi, mc_pN, mn_pi, mn_pN, mi_pi, mi_pN, mr_pi, mr_pN, mt_pi, mz_pi, mz_pN, mcs_0, mcs_r, Kn_v, mrf_some, true_and, and_true, and_false, not_true_eq_false, not_false_eq_true, false_implies, forall_const, if_true, if_false, and_self, Nat.reduceEqDiff, Nat.reduceLeDiff, Nat.reduceSub, Nat.reduceAdd, Nat.zero_le, Nat.le_refl, i10, lt_le, Int32.reduceLT, cl0, cl1, cl2, cl3, cl4, cl5, cl6, cl7, Nat.reduceLT, hAe, kc22, kc25, kc26, kc31, kc34, kn25, kn26, kr22_2, kr22_3, kr25_0, kr26_0, kz, ki34_0, ki34_1, vq3, hta, hta2, hzt, vpk, Int32.reduceLT, g1, g2, g4, g5, g6]
  exact hQ _ (show Fr (p_i h (A 22) 9 0) _ from (Fr_pi (Fr_pi (Fr_pi (Fr_pi (Fr_pi (Fr_pi (Fr_pi (Fr_pN Fr_rfl) (Nat.le_refl _)) (Nat.le_refl _)) (Nat.le_refl _)) (Nat.le_refl _)) (Nat.le_refl _)) (Nat.le_refl _)) (Nat.le_refl _)))

theorem m_plX1_0 {A : Nat → Nat} {h : MH} {Q : MR → MH → Prop} (R : Rl A h) (hQ : ∀ m, Fr (p_i h (A 22) 9 0) m → Q (.inl (some (.int (g_i h (A 10) 4)))) m) : Ok 204 0 [.ref (A 22), .int 1, .int 0, mk0] [] h 1 7 Q := by
  have R0 := R
  obtain ⟨vk, vcn, v0, v1, v2, vp, vl0, vl1, vlr, vsr, vc, tx⟩ := R0
  have vk0 := vk
  have vcn0 := vcn
  (refine K_el vk0 ?_; intros hA kc0 kc1 kc2 kc3 kc4 kc5 kc6 kc7 kc8 kc9 kc10 kc11 kc12 kc13 kc14 kc15 kc16 kc17 kc18 kc19 kc20 kc21 kc22 kc23 kc24 kc25 kc26 kc27 kc28 kc29 kc30 kc31 kc32 kc33 kc34 kc35 kc36 kc37 kc38 kc39 kz kt kn3 kn4 kn18 kn21 kn23 kn24 kn25 kn26 kn27 kn29 kn30 kr0_0 kr0_1 kr0_2 kr0_3 kr0_4 kr0_5 kr0_7 kr0_8 kr0_9 kr0_10 kr1_0 kr2_0 kr5_0 kr5_1 kr6_0 kr6_1 kr7_0 kr7_1 kr8_0 kr9_0 kr10_0 kr11_0 kr12_0 kr13_0 kr14_0 kr15_0 kr16_0 kr17_0 kr19_0 kr19_1 kr22_0 kr22_1 kr22_2 kr22_3 kr22_4 kr22_5 kr22_7 kr22_8 kr25_0 kr25_1 kr25_2 kr26_0 kr26_1 kr26_2 kr29_0 kr29_1)
  (refine Cn_el vcn0 ?_; intros ki5_2 ki6_2 ki7_2 ki8_1 ki8_2 ki8_3 ki9_1 ki9_2 ki9_3 ki10_1 ki10_2 ki10_3 ki11_1 ki11_2 ki11_3 ki12_1 ki12_2 ki12_3 ki13_1 ki13_2 ki13_3 ki14_1 ki14_2 ki14_3 ki28_0 ki28_1 ki31_0 ki31_1 ki32_0 ki32_1 ki33_0 ki33_1 ki34_0 ki34_1 ki35_0 ki35_1 ki36_0 ki36_1)
  have hAe : ∀ i j, i < 40 → j < 40 → (A i = A j ↔ i = j) := hA
  have hta : ∀ i, i < 40 → (A i = g_t h) = False := fun i hi => eq_false (fun z => by have := kt i hi; omega)
  have hta2 : ∀ i, i < 40 → (g_t h = A i) = False := fun i hi => eq_false (fun z => by have := kt i hi; omega)
  have hzt : g_z h ≤ g_t h := Nat.le_trans (kz 0 (by decide)) (Nat.le_of_lt (kt 0 (by decide)))
  have he2 := v1.1
  simp only [cT, mT, Prod.mk.injEq] at he2
  obtain ⟨g1, g2, g3, g4, g5, g6, g7⟩ := he2
  replace g1 := g1.symm
  replace g2 := g2.symm
  replace g3 := g3.symm
  replace g4 := g4.symm
  replace g5 := g5.symm
  replace g6 := g6.symm
  simp only [o204_0, o204_1, o204_2, o204_5, o204_8, o204_9, o204_12, o204_13, o204_14, o204_17, o204_18, o204_20, o204_23, o204_24, o204_27, o204_28, o204_31, o204_34, o204_35, o204_36, o204_38, o204_40, o204_41, o204_42, o204_43, o204_46, o204_47, o204_48, o204_51, o204_52, o204_53, o204_54, o204_55, o204_58, o204_59, o204_60, o204_63, o204_64, o204_65, o204_66, o204_67, o204_70, o204_71, o204_72, o204_75, o204_76, o204_77, o204_78, o204_79, o204_82, o204_83, o204_84, o204_87, o204_88, o204_89, o204_90, o204_91, o204_94, o204_95, o204_96, o204_99, o204_100, o204_101, o204_102, o204_103, o204_106, o204_107, o204_108, o204_111, o204_112, o204_113, o204_115, o204_116, o204_119, o204_120, o204_121, o204_124, o204_125, o204_126, o204_127, o204_128, o204_129, c_X8_isQueue, c_X8_isThrown_, mc_pi, mc_pN, mn_pi, mn_pN, mi_pi, mi_pN, mr_pi, mr_pN, mt_pi, mz_pi, mz_pN, mcs_0, mcs_r, Kn_v, mrf_some, true_and, and_true, and_false, not_true_eq_false, not_false_eq_true, false_implies, forall_const, if_true, if_false, and_self, Nat.reduceEqDiff, Nat.reduceLeDiff, Nat.reduceSub, Nat.reduceAdd, Nat.zero_le, Nat.le_refl, i10, lt_le, Int32.reduceLT, cl0, cl1, cl2, cl3, cl4, cl5, cl6, cl7, Nat.reduceLT, hAe, kc22, kc25, kc26, kc32, kc35, kn25, kn26, kr22_2, kr22_3, kr25_1, kr26_1, kz, ki35_0, ki35_1, vq3, hta, hta2, hzt, vpk, Int32.reduceLT, g1, g2, g4, g5, g6]
  exact hQ _ (show Fr (p_i h (A 22) 9 0) _ from (Fr_pi (Fr_pi (Fr_pi (Fr_pi (Fr_pi (Fr_pi (Fr_pi (Fr_pN Fr_rfl) (Nat.le_refl _)) (Nat.le_refl _)) (Nat.le_refl _)) (Nat.le_refl _)) (Nat.le_refl _)) (Nat.le_refl _)) (Nat.le_refl _)))

theorem m_plX1_1 {A : Nat → Nat} {h : MH} {Q : MR → MH → Prop} (R : Rl A h) (hQ : ∀ m, Fr (p_i h (A 22) 9 0) m → Q (.inl (some (.int (g_i h (A 10) 5)))) m) : Ok 204 0 [.ref (A 22), .int 1, .int 1, mk0] [] h 1 7 Q := by
  have R0 := R
  obtain ⟨vk, vcn, v0, v1, v2, vp, vl0, vl1, vlr, vsr, vc, tx⟩ := R0
  have vk0 := vk
  have vcn0 := vcn
  (refine K_el vk0 ?_; intros hA kc0 kc1 kc2 kc3 kc4 kc5 kc6 kc7 kc8 kc9 kc10 kc11 kc12 kc13 kc14 kc15 kc16 kc17 kc18 kc19 kc20 kc21 kc22 kc23 kc24 kc25 kc26 kc27 kc28 kc29 kc30 kc31 kc32 kc33 kc34 kc35 kc36 kc37 kc38 kc39 kz kt kn3 kn4 kn18 kn21 kn23 kn24 kn25 kn26 kn27 kn29 kn30 kr0_0 kr0_1 kr0_2 kr0_3 kr0_4 kr0_5 kr0_7 kr0_8 kr0_9 kr0_10 kr1_0 kr2_0 kr5_0 kr5_1 kr6_0 kr6_1 kr7_0 kr7_1 kr8_0 kr9_0 kr10_0 kr11_0 kr12_0 kr13_0 kr14_0 kr15_0 kr16_0 kr17_0 kr19_0 kr19_1 kr22_0 kr22_1 kr22_2 kr22_3 kr22_4 kr22_5 kr22_7 kr22_8 kr25_0 kr25_1 kr25_2 kr26_0 kr26_1 kr26_2 kr29_0 kr29_1)
  (refine Cn_el vcn0 ?_; intros ki5_2 ki6_2 ki7_2 ki8_1 ki8_2 ki8_3 ki9_1 ki9_2 ki9_3 ki10_1 ki10_2 ki10_3 ki11_1 ki11_2 ki11_3 ki12_1 ki12_2 ki12_3 ki13_1 ki13_2 ki13_3 ki14_1 ki14_2 ki14_3 ki28_0 ki28_1 ki31_0 ki31_1 ki32_0 ki32_1 ki33_0 ki33_1 ki34_0 ki34_1 ki35_0 ki35_1 ki36_0 ki36_1)
  have hAe : ∀ i j, i < 40 → j < 40 → (A i = A j ↔ i = j) := hA
  have hta : ∀ i, i < 40 → (A i = g_t h) = False := fun i hi => eq_false (fun z => by have := kt i hi; omega)
  have hta2 : ∀ i, i < 40 → (g_t h = A i) = False := fun i hi => eq_false (fun z => by have := kt i hi; omega)
  have hzt : g_z h ≤ g_t h := Nat.le_trans (kz 0 (by decide)) (Nat.le_of_lt (kt 0 (by decide)))
  have he2 := v1.1
  simp only [cT, mT, Prod.mk.injEq] at he2
  obtain ⟨g1, g2, g3, g4, g5, g6, g7⟩ := he2
  replace g1 := g1.symm
  replace g2 := g2.symm
  replace g3 := g3.symm
  replace g4 := g4.symm
  replace g5 := g5.symm
  replace g6 := g6.symm
  simp only [o204_0, o204_1, o204_2, o204_5, o204_8, o204_9, o204_12, o204_13, o204_14, o204_17, o204_18, o204_20, o204_23, o204_24, o204_27, o204_28, o204_31, o204_34, o204_35, o204_36, o204_38, o204_40, o204_41, o204_42, o204_43, o204_46, o204_47, o204_48, o204_51, o204_52, o204_53, o204_54, o204_55, o204_58, o204_59, o204_60, o204_63, o204_64, o204_65, o204_66, o204_67, o204_70, o204_71, o204_72, o204_75, o204_76, o204_77, o204_78, o204_79, o204_82, o204_83, o204_84, o204_87, o204_88, o204_89, o204_90, o204_91, o204_94, o204_95, o204_96, o204_99, o204_100, o204_101, o204_102, o204_103, o204_106, o204_107, o204_108, o204_111, o204_112, o204_113, o204_115, o204_116, o204_119, o204_120, o204_121, o204_124, o204_125, o204_126, o204_127, o204_128, o204_129, c_X8_isQueue, c_X8_isThrown_, mc_pi, mc_pN, mn_pi, mn_pN, mi_pi, mi_pN, mr_pi, mr_pN, mt_pi, mz_pi, mz_pN, mcs_0, mcs_r, Kn_v, mrf_some, true_and, and_true, and_false, not_true_eq_false, not_false_eq_true, false_implies, forall_const, if_true, if_false, and_self, Nat.reduceEqDiff, Nat.reduceLeDiff, Nat.reduceSub, Nat.reduceAdd, Nat.zero_le, Nat.le_refl, i10, lt_le, Int32.reduceLT, cl0, cl1, cl2, cl3, cl4, cl5, cl6, cl7, Nat.reduceLT, hAe, kc22, kc25, kc26, kc32, kc35, kn25, kn26, kr22_2, kr22_3, kr25_1, kr26_1, kz, ki35_0, ki35_1, vq3, hta, hta2, hzt, vpk, Int32.reduceLT, g1, g2, g4, g5, g6]
  exact hQ _ (show Fr (p_i h (A 22) 9 0) _ from (Fr_pi (Fr_pi (Fr_pi (Fr_pi (Fr_pi (Fr_pi (Fr_pi (Fr_pN Fr_rfl) (Nat.le_refl _)) (Nat.le_refl _)) (Nat.le_refl _)) (Nat.le_refl _)) (Nat.le_refl _)) (Nat.le_refl _)) (Nat.le_refl _)))

theorem m_plX1_2 {A : Nat → Nat} {h : MH} {Q : MR → MH → Prop} (R : Rl A h) (hQ : ∀ m, Fr (p_i h (A 22) 9 0) m → Q (.inl (some (.int (g_i h (A 11) 4)))) m) : Ok 204 0 [.ref (A 22), .int 1, .int 2, mk0] [] h 1 7 Q := by
  have R0 := R
  obtain ⟨vk, vcn, v0, v1, v2, vp, vl0, vl1, vlr, vsr, vc, tx⟩ := R0
  have vk0 := vk
  have vcn0 := vcn
  (refine K_el vk0 ?_; intros hA kc0 kc1 kc2 kc3 kc4 kc5 kc6 kc7 kc8 kc9 kc10 kc11 kc12 kc13 kc14 kc15 kc16 kc17 kc18 kc19 kc20 kc21 kc22 kc23 kc24 kc25 kc26 kc27 kc28 kc29 kc30 kc31 kc32 kc33 kc34 kc35 kc36 kc37 kc38 kc39 kz kt kn3 kn4 kn18 kn21 kn23 kn24 kn25 kn26 kn27 kn29 kn30 kr0_0 kr0_1 kr0_2 kr0_3 kr0_4 kr0_5 kr0_7 kr0_8 kr0_9 kr0_10 kr1_0 kr2_0 kr5_0 kr5_1 kr6_0 kr6_1 kr7_0 kr7_1 kr8_0 kr9_0 kr10_0 kr11_0 kr12_0 kr13_0 kr14_0 kr15_0 kr16_0 kr17_0 kr19_0 kr19_1 kr22_0 kr22_1 kr22_2 kr22_3 kr22_4 kr22_5 kr22_7 kr22_8 kr25_0 kr25_1 kr25_2 kr26_0 kr26_1 kr26_2 kr29_0 kr29_1)
  (refine Cn_el vcn0 ?_; intros ki5_2 ki6_2 ki7_2 ki8_1 ki8_2 ki8_3 ki9_1 ki9_2 ki9_3 ki10_1 ki10_2 ki10_3 ki11_1 ki11_2 ki11_3 ki12_1 ki12_2 ki12_3 ki13_1 ki13_2 ki13_3 ki14_1 ki14_2 ki14_3 ki28_0 ki28_1 ki31_0 ki31_1 ki32_0 ki32_1 ki33_0 ki33_1 ki34_0 ki34_1 ki35_0 ki35_1 ki36_0 ki36_1)
  have hAe : ∀ i j, i < 40 → j < 40 → (A i = A j ↔ i = j) := hA
  have hta : ∀ i, i < 40 → (A i = g_t h) = False := fun i hi => eq_false (fun z => by have := kt i hi; omega)
  have hta2 : ∀ i, i < 40 → (g_t h = A i) = False := fun i hi => eq_false (fun z => by have := kt i hi; omega)
  have hzt : g_z h ≤ g_t h := Nat.le_trans (kz 0 (by decide)) (Nat.le_of_lt (kt 0 (by decide)))
  have he2 := v1.1
  simp only [cT, mT, Prod.mk.injEq] at he2
  obtain ⟨g1, g2, g3, g4, g5, g6, g7⟩ := he2
  replace g1 := g1.symm
  replace g2 := g2.symm
  replace g3 := g3.symm
  replace g4 := g4.symm
  replace g5 := g5.symm
  replace g6 := g6.symm
  simp only [o204_0, o204_1, o204_2, o204_5, o204_8, o204_9, o204_12, o204_13, o204_14, o204_17, o204_18, o204_20, o204_23, o204_24, o204_27, o204_28, o204_31, o204_34, o204_35, o204_36, o204_38, o204_40, o204_41, o204_42, o204_43, o204_46, o204_47, o204_48, o204_51, o204_52, o204_53, o204_54, o204_55, o204_58, o204_59, o204_60, o204_63, o204_64, o204_65, o204_66, o204_67, o204_70, o204_71, o204_72, o204_75, o204_76, o204_77, o204_78, o204_79, o204_82, o204_83, o204_84, o204_87, o204_88, o204_89, o204_90, o204_91, o204_94, o204_95, o204_96, o204_99, o204_100, o204_101, o204_102, o204_103, o204_106, o204_107, o204_108, o204_111, o204_112, o204_113, o204_115, o204_116, o204_119, o204_120, o204_121, o204_124, o204_125, o204_126, o204_127, o204_128, o204_129, c_X8_isQueue, c_X8_isThrown_, mc_pi, mc_pN, mn_pi, mn_pN, mi_pi, mi_pN, mr_pi, mr_pN, mt_pi, mz_pi, mz_pN, mcs_0, mcs_r, Kn_v, mrf_some, true_and, and_true, and_false, not_true_eq_false, not_false_eq_true, false_implies, forall_const, if_true, if_false, and_self, Nat.reduceEqDiff, Nat.reduceLeDiff, Nat.reduceSub, Nat.reduceAdd, Nat.zero_le, Nat.le_refl, i10, lt_le, Int32.reduceLT, cl0, cl1, cl2, cl3, cl4, cl5, cl6, cl7, Nat.reduceLT, hAe, kc22, kc25, kc26, kc32, kc35, kn25, kn26, kr22_2, kr22_3, kr25_1, kr26_1, kz, ki35_0, ki35_1, vq3, hta, hta2, hzt, vpk, Int32.reduceLT, g1, g2, g4, g5, g6]
  exact hQ _ (show Fr (p_i h (A 22) 9 0) _ from (Fr_pi (Fr_pi (Fr_pi (Fr_pi (Fr_pi (Fr_pi (Fr_pi (Fr_pN Fr_rfl) (Nat.le_refl _)) (Nat.le_refl _)) (Nat.le_refl _)) (Nat.le_refl _)) (Nat.le_refl _)) (Nat.le_refl _)) (Nat.le_refl _)))

theorem m_plX1_3 {A : Nat → Nat} {h : MH} {Q : MR → MH → Prop} (R : Rl A h) (hQ : ∀ m, Fr (p_i h (A 22) 9 0) m → Q (.inl (some (.int (g_i h (A 11) 5)))) m) : Ok 204 0 [.ref (A 22), .int 1, .int 3, mk0] [] h 1 7 Q := by
  have R0 := R
  obtain ⟨vk, vcn, v0, v1, v2, vp, vl0, vl1, vlr, vsr, vc, tx⟩ := R0
  have vk0 := vk
  have vcn0 := vcn
  (refine K_el vk0 ?_; intros hA kc0 kc1 kc2 kc3 kc4 kc5 kc6 kc7 kc8 kc9 kc10 kc11 kc12 kc13 kc14 kc15 kc16 kc17 kc18 kc19 kc20 kc21 kc22 kc23 kc24 kc25 kc26 kc27 kc28 kc29 kc30 kc31 kc32 kc33 kc34 kc35 kc36 kc37 kc38 kc39 kz kt kn3 kn4 kn18 kn21 kn23 kn24 kn25 kn26 kn27 kn29 kn30 kr0_0 kr0_1 kr0_2 kr0_3 kr0_4 kr0_5 kr0_7 kr0_8 kr0_9 kr0_10 kr1_0 kr2_0 kr5_0 kr5_1 kr6_0 kr6_1 kr7_0 kr7_1 kr8_0 kr9_0 kr10_0 kr11_0 kr12_0 kr13_0 kr14_0 kr15_0 kr16_0 kr17_0 kr19_0 kr19_1 kr22_0 kr22_1 kr22_2 kr22_3 kr22_4 kr22_5 kr22_7 kr22_8 kr25_0 kr25_1 kr25_2 kr26_0 kr26_1 kr26_2 kr29_0 kr29_1)
  (refine Cn_el vcn0 ?_; intros ki5_2 ki6_2 ki7_2 ki8_1 ki8_2 ki8_3 ki9_1 ki9_2 ki9_3 ki10_1 ki10_2 ki10_3 ki11_1 ki11_2 ki11_3 ki12_1 ki12_2 ki12_3 ki13_1 ki13_2 ki13_3 ki14_1 ki14_2 ki14_3 ki28_0 ki28_1 ki31_0 ki31_1 ki32_0 ki32_1 ki33_0 ki33_1 ki34_0 ki34_1 ki35_0 ki35_1 ki36_0 ki36_1)
  have hAe : ∀ i j, i < 40 → j < 40 → (A i = A j ↔ i = j) := hA
  have hta : ∀ i, i < 40 → (A i = g_t h) = False := fun i hi => eq_false (fun z => by have := kt i hi; omega)
  have hta2 : ∀ i, i < 40 → (g_t h = A i) = False := fun i hi => eq_false (fun z => by have := kt i hi; omega)
  have hzt : g_z h ≤ g_t h := Nat.le_trans (kz 0 (by decide)) (Nat.le_of_lt (kt 0 (by decide)))
  have he2 := v1.1
  simp only [cT, mT, Prod.mk.injEq] at he2
  obtain ⟨g1, g2, g3, g4, g5, g6, g7⟩ := he2
  replace g1 := g1.symm
  replace g2 := g2.symm
  replace g3 := g3.symm
  replace g4 := g4.symm
  replace g5 := g5.symm
  replace g6 := g6.symm
  simp only [o204_0, o204_1, o204_2, o204_5, o204_8, o204_9, o204_12, o204_13, o204_14, o204_17, o204_18, o204_20, o204_23, o204_24, o204_27, o204_28, o204_31, o204_34, o204_35, o204_36, o204_38, o204_40, o204_41, o204_42, o204_43, o204_46, o204_47, o204_48, o204_51, o204_52, o204_53, o204_54, o204_55, o204_58, o204_59, o204_60, o204_63, o204_64, o204_65, o204_66, o204_67, o204_70, o204_71, o204_72, o204_75, o204_76, o204_77, o204_78, o204_79, o204_82, o204_83, o204_84, o204_87, o204_88, o204_89, o204_90, o204_91, o204_94, o204_95, o204_96, o204_99, o204_100, o204_101, o204_102, o204_103, o204_106, o204_107, o204_108, o204_111, o204_112, o204_113, o204_115, o204_116, o204_119, o204_120, o204_121, o204_124, o204_125, o204_126, o204_127, o204_128, o204_129, c_X8_isQueue, c_X8_isThrown_, mc_pi, mc_pN, mn_pi, mn_pN, mi_pi, mi_pN, mr_pi, mr_pN, mt_pi, mz_pi, mz_pN, mcs_0, mcs_r, Kn_v, mrf_some, true_and, and_true, and_false, not_true_eq_false, not_false_eq_true, false_implies, forall_const, if_true, if_false, and_self, Nat.reduceEqDiff, Nat.reduceLeDiff, Nat.reduceSub, Nat.reduceAdd, Nat.zero_le, Nat.le_refl, i10, lt_le, Int32.reduceLT, cl0, cl1, cl2, cl3, cl4, cl5, cl6, cl7, Nat.reduceLT, hAe, kc22, kc25, kc26, kc32, kc35, kn25, kn26, kr22_2, kr22_3, kr25_1, kr26_1, kz, ki35_0, ki35_1, vq3, hta, hta2, hzt, vpk, Int32.reduceLT, g1, g2, g4, g5, g6]
  exact hQ _ (show Fr (p_i h (A 22) 9 0) _ from (Fr_pi (Fr_pi (Fr_pi (Fr_pi (Fr_pi (Fr_pi (Fr_pi (Fr_pN Fr_rfl) (Nat.le_refl _)) (Nat.le_refl _)) (Nat.le_refl _)) (Nat.le_refl _)) (Nat.le_refl _)) (Nat.le_refl _)) (Nat.le_refl _)))

theorem m_plX1_4 {A : Nat → Nat} {h : MH} {Q : MR → MH → Prop} (R : Rl A h) (hQ : ∀ m, Fr (p_i h (A 22) 9 0) m → Q (.inl (some (.int (g_i h (A 11) 6)))) m) : Ok 204 0 [.ref (A 22), .int 1, .int 4, mk0] [] h 1 7 Q := by
  have R0 := R
  obtain ⟨vk, vcn, v0, v1, v2, vp, vl0, vl1, vlr, vsr, vc, tx⟩ := R0
  have vk0 := vk
  have vcn0 := vcn
  (refine K_el vk0 ?_; intros hA kc0 kc1 kc2 kc3 kc4 kc5 kc6 kc7 kc8 kc9 kc10 kc11 kc12 kc13 kc14 kc15 kc16 kc17 kc18 kc19 kc20 kc21 kc22 kc23 kc24 kc25 kc26 kc27 kc28 kc29 kc30 kc31 kc32 kc33 kc34 kc35 kc36 kc37 kc38 kc39 kz kt kn3 kn4 kn18 kn21 kn23 kn24 kn25 kn26 kn27 kn29 kn30 kr0_0 kr0_1 kr0_2 kr0_3 kr0_4 kr0_5 kr0_7 kr0_8 kr0_9 kr0_10 kr1_0 kr2_0 kr5_0 kr5_1 kr6_0 kr6_1 kr7_0 kr7_1 kr8_0 kr9_0 kr10_0 kr11_0 kr12_0 kr13_0 kr14_0 kr15_0 kr16_0 kr17_0 kr19_0 kr19_1 kr22_0 kr22_1 kr22_2 kr22_3 kr22_4 kr22_5 kr22_7 kr22_8 kr25_0 kr25_1 kr25_2 kr26_0 kr26_1 kr26_2 kr29_0 kr29_1)
  (refine Cn_el vcn0 ?_; intros ki5_2 ki6_2 ki7_2 ki8_1 ki8_2 ki8_3 ki9_1 ki9_2 ki9_3 ki10_1 ki10_2 ki10_3 ki11_1 ki11_2 ki11_3 ki12_1 ki12_2 ki12_3 ki13_1 ki13_2 ki13_3 ki14_1 ki14_2 ki14_3 ki28_0 ki28_1 ki31_0 ki31_1 ki32_0 ki32_1 ki33_0 ki33_1 ki34_0 ki34_1 ki35_0 ki35_1 ki36_0 ki36_1)
  have hAe : ∀ i j, i < 40 → j < 40 → (A i = A j ↔ i = j) := hA
  have hta : ∀ i, i < 40 → (A i = g_t h) = False := fun i hi => eq_false (fun z => by have := kt i hi; omega)
  have hta2 : ∀ i, i < 40 → (g_t h = A i) = False := fun i hi => eq_false (fun z => by have := kt i hi; omega)
  have hzt : g_z h ≤ g_t h := Nat.le_trans (kz 0 (by decide)) (Nat.le_of_lt (kt 0 (by decide)))
  have he2 := v1.1
  simp only [cT, mT, Prod.mk.injEq] at he2
  obtain ⟨g1, g2, g3, g4, g5, g6, g7⟩ := he2
  replace g1 := g1.symm
  replace g2 := g2.symm
  replace g3 := g3.symm
  replace g4 := g4.symm
  replace g5 := g5.symm
  replace g6 := g6.symm
  simp only [o204_0, o204_1, o204_2, o204_5, o204_8, o204_9, o204_12, o204_13, o204_14, o204_17, o204_18, o204_20, o204_23, o204_24, o204_27, o204_28, o204_31, o204_34, o204_35, o204_36, o204_38, o204_40, o204_41, o204_42, o204_43, o204_46, o204_47, o204_48, o204_51, o204_52, o204_53, o204_54, o204_55, o204_58, o204_59, o204_60, o204_63, o204_64, o204_65, o204_66, o204_67, o204_70, o204_71, o204_72, o204_75, o204_76, o204_77, o204_78, o204_79, o204_82, o204_83, o204_84, o204_87, o204_88, o204_89, o204_90, o204_91, o204_94, o204_95, o204_96, o204_99, o204_100, o204_101, o204_102, o204_103, o204_106, o204_107, o204_108, o204_111, o204_112, o204_113, o204_115, o204_116, o204_119, o204_120, o204_121, o204_124, o204_125, o204_126, o204_127, o204_128, o204_129, c_X8_isQueue, c_X8_isThrown_, mc_pi, mc_pN, mn_pi, mn_pN, mi_pi, mi_pN, mr_pi, mr_pN, mt_pi, mz_pi, mz_pN, mcs_0, mcs_r, Kn_v, mrf_some, true_and, and_true, and_false, not_true_eq_false, not_false_eq_true, false_implies, forall_const, if_true, if_false, and_self, Nat.reduceEqDiff, Nat.reduceLeDiff, Nat.reduceSub, Nat.reduceAdd, Nat.zero_le, Nat.le_refl, i10, lt_le, Int32.reduceLT, cl0, cl1, cl2, cl3, cl4, cl5, cl6, cl7, Nat.reduceLT, hAe, kc22, kc25, kc26, kc32, kc35, kn25, kn26, kr22_2, kr22_3, kr25_1, kr26_1, kz, ki35_0, ki35_1, vq3, hta, hta2, hzt, vpk, Int32.reduceLT, g1, g2, g4, g5, g6]
  exact hQ _ (show Fr (p_i h (A 22) 9 0) _ from (Fr_pi (Fr_pi (Fr_pi (Fr_pi (Fr_pi (Fr_pi (Fr_pi (Fr_pN Fr_rfl) (Nat.le_refl _)) (Nat.le_refl _)) (Nat.le_refl _)) (Nat.le_refl _)) (Nat.le_refl _)) (Nat.le_refl _)) (Nat.le_refl _)))

theorem m_plX1_5 {A : Nat → Nat} {h : MH} {Q : MR → MH → Prop} (R : Rl A h) (hQ : ∀ m, Fr (p_i h (A 22) 9 0) m → Q (.inl (some (.int (3)))) m) : Ok 204 0 [.ref (A 22), .int 1, .int 5, mk0] [] h 1 7 Q := by
  have R0 := R
  obtain ⟨vk, vcn, v0, v1, v2, vp, vl0, vl1, vlr, vsr, vc, tx⟩ := R0
  have vk0 := vk
  have vcn0 := vcn
  (refine K_el vk0 ?_; intros hA kc0 kc1 kc2 kc3 kc4 kc5 kc6 kc7 kc8 kc9 kc10 kc11 kc12 kc13 kc14 kc15 kc16 kc17 kc18 kc19 kc20 kc21 kc22 kc23 kc24 kc25 kc26 kc27 kc28 kc29 kc30 kc31 kc32 kc33 kc34 kc35 kc36 kc37 kc38 kc39 kz kt kn3 kn4 kn18 kn21 kn23 kn24 kn25 kn26 kn27 kn29 kn30 kr0_0 kr0_1 kr0_2 kr0_3 kr0_4 kr0_5 kr0_7 kr0_8 kr0_9 kr0_10 kr1_0 kr2_0 kr5_0 kr5_1 kr6_0 kr6_1 kr7_0 kr7_1 kr8_0 kr9_0 kr10_0 kr11_0 kr12_0 kr13_0 kr14_0 kr15_0 kr16_0 kr17_0 kr19_0 kr19_1 kr22_0 kr22_1 kr22_2 kr22_3 kr22_4 kr22_5 kr22_7 kr22_8 kr25_0 kr25_1 kr25_2 kr26_0 kr26_1 kr26_2 kr29_0 kr29_1)
  (refine Cn_el vcn0 ?_; intros ki5_2 ki6_2 ki7_2 ki8_1 ki8_2 ki8_3 ki9_1 ki9_2 ki9_3 ki10_1 ki10_2 ki10_3 ki11_1 ki11_2 ki11_3 ki12_1 ki12_2 ki12_3 ki13_1 ki13_2 ki13_3 ki14_1 ki14_2 ki14_3 ki28_0 ki28_1 ki31_0 ki31_1 ki32_0 ki32_1 ki33_0 ki33_1 ki34_0 ki34_1 ki35_0 ki35_1 ki36_0 ki36_1)
  have hAe : ∀ i j, i < 40 → j < 40 → (A i = A j ↔ i = j) := hA
  have hta : ∀ i, i < 40 → (A i = g_t h) = False := fun i hi => eq_false (fun z => by have := kt i hi; omega)
  have hta2 : ∀ i, i < 40 → (g_t h = A i) = False := fun i hi => eq_false (fun z => by have := kt i hi; omega)
  have hzt : g_z h ≤ g_t h := Nat.le_trans (kz 0 (by decide)) (Nat.le_of_lt (kt 0 (by decide)))
  have he2 := v1.1
  simp only [cT, mT, Prod.mk.injEq] at he2
  obtain ⟨g1, g2, g3, g4, g5, g6, g7⟩ := he2
  replace g1 := g1.symm
  replace g2 := g2.symm
  replace g3 := g3.symm
  replace g4 := g4.symm
  replace g5 := g5.symm
  replace g6 := g6.symm
  simp only [o204_0, o204_1, o204_2, o204_5, o204_8, o204_9, o204_12, o204_13, o204_14, o204_17, o204_18, o204_20, o204_23, o204_24, o204_27, o204_28, o204_31, o204_34, o204_35, o204_36, o204_38, o204_40, o204_41, o204_42, o204_43, o204_46, o204_47, o204_48, o204_51, o204_52, o204_53, o204_54, o204_55, o204_58, o204_59, o204_60, o204_63, o204_64, o204_65, o204_66, o204_67, o204_70, o204_71, o204_72, o204_75, o204_76, o204_77, o204_78, o204_79, o204_82, o204_83, o204_84, o204_87, o204_88, o204_89, o204_90, o204_91, o204_94, o204_95, o204_96, o204_99, o204_100, o204_101, o204_102, o204_103, o204_106, o204_107, o204_108, o204_111, o204_112, o204_113, o204_115, o204_116, o204_119, o204_120, o204_121, o204_124, o204_125, o204_126, o204_127, o204_128, o204_129, c_X8_isQueue, c_X8_isThrown_, mc_pi, mc_pN, mn_pi, mn_pN, mi_pi, mi_pN, mr_pi, mr_pN, mt_pi, mz_pi, mz_pN, mcs_0, mcs_r, Kn_v, mrf_some, true_and, and_true, and_false, not_true_eq_false, not_false_eq_true, false_implies, forall_const, if_true, if_false, and_self, Nat.reduceEqDiff, Nat.reduceLeDiff, Nat.reduceSub, Nat.reduceAdd, Nat.zero_le, Nat.le_refl, i10, lt_le, Int32.reduceLT, cl0, cl1, cl2, cl3, cl4, cl5, cl6, cl7, Nat.reduceLT, hAe, kc22, kc25, kc26, kc32, kc35, kn25, kn26, kr22_2, kr22_3, kr25_1, kr26_1, kz, ki35_0, ki35_1, vq3, hta, hta2, hzt, vpk, Int32.reduceLT, g1, g2, g4, g5, g6]
  exact hQ _ (show Fr (p_i h (A 22) 9 0) _ from (Fr_pi (Fr_pi (Fr_pi (Fr_pi (Fr_pi (Fr_pi (Fr_pi (Fr_pN Fr_rfl) (Nat.le_refl _)) (Nat.le_refl _)) (Nat.le_refl _)) (Nat.le_refl _)) (Nat.le_refl _)) (Nat.le_refl _)) (Nat.le_refl _)))

theorem m_plX1_6 {A : Nat → Nat} {h : MH} {Q : MR → MH → Prop} (R : Rl A h) (hQ : ∀ m, Fr (p_i h (A 22) 9 0) m → Q (.inl (some (.int (6)))) m) : Ok 204 0 [.ref (A 22), .int 1, .int 6, mk0] [] h 1 7 Q := by
  have R0 := R
  obtain ⟨vk, vcn, v0, v1, v2, vp, vl0, vl1, vlr, vsr, vc, tx⟩ := R0
  have vk0 := vk
  have vcn0 := vcn
  (refine K_el vk0 ?_; intros hA kc0 kc1 kc2 kc3 kc4 kc5 kc6 kc7 kc8 kc9 kc10 kc11 kc12 kc13 kc14 kc15 kc16 kc17 kc18 kc19 kc20 kc21 kc22 kc23 kc24 kc25 kc26 kc27 kc28 kc29 kc30 kc31 kc32 kc33 kc34 kc35 kc36 kc37 kc38 kc39 kz kt kn3 kn4 kn18 kn21 kn23 kn24 kn25 kn26 kn27 kn29 kn30 kr0_0 kr0_1 kr0_2 kr0_3 kr0_4 kr0_5 kr0_7 kr0_8 kr0_9 kr0_10 kr1_0 kr2_0 kr5_0 kr5_1 kr6_0 kr6_1 kr7_0 kr7_1 kr8_0 kr9_0 kr10_0 kr11_0 kr12_0 kr13_0 kr14_0 kr15_0 kr16_0 kr17_0 kr19_0 kr19_1 kr22_0 kr22_1 kr22_2 kr22_3 kr22_4 kr22_5 kr22_7 kr22_8 kr25_0 kr25_1 kr25_2 kr26_0 kr26_1 kr26_2 kr29_0 kr29_1)
  (refine Cn_el vcn0 ?_; intros ki5_2 ki6_2 ki7_2 ki8_1 ki8_2 ki8_3 ki9_1 ki9_2 ki9_3 ki10_1 ki10_2 ki10_3 ki11_1 ki11_2 ki11_3 ki12_1 ki12_2 ki12_3 ki13_1 ki13_2 ki13_3 ki14_1 ki14_2 ki14_3 ki28_0 ki28_1 ki31_0 ki31_1 ki32_0 ki32_1 ki33_0 ki33_1 ki34_0 ki34_1 ki35_0 ki35_1 ki36_0 ki36_1)
  have hAe : ∀ i j, i < 40 → j < 40 → (A i = A j ↔ i = j) := hA
  have hta : ∀ i, i < 40 → (A i = g_t h) = False := fun i hi => eq_false (fun z => by have := kt i hi; omega)
  have hta2 : ∀ i, i < 40 → (g_t h = A i) = False := fun i hi => eq_false (fun z => by have := kt i hi; omega)
  have hzt : g_z h ≤ g_t h := Nat.le_trans (kz 0 (by decide)) (Nat.le_of_lt (kt 0 (by decide)))
  have he2 := v1.1
  simp only [cT, mT, Prod.mk.injEq] at he2
  obtain ⟨g1, g2, g3, g4, g5, g6, g7⟩ := he2
  replace g1 := g1.symm
  replace g2 := g2.symm
  replace g3 := g3.symm
  replace g4 := g4.symm
  replace g5 := g5.symm
  replace g6 := g6.symm
  simp only [o204_0, o204_1, o204_2, o204_5, o204_8, o204_9, o204_12, o204_13, o204_14, o204_17, o204_18, o204_20, o204_23, o204_24, o204_27, o204_28, o204_31, o204_34, o204_35, o204_36, o204_38, o204_40, o204_41, o204_42, o204_43, o204_46, o204_47, o204_48, o204_51, o204_52, o204_53, o204_54, o204_55, o204_58, o204_59, o204_60, o204_63, o204_64, o204_65, o204_66, o204_67, o204_70, o204_71, o204_72, o204_75, o204_76, o204_77, o204_78, o204_79, o204_82, o204_83, o204_84, o204_87, o204_88, o204_89, o204_90, o204_91, o204_94, o204_95, o204_96, o204_99, o204_100, o204_101, o204_102, o204_103, o204_106, o204_107, o204_108, o204_111, o204_112, o204_113, o204_115, o204_116, o204_119, o204_120, o204_121, o204_124, o204_125, o204_126, o204_127, o204_128, o204_129, c_X8_isQueue, c_X8_isThrown_, mc_pi, mc_pN, mn_pi, mn_pN, mi_pi, mi_pN, mr_pi, mr_pN, mt_pi, mz_pi, mz_pN, mcs_0, mcs_r, Kn_v, mrf_some, true_and, and_true, and_false, not_true_eq_false, not_false_eq_true, false_implies, forall_const, if_true, if_false, and_self, Nat.reduceEqDiff, Nat.reduceLeDiff, Nat.reduceSub, Nat.reduceAdd, Nat.zero_le, Nat.le_refl, i10, lt_le, Int32.reduceLT, cl0, cl1, cl2, cl3, cl4, cl5, cl6, cl7, Nat.reduceLT, hAe, kc22, kc25, kc26, kc32, kc35, kn25, kn26, kr22_2, kr22_3, kr25_1, kr26_1, kz, ki35_0, ki35_1, vq3, hta, hta2, hzt, vpk, Int32.reduceLT, g1, g2, g4, g5, g6]
  exact hQ _ (show Fr (p_i h (A 22) 9 0) _ from (Fr_pi (Fr_pi (Fr_pi (Fr_pi (Fr_pi (Fr_pi (Fr_pi (Fr_pN Fr_rfl) (Nat.le_refl _)) (Nat.le_refl _)) (Nat.le_refl _)) (Nat.le_refl _)) (Nat.le_refl _)) (Nat.le_refl _)) (Nat.le_refl _)))

theorem m_plX2_0 {A : Nat → Nat} {h : MH} {Q : MR → MH → Prop} (R : Rl A h) (hQ : ∀ m, Fr (p_i h (A 22) 9 0) m → Q (.inl (some (.int (g_i h (A 12) 4)))) m) : Ok 204 0 [.ref (A 22), .int 2, .int 0, mk0] [] h 1 7 Q := by
  have R0 := R
  obtain ⟨vk, vcn, v0, v1, v2, vp, vl0, vl1, vlr, vsr, vc, tx⟩ := R0
  have vk0 := vk
  have vcn0 := vcn
  (refine K_el vk0 ?_; intros hA kc0 kc1 kc2 kc3 kc4 kc5 kc6 kc7 kc8 kc9 kc10 kc11 kc12 kc13 kc14 kc15 kc16 kc17 kc18 kc19 kc20 kc21 kc22 kc23 kc24 kc25 kc26 kc27 kc28 kc29 kc30 kc31 kc32 kc33 kc34 kc35 kc36 kc37 kc38 kc39 kz kt kn3 kn4 kn18 kn21 kn23 kn24 kn25 kn26 kn27 kn29 kn30 kr0_0 kr0_1 kr0_2 kr0_3 kr0_4 kr0_5 kr0_7 kr0_8 kr0_9 kr0_10 kr1_0 kr2_0 kr5_0 kr5_1 kr6_0 kr6_1 kr7_0 kr7_1 kr8_0 kr9_0 kr10_0 kr11_0 kr12_0 kr13_0 kr14_0 kr15_0 kr16_0 kr17_0 kr19_0 kr19_1 kr22_0 kr22_1 kr22_2 kr22_3 kr22_4 kr22_5 kr22_7 kr22_8 kr25_0 kr25_1 kr25_2 kr26_0 kr26_1 kr26_2 kr29_0 kr29_1)
  (refine Cn_el vcn0 ?_; intros ki5_2 ki6_2 ki7_2 ki8_1 ki8_2 ki8_3 ki9_1 ki9_2 ki9_3 ki10_1 ki10_2 ki10_3 ki11_1 ki11_2 ki11_3 ki12_1 ki12_2 ki12_3 ki13_1 ki13_2 ki13_3 ki14_1 ki14_2 ki14_3 ki28_0 ki28_1 ki31_0 ki31_1 ki32_0 ki32_1 ki33_0 ki33_1 ki34_0 ki34_1 ki35_0 ki35_1 ki36_0 ki36_1)
  have hAe : ∀ i j, i < 40 → j < 40 → (A i = A j ↔ i = j) := hA
  have hta : ∀ i, i < 40 → (A i = g_t h) = False := fun i hi => eq_false (fun z => by have := kt i hi; omega)
  have hta2 : ∀ i, i < 40 → (g_t h = A i) = False := fun i hi => eq_false (fun z => by have := kt i hi; omega)
  have hzt : g_z h ≤ g_t h := Nat.le_trans (kz 0 (by decide)) (Nat.le_of_lt (kt 0 (by decide)))
  have he2 := v2.1
  simp only [cT, mT, Prod.mk.injEq] at he2
  obtain ⟨g1, g2, g3, g4, g5, g6, g7⟩ := he2
  replace g1 := g1.symm
  replace g2 := g2.symm
  replace g3 := g3.symm
  replace g4 := g4.symm
  replace g5 := g5.symm
  replace g6 := g6.symm
  simp only [o204_0, o204_1, o204_2, o204_5, o204_8, o204_9, o204_12, o204_13, o204_14, o204_17, o204_18, o204_20, o204_23, o204_24, o204_27, o204_28, o204_31, o204_34, o204_35, o204_36, o204_38, o204_40, o204_41, o204_42, o204_43, o204_46, o204_47, o204_48, o204_51, o204_52, o204_53, o204_54, o204_55, o204_58, o204_59, o204_60, o204_63, o204_64, o204_65, o204_66, o204_67, o204_70, o204_71, o204_72, o204_75, o204_76, o204_77, o204_78, o204_79, o204_82, o204_83, o204_84, o204_87, o204_88, o204_89, o204_90, o204_91, o204_94, o204_95, o204_96, o204_99, o204_100, o204_101, o204_102, o204_103, o204_106, o204_107, o204_108, o204_111, o204_112, o204_113, o204_115, o204_116, o204_119, o204_120, o204_121, o204_124, o204_125, o204_126, o204_127, o204_128, o204_129, c_X8_isQueue, c_X8_isThrown_, mc_pi, mc_pN, mn_pi, mn_pN, mi_pi, mi_pN, mr_pi, mr_pN, mt_pi, mz_pi, mz_pN, mcs_0, mcs_r, Kn_v, mrf_some, true_and, and_true, and_false, not_true_eq_false, not_false_eq_true, false_implies, forall_const, if_true, if_false, and_self, Nat.reduceEqDiff, Nat.reduceLeDiff, Nat.reduceSub, Nat.reduceAdd, Nat.zero_le, Nat.le_refl, i10, lt_le, Int32.reduceLT, cl0, cl1, cl2, cl3, cl4, cl5, cl6, cl7, Nat.reduceLT, hAe, kc22, kc25, kc26, kc33, kc36, kn25, kn26, kr22_2, kr22_3, kr25_2, kr26_2, kz, ki36_0, ki36_1, vq3, hta, hta2, hzt, vpk, Int32.reduceLT, g1, g2, g4, g5, g6]
  exact hQ _ (show Fr (p_i h (A 22) 9 0) _ from (Fr_pi (Fr_pi (Fr_pi (Fr_pi (Fr_pi (Fr_pi (Fr_pi (Fr_pN Fr_rfl) (Nat.le_refl _)) (Nat.le_refl _)) (Nat.le_refl _)) (Nat.le_refl _)) (Nat.le_refl _)) (Nat.le_refl _)) (Nat.le_refl _)))

theorem m_plX2_1 {A : Nat → Nat} {h : MH} {Q : MR → MH → Prop} (R : Rl A h) (hQ : ∀ m, Fr (p_i h (A 22) 9 0) m → Q (.inl (some (.int (g_i h (A 12) 5)))) m) : Ok 204 0 [.ref (A 22), .int 2, .int 1, mk0] [] h 1 7 Q := by
  have R0 := R
  obtain ⟨vk, vcn, v0, v1, v2, vp, vl0, vl1, vlr, vsr, vc, tx⟩ := R0
  have vk0 := vk
  have vcn0 := vcn
  (refine K_el vk0 ?_; intros hA kc0 kc1 kc2 kc3 kc4 kc5 kc6 kc7 kc8 kc9 kc10 kc11 kc12 kc13 kc14 kc15 kc16 kc17 kc18 kc19 kc20 kc21 kc22 kc23 kc24 kc25 kc26 kc27 kc28 kc29 kc30 kc31 kc32 kc33 kc34 kc35 kc36 kc37 kc38 kc39 kz kt kn3 kn4 kn18 kn21 kn23 kn24 kn25 kn26 kn27 kn29 kn30 kr0_0 kr0_1 kr0_2 kr0_3 kr0_4 kr0_5 kr0_7 kr0_8 kr0_9 kr0_10 kr1_0 kr2_0 kr5_0 kr5_1 kr6_0 kr6_1 kr7_0 kr7_1 kr8_0 kr9_0 kr10_0 kr11_0 kr12_0 kr13_0 kr14_0 kr15_0 kr16_0 kr17_0 kr19_0 kr19_1 kr22_0 kr22_1 kr22_2 kr22_3 kr22_4 kr22_5 kr22_7 kr22_8 kr25_0 kr25_1 kr25_2 kr26_0 kr26_1 kr26_2 kr29_0 kr29_1)
  (refine Cn_el vcn0 ?_; intros ki5_2 ki6_2 ki7_2 ki8_1 ki8_2 ki8_3 ki9_1 ki9_2 ki9_3 ki10_1 ki10_2 ki10_3 ki11_1 ki11_2 ki11_3 ki12_1 ki12_2 ki12_3 ki13_1 ki13_2 ki13_3 ki14_1 ki14_2 ki14_3 ki28_0 ki28_1 ki31_0 ki31_1 ki32_0 ki32_1 ki33_0 ki33_1 ki34_0 ki34_1 ki35_0 ki35_1 ki36_0 ki36_1)
  have hAe : ∀ i j, i < 40 → j < 40 → (A i = A j ↔ i = j) := hA
  have hta : ∀ i, i < 40 → (A i = g_t h) = False := fun i hi => eq_false (fun z => by have := kt i hi; omega)
  have hta2 : ∀ i, i < 40 → (g_t h = A i) = False := fun i hi => eq_false (fun z => by have := kt i hi; omega)
  have hzt : g_z h ≤ g_t h := Nat.le_trans (kz 0 (by decide)) (Nat.le_of_lt (kt 0 (by decide)))
  have he2 := v2.1
  simp only [cT, mT, Prod.mk.injEq] at he2
  obtain ⟨g1, g2, g3, g4, g5, g6, g7⟩ := he2
  replace g1 := g1.symm
  replace g2 := g2.symm
  replace g3 := g3.symm
  replace g4 := g4.symm
  replace g5 := g5.symm
  replace g6 := g6.symm
  simp only [o204_0, o204_1, o204_2, o204_5, o204_8, o204_9, o204_12, o204_13, o204_14, o204_17, o204_18, o204_20, o204_23, o204_24, o204_27, o204_28, o204_31, o204_34, o204_35, o204_36, o204_38, o204_40, o204_41, o204_42, o204_43, o204_46, o204_47, o204_48, o204_51, o204_52, o204_53, o204_54, o204_55, o204_58, o204_59, o204_60, o204_63, o204_64, o204_65, o204_66, o204_67, o204_70, o204_71, o204_72, o204_75, o204_76, o204_77, o204_78, o204_79, o204_82, o204_83, o204_84, o204_87, o204_88, o204_89, o204_90, o204_91, o204_94, o204_95, o204_96, o204_99, o204_100, o204_101, o204_102, o204_103, o204_106, o204_107, o204_108, o204_111, o204_112, o204_113, o204_115, o204_116, o204_119, o204_120, o204_121, o204_124, o204_125, o204_126, o204_127, o204_128, o204_129, c_X8_isQueue, c_X8_isThrown_, mc_pi, mc_pN, mn_pi, mn_pN, mi_pi, mi_pN, mr_pi, mr_pN, mt_pi, mz_pi, mz_pN, mcs_0, mcs_r, Kn_v, mrf_some, true_and, and_true, and_false, not_true_eq_false, not_false_eq_true, false_implies, forall_const, if_true, if_false, and_self, Nat.reduceEqDiff, Nat.reduceLeDiff, Nat.reduceSub, Nat.reduceAdd, Nat.zero_le, Nat.le_refl, i10, lt_le, Int32.reduceLT, cl0, cl1, cl2, cl3, cl4, cl5, cl6, cl7, Nat.reduceLT, hAe, kc22, kc25, kc26, kc33, kc36, kn25, kn26, kr22_2, kr22_3, kr25_2, kr26_2, kz, ki36_0, ki36_1, vq3, hta, hta2, hzt, vpk, Int32.reduceLT, g1, g2, g4, g5, g6]
  exact hQ _ (show Fr (p_i h (A 22) 9 0) _ from (Fr_pi (Fr_pi (Fr_pi (Fr_pi (Fr_pi (Fr_pi (Fr_pi (Fr_pN Fr_rfl) (Nat.le_refl _)) (Nat.le_refl _)) (Nat.le_refl _)) (Nat.le_refl _)) (Nat.le_refl _)) (Nat.le_refl _)) (Nat.le_refl _)))

theorem m_plX2_2 {A : Nat → Nat} {h : MH} {Q : MR → MH → Prop} (R : Rl A h) (hQ : ∀ m, Fr (p_i h (A 22) 9 0) m → Q (.inl (some (.int (g_i h (A 13) 4)))) m) : Ok 204 0 [.ref (A 22), .int 2, .int 2, mk0] [] h 1 7 Q := by
  have R0 := R
  obtain ⟨vk, vcn, v0, v1, v2, vp, vl0, vl1, vlr, vsr, vc, tx⟩ := R0
  have vk0 := vk
  have vcn0 := vcn
  (refine K_el vk0 ?_; intros hA kc0 kc1 kc2 kc3 kc4 kc5 kc6 kc7 kc8 kc9 kc10 kc11 kc12 kc13 kc14 kc15 kc16 kc17 kc18 kc19 kc20 kc21 kc22 kc23 kc24 kc25 kc26 kc27 kc28 kc29 kc30 kc31 kc32 kc33 kc34 kc35 kc36 kc37 kc38 kc39 kz kt kn3 kn4 kn18 kn21 kn23 kn24 kn25 kn26 kn27 kn29 kn30 kr0_0 kr0_1 kr0_2 kr0_3 kr0_4 kr0_5 kr0_7 kr0_8 kr0_9 kr0_10 kr1_0 kr2_0 kr5_0 kr5_1 kr6_0 kr6_1 kr7_0 kr7_1 kr8_0 kr9_0 kr10_0 kr11_0 kr12_0 kr13_0 kr14_0 kr15_0 kr16_0 kr17_0 kr19_0 kr19_1 kr22_0 kr22_1 kr22_2 kr22_3 kr22_4 kr22_5 kr22_7 kr22_8 kr25_0 kr25_1 kr25_2 kr26_0 kr26_1 kr26_2 kr29_0 kr29_1)
  (refine Cn_el vcn0 ?_; intros ki5_2 ki6_2 ki7_2 ki8_1 ki8_2 ki8_3 ki9_1 ki9_2 ki9_3 ki10_1 ki10_2 ki10_3 ki11_1 ki11_2 ki11_3 ki12_1 ki12_2 ki12_3 ki13_1 ki13_2 ki13_3 ki14_1 ki14_2 ki14_3 ki28_0 ki28_1 ki31_0 ki31_1 ki32_0 ki32_1 ki33_0 ki33_1 ki34_0 ki34_1 ki35_0 ki35_1 ki36_0 ki36_1)
  have hAe : ∀ i j, i < 40 → j < 40 → (A i = A j ↔ i = j) := hA
  have hta : ∀ i, i < 40 → (A i = g_t h) = False := fun i hi => eq_false (fun z => by have := kt i hi; omega)
  have hta2 : ∀ i, i < 40 → (g_t h = A i) = False := fun i hi => eq_false (fun z => by have := kt i hi; omega)
  have hzt : g_z h ≤ g_t h := Nat.le_trans (kz 0 (by decide)) (Nat.le_of_lt (kt 0 (by decide)))
  have he2 := v2.1
  simp only [cT, mT, Prod.mk.injEq] at he2
  obtain ⟨g1, g2, g3, g4, g5, g6, g7⟩ := he2
  replace g1 := g1.symm
  replace g2 := g2.symm
  replace g3 := g3.symm
  replace g4 := g4.symm
  replace g5 := g5.symm
  replace g6 := g6.symm
  simp only [o204_0, o204_1, o204_2, o204_5, o204_8, o204_9, o204_12, o204_13, o204_14, o204_17, o204_18, o204_20, o204_23, o204_24, o204_27, o204_28, o204_31, o204_34, o204_35, o204_36, o204_38, o204_40, o204_41, o204_42, o204_43, o204_46, o204_47, o204_48, o204_51, o204_52, o204_53, o204_54, o204_55, o204_58, o204_59, o204_60, o204_63, o204_64, o204_65, o204_66, o204_67, o204_70, o204_71, o204_72, o204_75, o204_76, o204_77, o204_78, o204_79, o204_82, o204_83, o204_84, o204_87, o204_88, o204_89, o204_90, o204_91, o204_94, o204_95, o204_96, o204_99, o204_100, o204_101, o204_102, o204_103, o204_106, o204_107, o204_108, o204_111, o204_112, o204_113, o204_115, o204_116, o204_119, o204_120, o204_121, o204_124, o204_125, o204_126, o204_127, o204_128, o204_129, c_X8_isQueue, c_X8_isThrown_, mc_pi, mc_pN, mn_pi, mn_pN, mi_pi, mi_pN, mr_pi, mr_pN, mt_pi, mz_pi, mz_pN, mcs_0, mcs_r, Kn_v, mrf_some, true_and, and_true, and_false, not_true_eq_false, not_false_eq_true, false_implies, forall_const, if_true, if_false, and_self, Nat.reduceEqDiff, Nat.reduceLeDiff, Nat.reduceSub, Nat.reduceAdd, Nat.zero_le, Nat.le_refl, i10, lt_le, Int32.reduceLT, cl0, cl1, cl2, cl3, cl4, cl5, cl6, cl7, Nat.reduceLT, hAe, kc22, kc25, kc26, kc33, kc36, kn25, kn26, kr22_2, kr22_3, kr25_2, kr26_2, kz, ki36_0, ki36_1, vq3, hta, hta2, hzt, vpk, Int32.reduceLT, g1, g2, g4, g5, g6]
  exact hQ _ (show Fr (p_i h (A 22) 9 0) _ from (Fr_pi (Fr_pi (Fr_pi (Fr_pi (Fr_pi (Fr_pi (Fr_pi (Fr_pN Fr_rfl) (Nat.le_refl _)) (Nat.le_refl _)) (Nat.le_refl _)) (Nat.le_refl _)) (Nat.le_refl _)) (Nat.le_refl _)) (Nat.le_refl _)))

theorem m_plX2_3 {A : Nat → Nat} {h : MH} {Q : MR → MH → Prop} (R : Rl A h) (hQ : ∀ m, Fr (p_i h (A 22) 9 0) m → Q (.inl (some (.int (g_i h (A 13) 5)))) m) : Ok 204 0 [.ref (A 22), .int 2, .int 3, mk0] [] h 1 7 Q := by
  have R0 := R
  obtain ⟨vk, vcn, v0, v1, v2, vp, vl0, vl1, vlr, vsr, vc, tx⟩ := R0
  have vk0 := vk
  have vcn0 := vcn
  (refine K_el vk0 ?_; intros hA kc0 kc1 kc2 kc3 kc4 kc5 kc6 kc7 kc8 kc9 kc10 kc11 kc12 kc13 kc14 kc15 kc16 kc17 kc18 kc19 kc20 kc21 kc22 kc23 kc24 kc25 kc26 kc27 kc28 kc29 kc30 kc31 kc32 kc33 kc34 kc35 kc36 kc37 kc38 kc39 kz kt kn3 kn4 kn18 kn21 kn23 kn24 kn25 kn26 kn27 kn29 kn30 kr0_0 kr0_1 kr0_2 kr0_3 kr0_4 kr0_5 kr0_7 kr0_8 kr0_9 kr0_10 kr1_0 kr2_0 kr5_0 kr5_1 kr6_0 kr6_1 kr7_0 kr7_1 kr8_0 kr9_0 kr10_0 kr11_0 kr12_0 kr13_0 kr14_0 kr15_0 kr16_0 kr17_0 kr19_0 kr19_1 kr22_0 kr22_1 kr22_2 kr22_3 kr22_4 kr22_5 kr22_7 kr22_8 kr25_0 kr25_1 kr25_2 kr26_0 kr26_1 kr26_2 kr29_0 kr29_1)
  (refine Cn_el vcn0 ?_; intros ki5_2 ki6_2 ki7_2 ki8_1 ki8_2 ki8_3 ki9_1 ki9_2 ki9_3 ki10_1 ki10_2 ki10_3 ki11_1 ki11_2 ki11_3 ki12_1 ki12_2 ki12_3 ki13_1 ki13_2 ki13_3 ki14_1 ki14_2 ki14_3 ki28_0 ki28_1 ki31_0 ki31_1 ki32_0 ki32_1 ki33_0 ki33_1 ki34_0 ki34_1 ki35_0 ki35_1 ki36_0 ki36_1)
  have hAe : ∀ i j, i < 40 → j < 40 → (A i = A j ↔ i = j) := hA
  have hta : ∀ i, i < 40 → (A i = g_t h) = False := fun i hi => eq_false (fun z => by have := kt i hi; omega)
  have hta2 : ∀ i, i < 40 → (g_t h = A i) = False := fun i hi => eq_false (fun z => by have := kt i hi; omega)
  have hzt : g_z h ≤ g_t h := Nat.le_trans (kz 0 (by decide)) (Nat.le_of_lt (kt 0 (by decide)))
  have he2 := v2.1
  simp only [cT, mT, Prod.mk.injEq] at he2
  obtain ⟨g1, g2, g3, g4, g5, g6, g7⟩ := he2
  replace g1 := g1.symm
  replace g2 := g2.symm
  replace g3 := g3.symm
  replace g4 := g4.symm
  replace g5 := g5.symm
  replace g6 := g6.symm
  simp only [o204_0, o204_1, o204_2, o204_5, o204_8, o204_9, o204_12, o204_13, o204_14, o204_17, o204_18, o204_20, o204_23, o204_24, o204_27, o204_28, o204_31, o204_34, o204_35, o204_36, o204_38, o204_40, o204_41, o204_42, o204_43, o204_46, o204_47, o204_48, o204_51, o204_52, o204_53, o204_54, o204_55, o204_58, o204_59, o204_60, o204_63, o204_64, o204_65, o204_66, o204_67, o204_70, o204_71, o204_72, o204_75, o204_76, o204_77, o204_78, o204_79, o204_82, o204_83, o204_84, o204_87, o204_88, o204_89, o204_90, o204_91, o204_94, o204_95, o204_96, o204_99, o204_100, o204_101, o204_102, o204_103, o204_106, o204_107, o204_108, o204_111, o204_112, o204_113, o204_115, o204_116, o204_119, o204_120, o204_121, o204_124, o204_125, o204_126, o204_127, o204_128, o204_129, c_X8_isQueue, c_X8_isThrown_, mc_pi, mc_pN, mn_pi, mn_pN, mi_pi, mi_pN, mr_pi, mr_pN, mt_pi, mz_pi, mz_pN, mcs_0, mcs_r, Kn_v, mrf_some, true_and, and_true, and_false, not_true_eq_false, not_false_eq_true, false_implies, forall_const, if_true, if_false, and_self, Nat.reduceEqDiff, Nat.reduceLeDiff, Nat.reduceSub, Nat.reduceAdd, Nat.zero_le, Nat.le_refl, i10, lt_le, Int32.reduceLT, cl0, cl1, cl2, cl3, cl4, cl5, cl6, cl7, Nat.reduceLT, hAe, kc22, kc25, kc26, kc33, kc36, kn25, kn26, kr22_2, kr22_3, kr25_2, kr26_2, kz, ki36_0, ki36_1, vq3, hta, hta2, hzt, vpk, Int32.reduceLT, g1, g2, g4, g5, g6]
  exact hQ _ (show Fr (p_i h (A 22) 9 0) _ from (Fr_pi (Fr_pi (Fr_pi (Fr_pi (Fr_pi (Fr_pi (Fr_pi (Fr_pN Fr_rfl) (Nat.le_refl _)) (Nat.le_refl _)) (Nat.le_refl _)) (Nat.le_refl _)) (Nat.le_refl _)) (Nat.le_refl _)) (Nat.le_refl _)))

theorem m_plX2_4 {A : Nat → Nat} {h : MH} {Q : MR → MH → Prop} (R : Rl A h) (hQ : ∀ m, Fr (p_i h (A 22) 9 0) m → Q (.inl (some (.int (g_i h (A 13) 6)))) m) : Ok 204 0 [.ref (A 22), .int 2, .int 4, mk0] [] h 1 7 Q := by
  have R0 := R
  obtain ⟨vk, vcn, v0, v1, v2, vp, vl0, vl1, vlr, vsr, vc, tx⟩ := R0
  have vk0 := vk
  have vcn0 := vcn
  (refine K_el vk0 ?_; intros hA kc0 kc1 kc2 kc3 kc4 kc5 kc6 kc7 kc8 kc9 kc10 kc11 kc12 kc13 kc14 kc15 kc16 kc17 kc18 kc19 kc20 kc21 kc22 kc23 kc24 kc25 kc26 kc27 kc28 kc29 kc30 kc31 kc32 kc33 kc34 kc35 kc36 kc37 kc38 kc39 kz kt kn3 kn4 kn18 kn21 kn23 kn24 kn25 kn26 kn27 kn29 kn30 kr0_0 kr0_1 kr0_2 kr0_3 kr0_4 kr0_5 kr0_7 kr0_8 kr0_9 kr0_10 kr1_0 kr2_0 kr5_0 kr5_1 kr6_0 kr6_1 kr7_0 kr7_1 kr8_0 kr9_0 kr10_0 kr11_0 kr12_0 kr13_0 kr14_0 kr15_0 kr16_0 kr17_0 kr19_0 kr19_1 kr22_0 kr22_1 kr22_2 kr22_3 kr22_4 kr22_5 kr22_7 kr22_8 kr25_0 kr25_1 kr25_2 kr26_0 kr26_1 kr26_2 kr29_0 kr29_1)
  (refine Cn_el vcn0 ?_; intros ki5_2 ki6_2 ki7_2 ki8_1 ki8_2 ki8_3 ki9_1 ki9_2 ki9_3 ki10_1 ki10_2 ki10_3 ki11_1 ki11_2 ki11_3 ki12_1 ki12_2 ki12_3 ki13_1 ki13_2 ki13_3 ki14_1 ki14_2 ki14_3 ki28_0 ki28_1 ki31_0 ki31_1 ki32_0 ki32_1 ki33_0 ki33_1 ki34_0 ki34_1 ki35_0 ki35_1 ki36_0 ki36_1)
  have hAe : ∀ i j, i < 40 → j < 40 → (A i = A j ↔ i = j) := hA
  have hta : ∀ i, i < 40 → (A i = g_t h) = False := fun i hi => eq_false (fun z => by have := kt i hi; omega)
  have hta2 : ∀ i, i < 40 → (g_t h = A i) = False := fun i hi => eq_false (fun z => by have := kt i hi; omega)
  have hzt : g_z h ≤ g_t h := Nat.le_trans (kz 0 (by decide)) (Nat.le_of_lt (kt 0 (by decide)))
  have he2 := v2.1
  simp only [cT, mT, Prod.mk.injEq] at he2
  obtain ⟨g1, g2, g3, g4, g5, g6, g7⟩ := he2
  replace g1 := g1.symm
  replace g2 := g2.symm
  replace g3 := g3.symm
  replace g4 := g4.symm
  replace g5 := g5.symm
  replace g6 := g6.symm
  simp only [o204_0, o204_1, o204_2, o204_5, o204_8, o204_9, o204_12, o204_13, o204_14, o204_17, o204_18, o204_20, o204_23, o204_24, o204_27, o204_28, o204_31, o204_34, o204_35, o204_36, o204_38, o204_40, o204_41, o204_42, o204_43, o204_46, o204_47, o204_48, o204_51, o204_52, o204_53, o204_54, o204_55, o204_58, o204_59, o204_60, o204_63, o204_64, o204_65, o204_66, o204_67, o204_70, o204_71, o204_72, o204_75, o204_76, o204_77, o204_78, o204_79, o204_82, o204_83, o204_84, o204_87, o204_88, o204_89, o204_90, o204_91, o204_94, o204_95, o204_96, o204_99, o204_100, o204_101, o204_102, o204_103, o204_106, o204_107, o204_108, o204_111, o204_112, o204_113, o204_115, o204_116, o204_119, o204_120, o204_121, o204_124, o204_125, o204_126, o204_127, o204_128, o204_129, c_X8_isQueue, c_X8_isThrown_, mc_pi, mc_pN, mn_pi, mn_pN, mi_pi, mi_pN, mr_pi, mr_pN, mt_pi, mz_pi, mz_pN, mcs_0, mcs_r, Kn_v, mrf_some, true_and, and_true, and_false, not_true_eq_false, not_false_eq_true, false_implies, forall_const, if_true, if_false, and_self, Nat.reduceEqDiff, Nat.reduceLeDiff, Nat.reduceSub, Nat.reduceAdd, Nat.zero_le, Nat.le_refl, i10, lt_le, Int32.reduceLT, cl0, cl1, cl2, cl3, cl4, cl5, cl6, cl7, Nat.reduceLT, hAe, kc22, kc25, kc26, kc33, kc36, kn25, kn26, kr22_2, kr22_3, kr25_2, kr26_2, kz, ki36_0, ki36_1, vq3, hta, hta2, hzt, vpk, Int32.reduceLT, g1, g2, g4, g5, g6]
  exact hQ _ (show Fr (p_i h (A 22) 9 0) _ from (Fr_pi (Fr_pi (Fr_pi (Fr_pi (Fr_pi (Fr_pi (Fr_pi (Fr_pN Fr_rfl) (Nat.le_refl _)) (Nat.le_refl _)) (Nat.le_refl _)) (Nat.le_refl _)) (Nat.le_refl _)) (Nat.le_refl _)) (Nat.le_refl _)))

theorem m_plX2_5 {A : Nat → Nat} {h : MH} {Q : MR → MH → Prop} (R : Rl A h) (hQ : ∀ m, Fr (p_i h (A 22) 9 0) m → Q (.inl (some (.int (6)))) m) : Ok 204 0 [.ref (A 22), .int 2, .int 5, mk0] [] h 1 7 Q := by
  have R0 := R
  obtain ⟨vk, vcn, v0, v1, v2, vp, vl0, vl1, vlr, vsr, vc, tx⟩ := R0
  have vk0 := vk
  have vcn0 := vcn
  (refine K_el vk0 ?_; intros hA kc0 kc1 kc2 kc3 kc4 kc5 kc6 kc7 kc8 kc9 kc10 kc11 kc12 kc13 kc14 kc15 kc16 kc17 kc18 kc19 kc20 kc21 kc22 kc23 kc24 kc25 kc26 kc27 kc28 kc29 kc30 kc31 kc32 kc33 kc34 kc35 kc36 kc37 kc38 kc39 kz kt kn3 kn4 kn18 kn21 kn23 kn24 kn25 kn26 kn27 kn29 kn30 kr0_0 kr0_1 kr0_2 kr0_3 kr0_4 kr0_5 kr0_7 kr0_8 kr0_9 kr0_10 kr1_0 kr2_0 kr5_0 kr5_1 kr6_0 kr6_1 kr7_0 kr7_1 kr8_0 kr9_0 kr10_0 kr11_0 kr12_0 kr13_0 kr14_0 kr15_0 kr16_0 kr17_0 kr19_0 kr19_1 kr22_0 kr22_1 kr22_2 kr22_3 kr22_4 kr22_5 kr22_7 kr22_8 kr25_0 kr25_1 kr25_2 kr26_0 kr26_1 kr26_2 kr29_0 kr29_1)
  (refine Cn_el vcn0 ?_; intros ki5_2 ki6_2 ki7_2 ki8_1 ki8_2 ki8_3 ki9_1 ki9_2 ki9_3 ki10_1 ki10_2 ki10_3 ki11_1 ki11_2 ki11_3 ki12_1 ki12_2 ki12_3 ki13_1 ki13_2 ki13_3 ki14_1 ki14_2 ki14_3 ki28_0 ki28_1 ki31_0 ki31_1 ki32_0 ki32_1 ki33_0 ki33_1 ki34_0 ki34_1 ki35_0 ki35_1 ki36_0 ki36_1)
  have hAe : ∀ i j, i < 40 → j < 40 → (A i = A j ↔ i = j) := hA
  have hta : ∀ i, i < 40 → (A i = g_t h) = False := fun i hi => eq_false (fun z => by have := kt i hi; omega)
  have hta2 : ∀ i, i < 40 → (g_t h = A i) = False := fun i hi => eq_false (fun z => by have := kt i hi; omega)
  have hzt : g_z h ≤ g_t h := Nat.le_trans (kz 0 (by decide)) (Nat.le_of_lt (kt 0 (by decide)))
  have he2 := v2.1
  simp only [cT, mT, Prod.mk.injEq] at he2
  obtain ⟨g1, g2, g3, g4, g5, g6, g7⟩ := he2
  replace g1 := g1.symm
  replace g2 := g2.symm
  replace g3 := g3.symm
  replace g4 := g4.symm
  replace g5 := g5.symm
  replace g6 := g6.symm
  simp only [o204_0, o204_1, o204_2, o204_5, o204_8, o204_9, o204_12, o204_13, o204_14, o204_17, o204_18, o204_20, o204_23, o204_24, o204_27, o204_28, o204_31, o204_34, o204_35, o204_36, o204_38, o204_40, o204_41, o204_42, o204_43, o204_46, o204_47, o204_48, o204_51, o204_52, o204_53, o204_54, o204_55, o204_58, o204_59, o204_60, o204_63, o204_64, o204_65, o204_66, o204_67, o204_70, o204_71, o204_72, o204_75, o204_76, o204_77, o204_78, o204_79, o204_82, o204_83, o204_84, o204_87, o204_88, o204_89, o204_90, o204_91, o204_94, o204_95, o204_96, o204_99, o204_100, o204_101, o204_102, o204_103, o204_106, o204_107, o204_108, o204_111, o204_112, o204_113, o204_115, o204_116, o204_119, o204_120, o204_121, o204_124, o204_125, o204_126, o204_127, o204_128, o204_129, c_X8_isQueue, c_X8_isThrown_, mc_pi, mc_pN, mn_pi, mn_pN, mi_pi, mi_pN, mr_pi, mr_pN, mt_pi, mz_pi, mz_pN, mcs_0, mcs_r, Kn_v, mrf_some, true_and, and_true, and_false, not_true_eq_false, not_false_eq_true, false_implies, forall_const, if_true, if_false, and_self, Nat.reduceEqDiff, Nat.reduceLeDiff, Nat.reduceSub, Nat.reduceAdd, Nat.zero_le, Nat.le_refl, i10, lt_le, Int32.reduceLT, cl0, cl1, cl2, cl3, cl4, cl5, cl6, cl7, Nat.reduceLT, hAe, kc22, kc25, kc26, kc33, kc36, kn25, kn26, kr22_2, kr22_3, kr25_2, kr26_2, kz, ki36_0, ki36_1, vq3, hta, hta2, hzt, vpk, Int32.reduceLT, g1, g2, g4, g5, g6]
  exact hQ _ (show Fr (p_i h (A 22) 9 0) _ from (Fr_pi (Fr_pi (Fr_pi (Fr_pi (Fr_pi (Fr_pi (Fr_pi (Fr_pN Fr_rfl) (Nat.le_refl _)) (Nat.le_refl _)) (Nat.le_refl _)) (Nat.le_refl _)) (Nat.le_refl _)) (Nat.le_refl _)) (Nat.le_refl _)))

theorem m_plX2_6 {A : Nat → Nat} {h : MH} {Q : MR → MH → Prop} (R : Rl A h) (hQ : ∀ m, Fr (p_i h (A 22) 9 0) m → Q (.inl (some (.int (9)))) m) : Ok 204 0 [.ref (A 22), .int 2, .int 6, mk0] [] h 1 7 Q := by
  have R0 := R
  obtain ⟨vk, vcn, v0, v1, v2, vp, vl0, vl1, vlr, vsr, vc, tx⟩ := R0
  have vk0 := vk
  have vcn0 := vcn
  (refine K_el vk0 ?_; intros hA kc0 kc1 kc2 kc3 kc4 kc5 kc6 kc7 kc8 kc9 kc10 kc11 kc12 kc13 kc14 kc15 kc16 kc17 kc18 kc19 kc20 kc21 kc22 kc23 kc24 kc25 kc26 kc27 kc28 kc29 kc30 kc31 kc32 kc33 kc34 kc35 kc36 kc37 kc38 kc39 kz kt kn3 kn4 kn18 kn21 kn23 kn24 kn25 kn26 kn27 kn29 kn30 kr0_0 kr0_1 kr0_2 kr0_3 kr0_4 kr0_5 kr0_7 kr0_8 kr0_9 kr0_10 kr1_0 kr2_0 kr5_0 kr5_1 kr6_0 kr6_1 kr7_0 kr7_1 kr8_0 kr9_0 kr10_0 kr11_0 kr12_0 kr13_0 kr14_0 kr15_0 kr16_0 kr17_0 kr19_0 kr19_1 kr22_0 kr22_1 kr22_2 kr22_3 kr22_4 kr22_5 kr22_7 kr22_8 kr25_0 kr25_1 kr25_2 kr26_0 kr26_1 kr26_2 kr29_0 kr29_1)
  (refine Cn_el vcn0 ?_; intros ki5_2 ki6_2 ki7_2 ki8_1 ki8_2 ki8_3 ki9_1 ki9_2 ki9_3 ki10_1 ki10_2 ki10_3 ki11_1 ki11_2 ki11_3 ki12_1 ki12_2 ki12_3 ki13_1 ki13_2 ki13_3 ki14_1 ki14_2 ki14_3 ki28_0 ki28_1 ki31_0 ki31_1 ki32_0 ki32_1 ki33_0 ki33_1 ki34_0 ki34_1 ki35_0 ki35_1 ki36_0 ki36_1)
  have hAe : ∀ i j, i < 40 → j < 40 → (A i = A j ↔ i = j) := hA
  have hta : ∀ i, i < 40 → (A i = g_t h) = False := fun i hi => eq_false (fun z => by have := kt i hi; omega)
  have hta2 : ∀ i, i < 40 → (g_t h = A i) = False := fun i hi => eq_false (fun z => by have := kt i hi; omega)
  have hzt : g_z h ≤ g_t h := Nat.le_trans (kz 0 (by decide)) (Nat.le_of_lt (kt 0 (by decide)))
  have he2 := v2.1
  simp only [cT, mT, Prod.mk.injEq] at he2
  obtain ⟨g1, g2, g3, g4, g5, g6, g7⟩ := he2
  replace g1 := g1.symm
  replace g2 := g2.symm
  replace g3 := g3.symm
  replace g4 := g4.symm
  replace g5 := g5.symm
  replace g6 := g6.symm
  simp only [o204_0, o204_1, o204_2, o204_5, o204_8, o204_9, o204_12, o204_13, o204_14, o204_17, o204_18, o204_20, o204_23, o204_24, o204_27, o204_28, o204_31, o204_34, o204_35, o204_36, o204_38, o204_40, o204_41, o204_42, o204_43, o204_46, o204_47, o204_48, o204_51, o204_52, o204_53, o204_54, o204_55, o204_58, o204_59, o204_60, o204_63, o204_64, o204_65, o204_66, o204_67, o204_70, o204_71, o204_72, o204_75, o204_76, o204_77, o204_78, o204_79, o204_82, o204_83, o204_84, o204_87, o204_88, o204_89, o204_90, o204_91, o204_94, o204_95, o204_96, o204_99, o204_100, o204_101, o204_102, o204_103, o204_106, o204_107, o204_108, o204_111, o204_112, o204_113, o204_115, o204_116, o204_119, o204_120, o204_121, o204_124, o204_125, o204_126, o204_127, o204_128, o204_129, c_X8_isQueue, c_X8_isThrown_, mc_pi, mc_pN, mn_pi, mn_pN, mi_pi, mi_pN, mr_pi, mr_pN, mt_pi, mz_pi, mz_pN, mcs_0, mcs_r, Kn_v, mrf_some, true_and, and_true, and_false, not_true_eq_false, not_false_eq_true, false_implies, forall_const, if_true, if_false, and_self, Nat.reduceEqDiff, Nat.reduceLeDiff, Nat.reduceSub, Nat.reduceAdd, Nat.zero_le, Nat.le_refl, i10, lt_le, Int32.reduceLT, cl0, cl1, cl2, cl3, cl4, cl5, cl6, cl7, Nat.reduceLT, hAe, kc22, kc25, kc26, kc33, kc36, kn25, kn26, kr22_2, kr22_3, kr25_2, kr26_2, kz, ki36_0, ki36_1, vq3, hta, hta2, hzt, vpk, Int32.reduceLT, g1, g2, g4, g5, g6]
  exact hQ _ (show Fr (p_i h (A 22) 9 0) _ from (Fr_pi (Fr_pi (Fr_pi (Fr_pi (Fr_pi (Fr_pi (Fr_pi (Fr_pN Fr_rfl) (Nat.le_refl _)) (Nat.le_refl _)) (Nat.le_refl _)) (Nat.le_refl _)) (Nat.le_refl _)) (Nat.le_refl _)) (Nat.le_refl _)))


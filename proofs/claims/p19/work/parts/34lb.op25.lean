set_option maxRecDepth 16384
theorem m_piX0 {A : Nat → Nat} {h : MH} {Q : MR → MH → Prop} (R : Rl A h) (hQ : ∀ m, Fr (p_i h (A 22) 9 0) m → Q (.inl (some (.int (g_i h (A 14) 4)))) m) : Ok 219 0 [.ref (A 22), .int 0, mk0] [] h 1 8 Q := by
  have R0 := R
  obtain ⟨vk, vcn, v0, v1, v2, vp, vl0, vl1, vlr, vsr, vc, tx⟩ := R0
  have vk0 := vk
  have vcn0 := vcn
  (refine K_el vk0 ?_; intros hA kc0 kc1 kc2 kc3 kc4 kc5 kc6 kc7 kc8 kc9 kc10 kc11 kc12 kc13 kc14 kc15 kc16 kc17 kc18 kc19 kc20 kc21 kc22 kc23 kc24 kc25 kc26 kc27 kc28 kc29 kc30 kc31 kc32 kc33 kc34 kc35 kc36 kc37 kc38 kc39 kz kt kn3 kn4 kn18 kn21 kn23 kn24 kn25 kn26 kn27 kn29 kn30 kr0_0 kr0_1 kr0_2 kr0_3 kr0_4 kr0_5 kr0_7 kr0_8 kr0_9 kr0_10 kr1_0 kr2_0 kr5_0 kr5_1 kr6_0 kr6_1 kr7_0 kr7_1 kr8_0 kr9_0 kr10_0 kr11_0 kr12_0 kr13_0 kr14_0 kr15_0 kr16_0 kr17_0 kr19_0 kr19_1 kr22_0 kr22_1 kr22_2 kr22_3 kr22_4 kr22_5 kr22_7 kr22_8 kr25_0 kr25_1 kr25_2 kr26_0 kr26_1 kr26_2 kr29_0 kr29_1)
  (refine Cn_el vcn0 ?_; intros ki5_2 ki6_2 ki7_2 ki8_1 ki8_2 ki8_3 ki9_1 ki9_2 ki9_3 ki10_1 ki10_2 ki10_3 ki11_1 ki11_2 ki11_3 ki12_1 ki12_2 ki12_3 ki13_1 ki13_2 ki13_3 ki14_1 ki14_2 ki14_3 ki28_0 ki28_1 ki31_0 ki31_1 ki32_0 ki32_1 ki33_0 ki33_1 ki34_0 ki34_1 ki35_0 ki35_1 ki36_0 ki36_1)
  have hAe : ∀ i j, i < 40 → j < 40 → (A i = A j ↔ i = j) := hA
  have hta : ∀ i, i < 40 → (A i = g_t h) = False := fun i hi => eq_false (fun z => by have := kt i hi; omega)
  have hta2 : ∀ i, i < 40 → (g_t h = A i) = False := fun i hi => eq_false (fun z => by have := kt i hi; omega)
  have hzt : g_z h ≤ g_t h := Nat.le_trans (kz 0 (by decide)) (Nat.le_of_lt (kt 0 (by decide)))
  obtain ⟨⟨p1, p2, p3, p4⟩, pm⟩ := vp
  replace p1 := p1.symm
  replace p2 := p2.symm
  replace p3 := p3.symm
  replace p4 := p4.symm
  by_cases pd : g_i h (A 0) 6 = 0
  all_goals
    simp only [o219_0, o219_1, o219_2, o219_5, o219_6, o219_8, o219_11, o219_12, o219_15, o219_16, o219_19, o219_22, o219_23, o219_24, o219_26, o219_28, o219_29, o219_30, o219_31, o219_34, o219_37, o219_38, o219_39, o219_40, o219_41, o219_44, o219_47, o219_48, o219_49, o219_50, o219_51, o219_54, o219_57, o219_58, o219_59, o219_60, o219_62, o219_63, o219_64, o219_65, o219_66, o219_69, o219_72, o219_73, o219_74, o219_75, o219_76, o219_79, o219_82, o219_83, o219_86, o219_87, o219_88, o219_89, o219_91, o219_92, o219_93, o219_94, o219_96, o219_97, o219_100, o219_101, o219_102, o219_103, o219_104, o219_105, o218_0, o218_1, o218_4, o218_7, o218_8, o218_11, o218_14, o218_17, o218_18, o218_21, o218_24, c_X8_isThrown__, c_X7_rests, mc_pi, mc_pN, mn_pi, mn_pN, mi_pi, mi_pN, mr_pi, mr_pN, mt_pi, mz_pi, mz_pN, mcs_0, mcs_i, mcs_r, Kn_v, mrf_some, true_and, and_true, and_false, not_true_eq_false, not_false_eq_true, false_implies, forall_const, if_true, if_false, and_self, Nat.reduceEqDiff, Nat.reduceLeDiff, Nat.reduceSub, Nat.reduceAdd, Nat.zero_le, Nat.le_refl, i10, lt_le, Int32.reduceLT, cl0, cl1, cl2, cl3, cl4, cl5, cl6, cl7, cl8, Nat.reduceLT, hAe, kc22, kc28, kr22_5, kz, hta, hta2, hzt, vpk, Int32.reduceLT, p1, p2, p3, p4, pd] at hQ ⊢
    exact hQ _ (show Fr (p_i h (A 22) 9 0) _ from (Fr_pi (Fr_pi (Fr_pi (Fr_pi (Fr_pi (Fr_pi (Fr_pi (Fr_pi (Fr_pN Fr_rfl) (Nat.le_refl _)) (Nat.le_refl _)) (Nat.le_refl _)) (Nat.le_refl _)) (Nat.le_refl _)) (Nat.le_refl _)) (Nat.le_refl _)) (Nat.le_refl _)))

theorem m_piX1 {A : Nat → Nat} {h : MH} {Q : MR → MH → Prop} (R : Rl A h) (hQ : ∀ m, Fr (p_i h (A 22) 9 0) m → Q (.inl (some (.int (g_i h (A 14) 5)))) m) : Ok 219 0 [.ref (A 22), .int 1, mk0] [] h 1 8 Q := by
  have R0 := R
  obtain ⟨vk, vcn, v0, v1, v2, vp, vl0, vl1, vlr, vsr, vc, tx⟩ := R0
  have vk0 := vk
  have vcn0 := vcn
  (refine K_el vk0 ?_; intros hA kc0 kc1 kc2 kc3 kc4 kc5 kc6 kc7 kc8 kc9 kc10 kc11 kc12 kc13 kc14 kc15 kc16 kc17 kc18 kc19 kc20 kc21 kc22 kc23 kc24 kc25 kc26 kc27 kc28 kc29 kc30 kc31 kc32 kc33 kc34 kc35 kc36 kc37 kc38 kc39 kz kt kn3 kn4 kn18 kn21 kn23 kn24 kn25 kn26 kn27 kn29 kn30 kr0_0 kr0_1 kr0_2 kr0_3 kr0_4 kr0_5 kr0_7 kr0_8 kr0_9 kr0_10 kr1_0 kr2_0 kr5_0 kr5_1 kr6_0 kr6_1 kr7_0 kr7_1 kr8_0 kr9_0 kr10_0 kr11_0 kr12_0 kr13_0 kr14_0 kr15_0 kr16_0 kr17_0 kr19_0 kr19_1 kr22_0 kr22_1 kr22_2 kr22_3 kr22_4 kr22_5 kr22_7 kr22_8 kr25_0 kr25_1 kr25_2 kr26_0 kr26_1 kr26_2 kr29_0 kr29_1)
  (refine Cn_el vcn0 ?_; intros ki5_2 ki6_2 ki7_2 ki8_1 ki8_2 ki8_3 ki9_1 ki9_2 ki9_3 ki10_1 ki10_2 ki10_3 ki11_1 ki11_2 ki11_3 ki12_1 ki12_2 ki12_3 ki13_1 ki13_2 ki13_3 ki14_1 ki14_2 ki14_3 ki28_0 ki28_1 ki31_0 ki31_1 ki32_0 ki32_1 ki33_0 ki33_1 ki34_0 ki34_1 ki35_0 ki35_1 ki36_0 ki36_1)
  have hAe : ∀ i j, i < 40 → j < 40 → (A i = A j ↔ i = j) := hA
  have hta : ∀ i, i < 40 → (A i = g_t h) = False := fun i hi => eq_false (fun z => by have := kt i hi; omega)
  have hta2 : ∀ i, i < 40 → (g_t h = A i) = False := fun i hi => eq_false (fun z => by have := kt i hi; omega)
  have hzt : g_z h ≤ g_t h := Nat.le_trans (kz 0 (by decide)) (Nat.le_of_lt (kt 0 (by decide)))
  obtain ⟨⟨p1, p2, p3, p4⟩, pm⟩ := vp
  replace p1 := p1.symm
  replace p2 := p2.symm
  replace p3 := p3.symm
  replace p4 := p4.symm
  by_cases pd : g_i h (A 0) 6 = 0
  all_goals
    simp only [o219_0, o219_1, o219_2, o219_5, o219_6, o219_8, o219_11, o219_12, o219_15, o219_16, o219_19, o219_22, o219_23, o219_24, o219_26, o219_28, o219_29, o219_30, o219_31, o219_34, o219_37, o219_38, o219_39, o219_40, o219_41, o219_44, o219_47, o219_48, o219_49, o219_50, o219_51, o219_54, o219_57, o219_58, o219_59, o219_60, o219_62, o219_63, o219_64, o219_65, o219_66, o219_69, o219_72, o219_73, o219_74, o219_75, o219_76, o219_79, o219_82, o219_83, o219_86, o219_87, o219_88, o219_89, o219_91, o219_92, o219_93, o219_94, o219_96, o219_97, o219_100, o219_101, o219_102, o219_103, o219_104, o219_105, o218_0, o218_1, o218_4, o218_7, o218_8, o218_11, o218_14, o218_17, o218_18, o218_21, o218_24, c_X8_isThrown__, c_X7_rests, mc_pi, mc_pN, mn_pi, mn_pN, mi_pi, mi_pN, mr_pi, mr_pN, mt_pi, mz_pi, mz_pN, mcs_0, mcs_i, mcs_r, Kn_v, mrf_some, true_and, and_true, and_false, not_true_eq_false, not_false_eq_true, false_implies, forall_const, if_true, if_false, and_self, Nat.reduceEqDiff, Nat.reduceLeDiff, Nat.reduceSub, Nat.reduceAdd, Nat.zero_le, Nat.le_refl, i10, lt_le, Int32.reduceLT, cl0, cl1, cl2, cl3, cl4, cl5, cl6, cl7, cl8, Nat.reduceLT, hAe, kc22, kc28, kr22_5, kz, hta, hta2, hzt, vpk, Int32.reduceLT, p1, p2, p3, p4, pd] at hQ ⊢
    exact hQ _ (show Fr (p_i h (A 22) 9 0) _ from (Fr_pi (Fr_pi (Fr_pi (Fr_pi (Fr_pi (Fr_pi (Fr_pi (Fr_pi (Fr_pN Fr_rfl) (Nat.le_refl _)) (Nat.le_refl _)) (Nat.le_refl _)) (Nat.le_refl _)) (Nat.le_refl _)) (Nat.le_refl _)) (Nat.le_refl _)) (Nat.le_refl _)))

theorem m_piX2 {A : Nat → Nat} {h : MH} {Q : MR → MH → Prop} (R : Rl A h) (hQ : ∀ m, Fr (p_i h (A 22) 9 0) m → Q (.inl (some (.int (g_i h (A 14) 5 - g_i h (A 14) 4)))) m) : Ok 219 0 [.ref (A 22), .int 2, mk0] [] h 1 8 Q := by
  have R0 := R
  obtain ⟨vk, vcn, v0, v1, v2, vp, vl0, vl1, vlr, vsr, vc, tx⟩ := R0
  have vk0 := vk
  have vcn0 := vcn
  (refine K_el vk0 ?_; intros hA kc0 kc1 kc2 kc3 kc4 kc5 kc6 kc7 kc8 kc9 kc10 kc11 kc12 kc13 kc14 kc15 kc16 kc17 kc18 kc19 kc20 kc21 kc22 kc23 kc24 kc25 kc26 kc27 kc28 kc29 kc30 kc31 kc32 kc33 kc34 kc35 kc36 kc37 kc38 kc39 kz kt kn3 kn4 kn18 kn21 kn23 kn24 kn25 kn26 kn27 kn29 kn30 kr0_0 kr0_1 kr0_2 kr0_3 kr0_4 kr0_5 kr0_7 kr0_8 kr0_9 kr0_10 kr1_0 kr2_0 kr5_0 kr5_1 kr6_0 kr6_1 kr7_0 kr7_1 kr8_0 kr9_0 kr10_0 kr11_0 kr12_0 kr13_0 kr14_0 kr15_0 kr16_0 kr17_0 kr19_0 kr19_1 kr22_0 kr22_1 kr22_2 kr22_3 kr22_4 kr22_5 kr22_7 kr22_8 kr25_0 kr25_1 kr25_2 kr26_0 kr26_1 kr26_2 kr29_0 kr29_1)
  (refine Cn_el vcn0 ?_; intros ki5_2 ki6_2 ki7_2 ki8_1 ki8_2 ki8_3 ki9_1 ki9_2 ki9_3 ki10_1 ki10_2 ki10_3 ki11_1 ki11_2 ki11_3 ki12_1 ki12_2 ki12_3 ki13_1 ki13_2 ki13_3 ki14_1 ki14_2 ki14_3 ki28_0 ki28_1 ki31_0 ki31_1 ki32_0 ki32_1 ki33_0 ki33_1 ki34_0 ki34_1 ki35_0 ki35_1 ki36_0 ki36_1)
  have hAe : ∀ i j, i < 40 → j < 40 → (A i = A j ↔ i = j) := hA
  have hta : ∀ i, i < 40 → (A i = g_t h) = False := fun i hi => eq_false (fun z => by have := kt i hi; omega)
  have hta2 : ∀ i, i < 40 → (g_t h = A i) = False := fun i hi => eq_false (fun z => by have := kt i hi; omega)
  have hzt : g_z h ≤ g_t h := Nat.le_trans (kz 0 (by decide)) (Nat.le_of_lt (kt 0 (by decide)))
  obtain ⟨⟨p1, p2, p3, p4⟩, pm⟩ := vp
  replace p1 := p1.symm
  replace p2 := p2.symm
  replace p3 := p3.symm
  replace p4 := p4.symm
  by_cases pd : g_i h (A 0) 6 = 0
  all_goals
    simp only [o219_0, o219_1, o219_2, o219_5, o219_6, o219_8, o219_11, o219_12, o219_15, o219_16, o219_19, o219_22, o219_23, o219_24, o219_26, o219_28, o219_29, o219_30, o219_31, o219_34, o219_37, o219_38, o219_39, o219_40, o219_41, o219_44, o219_47, o219_48, o219_49, o219_50, o219_51, o219_54, o219_57, o219_58, o219_59, o219_60, o219_62, o219_63, o219_64, o219_65, o219_66, o219_69, o219_72, o219_73, o219_74, o219_75, o219_76, o219_79, o219_82, o219_83, o219_86, o219_87, o219_88, o219_89, o219_91, o219_92, o219_93, o219_94, o219_96, o219_97, o219_100, o219_101, o219_102, o219_103, o219_104, o219_105, o218_0, o218_1, o218_4, o218_7, o218_8, o218_11, o218_14, o218_17, o218_18, o218_21, o218_24, c_X8_isThrown__, c_X7_rests, mc_pi, mc_pN, mn_pi, mn_pN, mi_pi, mi_pN, mr_pi, mr_pN, mt_pi, mz_pi, mz_pN, mcs_0, mcs_i, mcs_r, Kn_v, mrf_some, true_and, and_true, and_false, not_true_eq_false, not_false_eq_true, false_implies, forall_const, if_true, if_false, and_self, Nat.reduceEqDiff, Nat.reduceLeDiff, Nat.reduceSub, Nat.reduceAdd, Nat.zero_le, Nat.le_refl, i10, lt_le, Int32.reduceLT, cl0, cl1, cl2, cl3, cl4, cl5, cl6, cl7, cl8, Nat.reduceLT, hAe, kc22, kc28, kr22_5, kz, hta, hta2, hzt, vpk, Int32.reduceLT, p1, p2, p3, p4, pd] at hQ ⊢
    exact hQ _ (show Fr (p_i h (A 22) 9 0) _ from (Fr_pi (Fr_pi (Fr_pi (Fr_pi (Fr_pi (Fr_pi (Fr_pi (Fr_pi (Fr_pN Fr_rfl) (Nat.le_refl _)) (Nat.le_refl _)) (Nat.le_refl _)) (Nat.le_refl _)) (Nat.le_refl _)) (Nat.le_refl _)) (Nat.le_refl _)) (Nat.le_refl _)))

theorem m_piX3 {A : Nat → Nat} {h : MH} {Q : MR → MH → Prop} (R : Rl A h) (hQ : ∀ m, Fr (p_i h (A 22) 9 0) m → Q (.inl (some (.int (10)))) m) : Ok 219 0 [.ref (A 22), .int 3, mk0] [] h 1 8 Q := by
  have R0 := R
  obtain ⟨vk, vcn, v0, v1, v2, vp, vl0, vl1, vlr, vsr, vc, tx⟩ := R0
  have vk0 := vk
  have vcn0 := vcn
  (refine K_el vk0 ?_; intros hA kc0 kc1 kc2 kc3 kc4 kc5 kc6 kc7 kc8 kc9 kc10 kc11 kc12 kc13 kc14 kc15 kc16 kc17 kc18 kc19 kc20 kc21 kc22 kc23 kc24 kc25 kc26 kc27 kc28 kc29 kc30 kc31 kc32 kc33 kc34 kc35 kc36 kc37 kc38 kc39 kz kt kn3 kn4 kn18 kn21 kn23 kn24 kn25 kn26 kn27 kn29 kn30 kr0_0 kr0_1 kr0_2 kr0_3 kr0_4 kr0_5 kr0_7 kr0_8 kr0_9 kr0_10 kr1_0 kr2_0 kr5_0 kr5_1 kr6_0 kr6_1 kr7_0 kr7_1 kr8_0 kr9_0 kr10_0 kr11_0 kr12_0 kr13_0 kr14_0 kr15_0 kr16_0 kr17_0 kr19_0 kr19_1 kr22_0 kr22_1 kr22_2 kr22_3 kr22_4 kr22_5 kr22_7 kr22_8 kr25_0 kr25_1 kr25_2 kr26_0 kr26_1 kr26_2 kr29_0 kr29_1)
  (refine Cn_el vcn0 ?_; intros ki5_2 ki6_2 ki7_2 ki8_1 ki8_2 ki8_3 ki9_1 ki9_2 ki9_3 ki10_1 ki10_2 ki10_3 ki11_1 ki11_2 ki11_3 ki12_1 ki12_2 ki12_3 ki13_1 ki13_2 ki13_3 ki14_1 ki14_2 ki14_3 ki28_0 ki28_1 ki31_0 ki31_1 ki32_0 ki32_1 ki33_0 ki33_1 ki34_0 ki34_1 ki35_0 ki35_1 ki36_0 ki36_1)
  have hAe : ∀ i j, i < 40 → j < 40 → (A i = A j ↔ i = j) := hA
  have hta : ∀ i, i < 40 → (A i = g_t h) = False := fun i hi => eq_false (fun z => by have := kt i hi; omega)
  have hta2 : ∀ i, i < 40 → (g_t h = A i) = False := fun i hi => eq_false (fun z => by have := kt i hi; omega)
  have hzt : g_z h ≤ g_t h := Nat.le_trans (kz 0 (by decide)) (Nat.le_of_lt (kt 0 (by decide)))
  obtain ⟨⟨p1, p2, p3, p4⟩, pm⟩ := vp
  replace p1 := p1.symm
  replace p2 := p2.symm
  replace p3 := p3.symm
  replace p4 := p4.symm
  by_cases pd : g_i h (A 0) 6 = 0
  all_goals
    simp only [o219_0, o219_1, o219_2, o219_5, o219_6, o219_8, o219_11, o219_12, o219_15, o219_16, o219_19, o219_22, o219_23, o219_24, o219_26, o219_28, o219_29, o219_30, o219_31, o219_34, o219_37, o219_38, o219_39, o219_40, o219_41, o219_44, o219_47, o219_48, o219_49, o219_50, o219_51, o219_54, o219_57, o219_58, o219_59, o219_60, o219_62, o219_63, o219_64, o219_65, o219_66, o219_69, o219_72, o219_73, o219_74, o219_75, o219_76, o219_79, o219_82, o219_83, o219_86, o219_87, o219_88, o219_89, o219_91, o219_92, o219_93, o219_94, o219_96, o219_97, o219_100, o219_101, o219_102, o219_103, o219_104, o219_105, o218_0, o218_1, o218_4, o218_7, o218_8, o218_11, o218_14, o218_17, o218_18, o218_21, o218_24, c_X8_isThrown__, c_X7_rests, mc_pi, mc_pN, mn_pi, mn_pN, mi_pi, mi_pN, mr_pi, mr_pN, mt_pi, mz_pi, mz_pN, mcs_0, mcs_i, mcs_r, Kn_v, mrf_some, true_and, and_true, and_false, not_true_eq_false, not_false_eq_true, false_implies, forall_const, if_true, if_false, and_self, Nat.reduceEqDiff, Nat.reduceLeDiff, Nat.reduceSub, Nat.reduceAdd, Nat.zero_le, Nat.le_refl, i10, lt_le, Int32.reduceLT, cl0, cl1, cl2, cl3, cl4, cl5, cl6, cl7, cl8, Nat.reduceLT, hAe, kc22, kc28, kr22_5, kz, hta, hta2, hzt, vpk, Int32.reduceLT, p1, p2, p3, p4, pd] at hQ ⊢
    exact hQ _ (show Fr (p_i h (A 22) 9 0) _ from (Fr_pi (Fr_pi (Fr_pi (Fr_pi (Fr_pi (Fr_pi (Fr_pi (Fr_pi (Fr_pN Fr_rfl) (Nat.le_refl _)) (Nat.le_refl _)) (Nat.le_refl _)) (Nat.le_refl _)) (Nat.le_refl _)) (Nat.le_refl _)) (Nat.le_refl _)) (Nat.le_refl _)))

theorem m_piX4 {A : Nat → Nat} {h : MH} {Q : MR → MH → Prop} (R : Rl A h) (hQ : ∀ m, Fr (p_i h (A 22) 9 0) m → Q (.inl (some (.int (g_i h (A 14) 6)))) m) : Ok 219 0 [.ref (A 22), .int 4, mk0] [] h 1 8 Q := by
  have R0 := R
  obtain ⟨vk, vcn, v0, v1, v2, vp, vl0, vl1, vlr, vsr, vc, tx⟩ := R0
  have vk0 := vk
  have vcn0 := vcn
  (refine K_el vk0 ?_; intros hA kc0 kc1 kc2 kc3 kc4 kc5 kc6 kc7 kc8 kc9 kc10 kc11 kc12 kc13 kc14 kc15 kc16 kc17 kc18 kc19 kc20 kc21 kc22 kc23 kc24 kc25 kc26 kc27 kc28 kc29 kc30 kc31 kc32 kc33 kc34 kc35 kc36 kc37 kc38 kc39 kz kt kn3 kn4 kn18 kn21 kn23 kn24 kn25 kn26 kn27 kn29 kn30 kr0_0 kr0_1 kr0_2 kr0_3 kr0_4 kr0_5 kr0_7 kr0_8 kr0_9 kr0_10 kr1_0 kr2_0 kr5_0 kr5_1 kr6_0 kr6_1 kr7_0 kr7_1 kr8_0 kr9_0 kr10_0 kr11_0 kr12_0 kr13_0 kr14_0 kr15_0 kr16_0 kr17_0 kr19_0 kr19_1 kr22_0 kr22_1 kr22_2 kr22_3 kr22_4 kr22_5 kr22_7 kr22_8 kr25_0 kr25_1 kr25_2 kr26_0 kr26_1 kr26_2 kr29_0 kr29_1)
  (refine Cn_el vcn0 ?_; intros ki5_2 ki6_2 ki7_2 ki8_1 ki8_2 ki8_3 ki9_1 ki9_2 ki9_3 ki10_1 ki10_2 ki10_3 ki11_1 ki11_2 ki11_3 ki12_1 ki12_2 ki12_3 ki13_1 ki13_2 ki13_3 ki14_1 ki14_2 ki14_3 ki28_0 ki28_1 ki31_0 ki31_1 ki32_0 ki32_1 ki33_0 ki33_1 ki34_0 ki34_1 ki35_0 ki35_1 ki36_0 ki36_1)
  have hAe : ∀ i j, i < 40 → j < 40 → (A i = A j ↔ i = j) := hA
  have hta : ∀ i, i < 40 → (A i = g_t h) = False := fun i hi => eq_false (fun z => by have := kt i hi; omega)
  have hta2 : ∀ i, i < 40 → (g_t h = A i) = False := fun i hi => eq_false (fun z => by have := kt i hi; omega)
  have hzt : g_z h ≤ g_t h := Nat.le_trans (kz 0 (by decide)) (Nat.le_of_lt (kt 0 (by decide)))
  obtain ⟨⟨p1, p2, p3, p4⟩, pm⟩ := vp
  replace p1 := p1.symm
  replace p2 := p2.symm
  replace p3 := p3.symm
  replace p4 := p4.symm
  by_cases pd : g_i h (A 0) 6 = 0
  all_goals
    simp only [o219_0, o219_1, o219_2, o219_5, o219_6, o219_8, o219_11, o219_12, o219_15, o219_16, o219_19, o219_22, o219_23, o219_24, o219_26, o219_28, o219_29, o219_30, o219_31, o219_34, o219_37, o219_38, o219_39, o219_40, o219_41, o219_44, o219_47, o219_48, o219_49, o219_50, o219_51, o219_54, o219_57, o219_58, o219_59, o219_60, o219_62, o219_63, o219_64, o219_65, o219_66, o219_69, o219_72, o219_73, o219_74, o219_75, o219_76, o219_79, o219_82, o219_83, o219_86, o219_87, o219_88, o219_89, o219_91, o219_92, o219_93, o219_94, o219_96, o219_97, o219_100, o219_101, o219_102, o219_103, o219_104, o219_105, o218_0, o218_1, o218_4, o218_7, o218_8, o218_11, o218_14, o218_17, o218_18, o218_21, o218_24, c_X8_isThrown__, c_X7_rests, mc_pi, mc_pN, mn_pi, mn_pN, mi_pi, mi_pN, mr_pi, mr_pN, mt_pi, mz_pi, mz_pN, mcs_0, mcs_i, mcs_r, Kn_v, mrf_some, true_and, and_true, and_false, not_true_eq_false, not_false_eq_true, false_implies, forall_const, if_true, if_false, and_self, Nat.reduceEqDiff, Nat.reduceLeDiff, Nat.reduceSub, Nat.reduceAdd, Nat.zero_le, Nat.le_refl, i10, lt_le, Int32.reduceLT, cl0, cl1, cl2, cl3, cl4, cl5, cl6, cl7, cl8, Nat.reduceLT, hAe, kc22, kc28, kr22_5, kz, hta, hta2, hzt, vpk, Int32.reduceLT, p1, p2, p3, p4, pd] at hQ ⊢
    exact hQ _ (show Fr (p_i h (A 22) 9 0) _ from (Fr_pi (Fr_pi (Fr_pi (Fr_pi (Fr_pi (Fr_pi (Fr_pi (Fr_pi (Fr_pN Fr_rfl) (Nat.le_refl _)) (Nat.le_refl _)) (Nat.le_refl _)) (Nat.le_refl _)) (Nat.le_refl _)) (Nat.le_refl _)) (Nat.le_refl _)) (Nat.le_refl _)))

theorem m_piX5 {A : Nat → Nat} {h : MH} {Q : MR → MH → Prop} (R : Rl A h) (hQ : ∀ m, Fr (p_i h (A 22) 9 0) m → Q (.inl (some (.int (if g_i h (A 0) 6 = 0 then 0 else 1)))) m) : Ok 219 0 [.ref (A 22), .int 5, mk0] [] h 1 8 Q := by
  have R0 := R
  obtain ⟨vk, vcn, v0, v1, v2, vp, vl0, vl1, vlr, vsr, vc, tx⟩ := R0
  have vk0 := vk
  have vcn0 := vcn
  (refine K_el vk0 ?_; intros hA kc0 kc1 kc2 kc3 kc4 kc5 kc6 kc7 kc8 kc9 kc10 kc11 kc12 kc13 kc14 kc15 kc16 kc17 kc18 kc19 kc20 kc21 kc22 kc23 kc24 kc25 kc26 kc27 kc28 kc29 kc30 kc31 kc32 kc33 kc34 kc35 kc36 kc37 kc38 kc39 kz kt kn3 kn4 kn18 kn21 kn23 kn24 kn25 kn26 kn27 kn29 kn30 kr0_0 kr0_1 kr0_2 kr0_3 kr0_4 kr0_5 kr0_7 kr0_8 kr0_9 kr0_10 kr1_0 kr2_0 kr5_0 kr5_1 kr6_0 kr6_1 kr7_0 kr7_1 kr8_0 kr9_0 kr10_0 kr11_0 kr12_0 kr13_0 kr14_0 kr15_0 kr16_0 kr17_0 kr19_0 kr19_1 kr22_0 kr22_1 kr22_2 kr22_3 kr22_4 kr22_5 kr22_7 kr22_8 kr25_0 kr25_1 kr25_2 kr26_0 kr26_1 kr26_2 kr29_0 kr29_1)
  (refine Cn_el vcn0 ?_; intros ki5_2 ki6_2 ki7_2 ki8_1 ki8_2 ki8_3 ki9_1 ki9_2 ki9_3 ki10_1 ki10_2 ki10_3 ki11_1 ki11_2 ki11_3 ki12_1 ki12_2 ki12_3 ki13_1 ki13_2 ki13_3 ki14_1 ki14_2 ki14_3 ki28_0 ki28_1 ki31_0 ki31_1 ki32_0 ki32_1 ki33_0 ki33_1 ki34_0 ki34_1 ki35_0 ki35_1 ki36_0 ki36_1)
  have hAe : ∀ i j, i < 40 → j < 40 → (A i = A j ↔ i = j) := hA
  have hta : ∀ i, i < 40 → (A i = g_t h) = False := fun i hi => eq_false (fun z => by have := kt i hi; omega)
  have hta2 : ∀ i, i < 40 → (g_t h = A i) = False := fun i hi => eq_false (fun z => by have := kt i hi; omega)
  have hzt : g_z h ≤ g_t h := Nat.le_trans (kz 0 (by decide)) (Nat.le_of_lt (kt 0 (by decide)))
  obtain ⟨⟨p1, p2, p3, p4⟩, pm⟩ := vp
  replace p1 := p1.symm
  replace p2 := p2.symm
  replace p3 := p3.symm
  replace p4 := p4.symm
  by_cases pd : g_i h (A 0) 6 = 0
  all_goals
    simp only [o219_0, o219_1, o219_2, o219_5, o219_6, o219_8, o219_11, o219_12, o219_15, o219_16, o219_19, o219_22, o219_23, o219_24, o219_26, o219_28, o219_29, o219_30, o219_31, o219_34, o219_37, o219_38, o219_39, o219_40, o219_41, o219_44, o219_47, o219_48, o219_49, o219_50, o219_51, o219_54, o219_57, o219_58, o219_59, o219_60, o219_62, o219_63, o219_64, o219_65, o219_66, o219_69, o219_72, o219_73, o219_74, o219_75, o219_76, o219_79, o219_82, o219_83, o219_86, o219_87, o219_88, o219_89, o219_91, o219_92, o219_93, o219_94, o219_96, o219_97, o219_100, o219_101, o219_102, o219_103, o219_104, o219_105, o218_0, o218_1, o218_4, o218_7, o218_8, o218_11, o218_14, o218_17, o218_18, o218_21, o218_24, c_X8_isThrown__, c_X7_rests, mc_pi, mc_pN, mn_pi, mn_pN, mi_pi, mi_pN, mr_pi, mr_pN, mt_pi, mz_pi, mz_pN, mcs_0, mcs_i, mcs_r, Kn_v, mrf_some, true_and, and_true, and_false, not_true_eq_false, not_false_eq_true, false_implies, forall_const, if_true, if_false, and_self, Nat.reduceEqDiff, Nat.reduceLeDiff, Nat.reduceSub, Nat.reduceAdd, Nat.zero_le, Nat.le_refl, i10, lt_le, Int32.reduceLT, cl0, cl1, cl2, cl3, cl4, cl5, cl6, cl7, cl8, Nat.reduceLT, hAe, kc22, kc28, kr22_5, kz, hta, hta2, hzt, vpk, Int32.reduceLT, p1, p2, p3, p4, pd] at hQ ⊢
    exact hQ _ (show Fr (p_i h (A 22) 9 0) _ from (Fr_pi (Fr_pi (Fr_pi (Fr_pi (Fr_pi (Fr_pi (Fr_pi (Fr_pi (Fr_pN Fr_rfl) (Nat.le_refl _)) (Nat.le_refl _)) (Nat.le_refl _)) (Nat.le_refl _)) (Nat.le_refl _)) (Nat.le_refl _)) (Nat.le_refl _)) (Nat.le_refl _)))

theorem m_piX6 {A : Nat → Nat} {h : MH} {Q : MR → MH → Prop} (R : Rl A h) (hQ : ∀ m, Fr (p_i h (A 22) 9 0) m → Q (.inl (some (.int (1)))) m) : Ok 219 0 [.ref (A 22), .int 6, mk0] [] h 1 8 Q := by
  have R0 := R
  obtain ⟨vk, vcn, v0, v1, v2, vp, vl0, vl1, vlr, vsr, vc, tx⟩ := R0
  have vk0 := vk
  have vcn0 := vcn
  (refine K_el vk0 ?_; intros hA kc0 kc1 kc2 kc3 kc4 kc5 kc6 kc7 kc8 kc9 kc10 kc11 kc12 kc13 kc14 kc15 kc16 kc17 kc18 kc19 kc20 kc21 kc22 kc23 kc24 kc25 kc26 kc27 kc28 kc29 kc30 kc31 kc32 kc33 kc34 kc35 kc36 kc37 kc38 kc39 kz kt kn3 kn4 kn18 kn21 kn23 kn24 kn25 kn26 kn27 kn29 kn30 kr0_0 kr0_1 kr0_2 kr0_3 kr0_4 kr0_5 kr0_7 kr0_8 kr0_9 kr0_10 kr1_0 kr2_0 kr5_0 kr5_1 kr6_0 kr6_1 kr7_0 kr7_1 kr8_0 kr9_0 kr10_0 kr11_0 kr12_0 kr13_0 kr14_0 kr15_0 kr16_0 kr17_0 kr19_0 kr19_1 kr22_0 kr22_1 kr22_2 kr22_3 kr22_4 kr22_5 kr22_7 kr22_8 kr25_0 kr25_1 kr25_2 kr26_0 kr26_1 kr26_2 kr29_0 kr29_1)
  (refine Cn_el vcn0 ?_; intros ki5_2 ki6_2 ki7_2 ki8_1 ki8_2 ki8_3 ki9_1 ki9_2 ki9_3 ki10_1 ki10_2 ki10_3 ki11_1 ki11_2 ki11_3 ki12_1 ki12_2 ki12_3 ki13_1 ki13_2 ki13_3 ki14_1 ki14_2 ki14_3 ki28_0 ki28_1 ki31_0 ki31_1 ki32_0 ki32_1 ki33_0 ki33_1 ki34_0 ki34_1 ki35_0 ki35_1 ki36_0 ki36_1)
  have hAe : ∀ i j, i < 40 → j < 40 → (A i = A j ↔ i = j) := hA
  have hta : ∀ i, i < 40 → (A i = g_t h) = False := fun i hi => eq_false (fun z => by have := kt i hi; omega)
  have hta2 : ∀ i, i < 40 → (g_t h = A i) = False := fun i hi => eq_false (fun z => by have := kt i hi; omega)
  have hzt : g_z h ≤ g_t h := Nat.le_trans (kz 0 (by decide)) (Nat.le_of_lt (kt 0 (by decide)))
  obtain ⟨⟨p1, p2, p3, p4⟩, pm⟩ := vp
  replace p1 := p1.symm
  replace p2 := p2.symm
  replace p3 := p3.symm
  replace p4 := p4.symm
  by_cases pd : g_i h (A 0) 6 = 0
  all_goals
    simp only [o219_0, o219_1, o219_2, o219_5, o219_6, o219_8, o219_11, o219_12, o219_15, o219_16, o219_19, o219_22, o219_23, o219_24, o219_26, o219_28, o219_29, o219_30, o219_31, o219_34, o219_37, o219_38, o219_39, o219_40, o219_41, o219_44, o219_47, o219_48, o219_49, o219_50, o219_51, o219_54, o219_57, o219_58, o219_59, o219_60, o219_62, o219_63, o219_64, o219_65, o219_66, o219_69, o219_72, o219_73, o219_74, o219_75, o219_76, o219_79, o219_82, o219_83, o219_86, o219_87, o219_88, o219_89, o219_91, o219_92, o219_93, o219_94, o219_96, o219_97, o219_100, o219_101, o219_102, o219_103, o219_104, o219_105, o218_0, o218_1, o218_4, o218_7, o218_8, o218_11, o218_14, o218_17, o218_18, o218_21, o218_24, c_X8_isThrown__, c_X7_rests, mc_pi, mc_pN, mn_pi, mn_pN, mi_pi, mi_pN, mr_pi, mr_pN, mt_pi, mz_pi, mz_pN, mcs_0, mcs_i, mcs_r, Kn_v, mrf_some, true_and, and_true, and_false, not_true_eq_false, not_false_eq_true, false_implies, forall_const, if_true, if_false, and_self, Nat.reduceEqDiff, Nat.reduceLeDiff, Nat.reduceSub, Nat.reduceAdd, Nat.zero_le, Nat.le_refl, i10, lt_le, Int32.reduceLT, cl0, cl1, cl2, cl3, cl4, cl5, cl6, cl7, cl8, Nat.reduceLT, hAe, kc22, kc28, kr22_5, kz, hta, hta2, hzt, vpk, Int32.reduceLT, p1, p2, p3, p4, pd] at hQ ⊢
    exact hQ _ (show Fr (p_i h (A 22) 9 0) _ from (Fr_pi (Fr_pi (Fr_pi (Fr_pi (Fr_pi (Fr_pi (Fr_pi (Fr_pi (Fr_pN Fr_rfl) (Nat.le_refl _)) (Nat.le_refl _)) (Nat.le_refl _)) (Nat.le_refl _)) (Nat.le_refl _)) (Nat.le_refl _)) (Nat.le_refl _)) (Nat.le_refl _)))

theorem m_piX7 {A : Nat → Nat} {h : MH} {Q : MR → MH → Prop} (R : Rl A h) (hQ : ∀ m, Fr (p_i h (A 22) 9 0) m → Q (.inl (some (.int (if g_i h (A 0) 6 = 0 then g_i h (A 14) 4 else g_i h (A 14) 5 - g_i h (A 14) 4)))) m) : Ok 219 0 [.ref (A 22), .int 7, mk0] [] h 1 8 Q := by
  have R0 := R
  obtain ⟨vk, vcn, v0, v1, v2, vp, vl0, vl1, vlr, vsr, vc, tx⟩ := R0
  have vk0 := vk
  have vcn0 := vcn
  (refine K_el vk0 ?_; intros hA kc0 kc1 kc2 kc3 kc4 kc5 kc6 kc7 kc8 kc9 kc10 kc11 kc12 kc13 kc14 kc15 kc16 kc17 kc18 kc19 kc20 kc21 kc22 kc23 kc24 kc25 kc26 kc27 kc28 kc29 kc30 kc31 kc32 kc33 kc34 kc35 kc36 kc37 kc38 kc39 kz kt kn3 kn4 kn18 kn21 kn23 kn24 kn25 kn26 kn27 kn29 kn30 kr0_0 kr0_1 kr0_2 kr0_3 kr0_4 kr0_5 kr0_7 kr0_8 kr0_9 kr0_10 kr1_0 kr2_0 kr5_0 kr5_1 kr6_0 kr6_1 kr7_0 kr7_1 kr8_0 kr9_0 kr10_0 kr11_0 kr12_0 kr13_0 kr14_0 kr15_0 kr16_0 kr17_0 kr19_0 kr19_1 kr22_0 kr22_1 kr22_2 kr22_3 kr22_4 kr22_5 kr22_7 kr22_8 kr25_0 kr25_1 kr25_2 kr26_0 kr26_1 kr26_2 kr29_0 kr29_1)
  (refine Cn_el vcn0 ?_; intros ki5_2 ki6_2 ki7_2 ki8_1 ki8_2 ki8_3 ki9_1 ki9_2 ki9_3 ki10_1 ki10_2 ki10_3 ki11_1 ki11_2 ki11_3 ki12_1 ki12_2 ki12_3 ki13_1 ki13_2 ki13_3 ki14_1 ki14_2 ki14_3 ki28_0 ki28_1 ki31_0 ki31_1 ki32_0 ki32_1 ki33_0 ki33_1 ki34_0 ki34_1 ki35_0 ki35_1 ki36_0 ki36_1)
  have hAe : ∀ i j, i < 40 → j < 40 → (A i = A j ↔ i = j) := hA
  have hta : ∀ i, i < 40 → (A i = g_t h) = False := fun i hi => eq_false (fun z => by have := kt i hi; omega)
  have hta2 : ∀ i, i < 40 → (g_t h = A i) = False := fun i hi => eq_false (fun z => by have := kt i hi; omega)
  have hzt : g_z h ≤ g_t h := Nat.le_trans (kz 0 (by decide)) (Nat.le_of_lt (kt 0 (by decide)))
  obtain ⟨⟨p1, p2, p3, p4⟩, pm⟩ := vp
  replace p1 := p1.symm
  replace p2 := p2.symm
  replace p3 := p3.symm
  replace p4 := p4.symm
  by_cases pd : g_i h (A 0) 6 = 0
  all_goals
    simp only [o219_0, o219_1, o219_2, o219_5, o219_6, o219_8, o219_11, o219_12, o219_15, o219_16, o219_19, o219_22, o219_23, o219_24, o219_26, o219_28, o219_29, o219_30, o219_31, o219_34, o219_37, o219_38, o219_39, o219_40, o219_41, o219_44, o219_47, o219_48, o219_49, o219_50, o219_51, o219_54, o219_57, o219_58, o219_59, o219_60, o219_62, o219_63, o219_64, o219_65, o219_66, o219_69, o219_72, o219_73, o219_74, o219_75, o219_76, o219_79, o219_82, o219_83, o219_86, o219_87, o219_88, o219_89, o219_91, o219_92, o219_93, o219_94, o219_96, o219_97, o219_100, o219_101, o219_102, o219_103, o219_104, o219_105, o218_0, o218_1, o218_4, o218_7, o218_8, o218_11, o218_14, o218_17, o218_18, o218_21, o218_24, c_X8_isThrown__, c_X7_rests, mc_pi, mc_pN, mn_pi, mn_pN, mi_pi, mi_pN, mr_pi, mr_pN, mt_pi, mz_pi, mz_pN, mcs_0, mcs_i, mcs_r, Kn_v, mrf_some, true_and, and_true, and_false, not_true_eq_false, not_false_eq_true, false_implies, forall_const, if_true, if_false, and_self, Nat.reduceEqDiff, Nat.reduceLeDiff, Nat.reduceSub, Nat.reduceAdd, Nat.zero_le, Nat.le_refl, i10, lt_le, Int32.reduceLT, cl0, cl1, cl2, cl3, cl4, cl5, cl6, cl7, cl8, Nat.reduceLT, hAe, kc22, kc28, kr22_5, kz, hta, hta2, hzt, vpk, Int32.reduceLT, p1, p2, p3, p4, pd] at hQ ⊢
    exact hQ _ (show Fr (p_i h (A 22) 9 0) _ from (Fr_pi (Fr_pi (Fr_pi (Fr_pi (Fr_pi (Fr_pi (Fr_pi (Fr_pi (Fr_pN Fr_rfl) (Nat.le_refl _)) (Nat.le_refl _)) (Nat.le_refl _)) (Nat.le_refl _)) (Nat.le_refl _)) (Nat.le_refl _)) (Nat.le_refl _)) (Nat.le_refl _)))


section
set_option maxRecDepth 16384
theorem m_piX0 {A : Nat → Nat} {h : MH} {Q : MR → MH → Prop} (R : Rl A h) (hQ : ∀ m, Fr (p_i h (A 22) 9 0) m → Q (.inl (some (.int (g_i h (A 14) 4)))) m) : Ok 219 0 [.ref (A 22), .int 0, mk0] [] h 1 8 Q := by
  have R0 := R
  obtain ⟨vk, vcn, v0, v1, v2, vp, vl0, vl1, vlr, vsr, vc, tx⟩ := R0
  have vk0 := vk
  have vcn0 := vcn
  (refine K_el vk0 ?_; intros hA kc0 kc1 kc2 kc3 kc4 kc5 kc6 kc7 kc8 kc9 kc10 kc11 kc12 kc13 kc14 kc15 kc16 kc17 kc18 kc19 kc20 kc21 kc22 kc23 kc24 kc25 kc26 kc27 kc28 kc29 kc30 kc31 kc32 kc33 kc34 kc35 kc36 kc37 kc38 kc39 kz kt kn3 kn4 kn18 kn21 kn23 kn24 kn25 kn26 kn27 kn29 kn30 kr0_0 kr0_1 kr0_2 kr0_3 kr0_4 kr0_5 kr0_7 kr0_8 kr0_9 kr0_10 kr1_0 kr2_0 kr5_0 kr5_1 kr6_0 kr6_1 kr7_0 kr7_1 kr8_0 kr9_0 kr10_0 kr11_0 kr12_0 kr13_0 kr14_0 kr15_0 kr16_0 kr17_0 kr19_0 kr19_1 kr22_0 kr22_1 kr22_2 kr22_3 kr22_4 kr22_5 kr22_7 kr22_8 kr25_0 kr25_1 kr25_2 kr26_0 kr26_1 kr26_2 kr29_0 kr29_1)
  (refine Cn_el vcn0 ?_; intros ki5_2 ki6_2 ki7_2 ki8_1 ki8_2 ki8_3 ki9_1 ki9_2 ki9_3 ki10_1 ki10_2 ki10_3 ki11_1 ki11_2 ki11_3 ki12_1 ki12_2 ki12_3 ki13_1 ki13_2 ki13_3 ki14_1 ki14_2 ki14_3 ki28_0 ki28_1 ki31_0 ki31_1 ki32_0 ki32_1 ki33_0 ki33_1 ki34_0 ki34_1 ki35_0 ki35_1 ki36_0 ki36_1)
  have hAe : ∀ i j, i < 40 → j < 40 → (A i = A j ↔ i = j) := hA
  have hta : ∀ i, i < 40 → (A i = g_t h) = False := fun i hi => eq_false (fun z => by have := kt i hi; omega)
  have hta2 : ∀ i, i < 40 → (g_t h = A i) = False := fun i hi => eq_false (fun z => by have := kt i hi; omega)
  have hzt : g_z h ≤ g_t h := Nat.le_trans (kz 0 (by decide)) (Nat.le_of_lt (kt 0 (by decide)))
  obtain ⟨⟨p1, p2, p3, p4⟩, pm⟩ := vp
  replace p1 := p1.symm
  replace p2 := p2.symm
  replace p3 := p3.symm
  replace p4 := p4.symm
  by_cases pd : g_i h (A 0) 6 = 0
  all_goals
    simp only [o219_0, o219_1, o219_2, o219_5, o219_6, o219_8, o219_11, o219_12, o219_15, o219_16, o219_19, o219_22, o219_23, o219_24, o219_26, o219_28, o219_29, o219_30, o219_31, o219_34, o219_37, o219_38, o219_39, o219_40, o219_41, o219_44, o219_47, o219_48, o219_49, o219_50, o219_51, o219_54, o219_57, o219_58, o219_59, o219_60, o219_62, o219_63, o219_64, o219_65, o219_66, o219_69, o219_72, o219_73, o219_74, o219_75, o219_76, o219_79, o219_82, o219_83, o219_86, o219_87, o219_88, o219_89, o219_91, o219_92, o219_93, o219_94, o219_96, o219_97, o219_100, o219_101, o219_102, o219_103, o219_104, o219_105, o218_0, o218_1, o218_4, o218_7, o218_8, o218_11, o218_14, o218_17, o218_18, o218_21, o218_24, c_X8_isThrown__, c_X7_rests, mc_pi, mc_pN, mn_pi, mn_pN, mi_pi, mi_pN, mr_pi, mr_pN, mt_pi, mz_pi, mz_pN, mcs_0, mcs_i, mcs_r, Kn_v, mrf_some, true_and, and_true, and_false, not_true_eq_false, not_false_eq_true, false_implies, forall_const, if_true, if_false, and_self, Nat.reduceEqDiff, Nat.reduceLeDiff, Nat.reduceSub, Nat.reduceAdd, Nat.zero_le, Nat.le_refl, i10, lt_le, Int32.reduceLT, cl0, cl1, cl2, cl3, cl4, cl5, cl6, cl7, cl8, Nat.reduceLT, hAe, kc22, kc28, kr22_5, kz, hta, hta2, hzt, vpk, Int32.reduceLT, p1, p2, p3, p4, pd] at hQ ⊢
    exact hQ _ (show Fr (p_i h (A 22) 9 0) _ from (Fr_pi (Fr_pi (Fr_pi (Fr_pi (Fr_pi (Fr_pi (Fr_pi (Fr_pi (Fr_pN Fr_rfl) (Nat.le_refl _)) (Nat.le_refl _)) (Nat.le_refl _)) (Nat.le_refl _)) (Nat.le_refl _)) (Nat.le_refl _)) (Nat.le_refl _)) (Nat.le_refl _)))

theorem m_piX1 {A : Nat → Nat} {h : MH} {Q : MR → MH → Prop} (R : Rl A h) (hQ : ∀ m, Fr (p_i h (A 22) 9 0) m → Q (.inl (some (.int (g_i h (A 14) 5)))) m) : Ok 219 0 [.ref (A 22), .int 1, mk0] [] h 1 8 Q := by
  have R0 := R
  obtain ⟨vk, vcn, v0, v1, v2, vp, vl0, vl1, vlr, vsr, vc, tx⟩ := R0
  have vk0 := vk
  have vcn0 := vcn
  (refine K_el vk0 ?_; intros hA kc0 kc1 kc2 kc3 kc4 kc5 kc6 kc7 kc8 kc9 kc10 kc11 kc12 kc13 kc14 kc15 kc16 kc17 kc18 kc19 kc20 kc21 kc22 kc23 kc24 kc25 kc26 kc27 kc28 kc29 kc30 kc31 kc32 kc33 kc34 kc35 kc36 kc37 kc38 kc39 kz kt kn3 kn4 kn18 kn21 kn23 kn24 kn25 kn26 kn27 kn29 kn30 kr0_0 kr0_1 kr0_2 kr0_3 kr0_4 kr0_5 kr0_7 kr0_8 kr0_9 kr0_10 kr1_0 kr2_0 kr5_0 kr5_1 kr6_0 kr6_1 kr7_0 kr7_1 kr8_0 kr9_0 kr10_0 kr11_0 kr12_0 kr13_0 kr14_0 kr15_0 kr16_0 kr17_0 kr19_0 kr19_1 kr22_0 kr22_1 kr22_2 kr22_3 kr22_4 kr22_5 kr22_7 kr22_8 kr25_0 kr25_1 kr25_2 kr26_0 kr26_1 kr26_2 kr29_0 kr29_1)
  (refine Cn_el vcn0 ?_; intros ki5_2 ki6_2 ki7_2 ki8_1 ki8_2 ki8_3 ki9_1 ki9_2 ki9_3 ki10_1 ki10_2 ki10_3 ki11_1 ki11_2 ki11_3 ki12_1 ki12_2 ki12_3 ki13_1 ki13_2 ki13_3 ki14_1 ki14_2 ki14_3 ki28_0 ki28_1 ki31_0 ki31_1 ki32_0 ki32_1 ki33_0 ki33_1 ki34_0 ki34_1 ki35_0 ki35_1 ki36_0 ki36_1)
  have hAe : ∀ i j, i < 40 → j < 40 → (A i = A j ↔ i = j) := hA
  have hta : ∀ i, i < 40 → (A i = g_t h) = False := fun i hi => eq_false (fun z => by have := kt i hi; omega)
  have hta2 : ∀ i, i < 40 → (g_t h = A i) = False := fun i hi => eq_false (fun z => by have := kt i hi; omega)
  have hzt : g_z h ≤ g_t h := Nat.le_trans (kz 0 (by decide)) (Nat.le_of_lt (kt 0 (by decide)))
  obtain ⟨⟨p1, p2, p3, p4⟩, pm⟩ := vp
  replace p1 := p1.symm
  replace p2 := p2.symm
  replace p3 := p3.symm
  replace p4 := p4.symm
  by_cases pd : g_i h (A 0) 6 = 0
  all_goals
    simp only [o219_0, o219_1, o219_2, o219_5, o219_6, o219_8, o219_11, o219_12, o219_15, o219_16, o219_19, o219_22, o219_23, o219_24, o219_26, o219_28, o219_29, o219_30, o219_31, o219_34, o219_37, o219_38, o219_39, o219_40, o219_41, o219_44, o219_47, o219_48, o219_49, o219_50, o219_51, o219_54, o219_57, o219_58, o219_59, o219_60, o219_62, o219_63, o219_64, o219_65, o219_66, o219_69, o219_72, o219_73, o219_74, o219_75, o219_76, o219_79, o219_82, o219_83, o219_86, o219_87, o219_88, o219_89, o219_91, o219_92, o219_93, o219_94, o219_96, o219_97, o219_100, o219_101, o219_102, o219_103, o219_104, o219_105, o218_0, o218_1, o218_4, o218_7, o218_8, o218_11, o218_14, o218_17, o218_18, o218_21, o218_24, c_X8_isThrown__, c_X7_rests, mc_pi, mc_pN, mn_pi, mn_pN, mi_pi, mi_pN, mr_pi, mr_pN, mt_pi, mz_pi, mz_pN, mcs_0, mcs_i, mcs_r, Kn_v, mrf_some, true_and, and_true, and_false, not_true_eq_false, not_false_eq_true, false_implies, forall_const, if_true, if_false, and_self, Nat.reduceEqDiff, Nat.reduceLeDiff, Nat.reduceSub, Nat.reduceAdd, Nat.zero_le, Nat.le_refl, i10, lt_le, Int32.reduceLT, cl0, cl1, cl2, cl3, cl4, cl5, cl6, cl7, cl8, Nat.reduceLT, hAe, kc22, kc28, kr22_5, kz, hta, hta2, hzt, vpk, Int32.reduceLT, p1, p2, p3, p4, pd] at hQ ⊢
    exact hQ _ (show Fr (p_i h (A 22) 9 0) _ from (Fr_pi (Fr_pi (Fr_pi (Fr_pi (Fr_pi (Fr_pi (Fr_pi (Fr_pi (Fr_pN Fr_rfl) (Nat.le_refl _)) (Nat.le_refl _)) (Nat.le_refl _)) (Nat.le_refl _)) (Nat.le_refl _)) (Nat.le_refl _)) (Nat.le_refl _)) (Nat.le_refl _)))

theorem m_piX2 {A : Nat → Nat} {h : MH} {Q : MR → MH → Prop} (R : Rl A h) (hQ : ∀ m, Fr (p_i h (A 22) 9 0) m → Q (.inl (some (.int (g_i h (A 14) 5 - g_i h (A 14) 4)))) m) : Ok 219 0 [.ref (A 22), .int 2, mk0] [] h 1 8 Q := by
  have R0 := R
  obtain ⟨vk, vcn, v0, v1, v2, vp, vl0, vl1, vlr, vsr, vc, tx⟩ := R0
  have vk0 := vk
  have vcn0 := vcn
  (refine K_el vk0 ?_; intros hA kc0 kc1 kc2 kc3 kc4 kc5 kc6 kc7 kc8 kc9 kc10 kc11 kc12 kc13 kc14 kc15 kc16 kc17 kc18 kc19 kc20 kc21 kc22 kc23 kc24 kc25 kc26 kc27 kc28 kc29 kc30 kc31 kc32 kc33 kc34 kc35 kc36 kc37 kc38 kc39 kz kt kn3 kn4 kn18 kn21 kn23 kn24 kn25 kn26 kn27 kn29 kn30 kr0_0 kr0_1 kr0_2 kr0_3 kr0_4 kr0_5 kr0_7 kr0_8 kr0_9 kr0_10 kr1_0 kr2_0 kr5_0 kr5_1 kr6_0 kr6_1 kr7_0 kr7_1 kr8_0 kr9_0 kr10_0 kr11_0 kr12_0 kr13_0 kr14_0 kr15_0 kr16_0 kr17_0 kr19_0 kr19_1 kr22_0 kr22_1 kr22_2 kr22_3 kr22_4 kr22_5 kr22_7 kr22_8 kr25_0 kr25_1 kr25_2 kr26_0 kr26_1 kr26_2 kr29_0 kr29_1)
  (refine Cn_el vcn0 ?_; intros ki5_2 ki6_2 ki7_2 ki8_1 ki8_2 ki8_3 ki9_1 ki9_2 ki9_3 ki10_1 ki10_2 ki10_3 ki11_1 ki11_2 ki11_3 ki12_1 ki12_2 ki12_3 ki13_1 ki13_2 ki13_3 ki14_1 ki14_2 ki14_3 ki28_0 ki28_1 ki31_0 ki31_1 ki32_0 ki32_1 ki33_0 ki33_1 ki34_0 ki34_1 ki35_0 ki35_1 ki36_0 ki36_1)
  have hAe : ∀ i j, i < 40 → j < 40 → (A i = A j ↔ i = j) := hA
  have hta : ∀ i, i < 40 → (A i = g_t h) = False := fun i hi => eq_false (fun z => by have := kt i hi; omega)
  have hta2 : ∀ i, i < 40 → (g_t h = A i) = False := fun i hi => eq_false (fun z => by have := kt i hi; omega)
  have hzt : g_z h ≤ g_t h := Nat.le_trans (kz 0 (by decide)) (Nat.le_of_lt (kt 0 (by decide)))
  obtain ⟨⟨p1, p2, p3, p4⟩, pm⟩ := vp
  replace p1 := p1.symm
  replace p2 := p2.symm
  replace p3 := p3.symm
  replace p4 := p4.symm
  by_cases pd : g_i h (A 0) 6 = 0
  all_goals
    simp only [o219_0, o219_1, o219_2, o219_5, o219_6, o219_8, o219_11, o219_12, o219_15, o219_16, o219_19, o219_22, o219_23, o219_24, o219_26, o219_28, o219_29, o219_30, o219_31, o219_34, o219_37, o219_38, o219_39, o219_40, o219_41, o219_44, o219_47, o219_48, o219_49, o219_50, o219_51, o219_54, o219_57, o219_58, o219_59, o219_60, o219_62, o219_63, o219_64, o219_65, o219_66, o219_69, o219_72, o219_73, o219_74, o219_75, o219_76, o219_79, o219_82, o219_83, o219_86, o219_87, o219_88, o219_89, o219_91, o219_92, o219_93, o219_94, o219_96, o219_97, o219_100, o219_101, o219_102, o219_103, o219_104, o219_105, o218_0, o218_1, o218_4, o218_7, o218_8, o218_11, o218_14, o218_17, o218_18, o218_21, o218_24, c_X8_isThrown__, c_X7_rests, mc_pi, mc_pN, mn_pi, mn_pN, mi_pi, mi_pN, mr_pi, mr_pN, mt_pi, mz_pi, mz_pN, mcs_0, mcs_i, mcs_r, Kn_v, mrf_some, true_and, and_true, and_false, not_true_eq_false, not_false_eq_true, false_implies, forall_const, if_true, if_false, and_self, Nat.reduceEqDiff, Nat.reduceLeDiff, Nat.reduceSub, Nat.reduceAdd, Nat.zero_le, Nat.le_refl, i10, lt_le, Int32.reduceLT, cl0, cl1, cl2, cl3, cl4, cl5, cl6, cl7, cl8, Nat.reduceLT, hAe, kc22, kc28, kr22_5, kz, hta, hta2, hzt, vpk, Int32.reduceLT, p1, p2, p3, p4, pd] at hQ ⊢
    exact hQ _ (show Fr (p_i h (A 22) 9 0) _ from (Fr_pi (Fr_pi (Fr_pi (Fr_pi (Fr_pi (Fr_pi (Fr_pi (Fr_pi (Fr_pN Fr_rfl) (Nat.le_refl _)) (Nat.le_refl _)) (Nat.le_refl _)) (Nat.le_refl _)) (Nat.le_refl _)) (Nat.le_refl _)) (Nat.le_refl _)) (Nat.le_refl _)))

theorem m_piX3 {A : Nat → Nat} {h : MH} {Q : MR → MH → Prop} (R : Rl A h) (hQ : ∀ m, Fr (p_i h (A 22) 9 0) m → Q (.inl (some (.int (10)))) m) : Ok 219 0 [.ref (A 22), .int 3, mk0] [] h 1 8 Q := by
  have R0 := R
  obtain ⟨vk, vcn, v0, v1, v2, vp, vl0, vl1, vlr, vsr, vc, tx⟩ := R0
  have vk0 := vk
  have vcn0 := vcn
  (refine K_el vk0 ?_; intros hA kc0 kc1 kc2 kc3 kc4 kc5 kc6 kc7 kc8 kc9 kc10 kc11 kc12 kc13 kc14 kc15 kc16 kc17 kc18 kc19 kc20 kc21 kc22 kc23 kc24 kc25 kc26 kc27 kc28 kc29 kc30 kc31 kc32 kc33 kc34 kc35 kc36 kc37 kc38 kc39 kz kt kn3 kn4 kn18 kn21 kn23 kn24 kn25 kn26 kn27 kn29 kn30 kr0_0 kr0_1 kr0_2 kr0_3 kr0_4 kr0_5 kr0_7 kr0_8 kr0_9 kr0_10 kr1_0 kr2_0 kr5_0 kr5_1 kr6_0 kr6_1 kr7_0 kr7_1 kr8_0 kr9_0 kr10_0 kr11_0 kr12_0 kr13_0 kr14_0 kr15_0 kr16_0 kr17_0 kr19_0 kr19_1 kr22_0 kr22_1 kr22_2 kr22_3 kr22_4 kr22_5 kr22_7 kr22_8 kr25_0 kr25_1 kr25_2 kr26_0 kr26_1 kr26_2 kr29_0 kr29_1)
  (refine Cn_el vcn0 ?_; intros ki5_2 ki6_2 ki7_2 ki8_1 ki8_2 ki8_3 ki9_1 ki9_2 ki9_3 ki10_1 ki10_2 ki10_3 ki11_1 ki11_2 ki11_3 ki12_1 ki12_2 ki12_3 ki13_1 ki13_2 ki13_3 ki14_1 ki14_2 ki14_3 ki28_0 ki28_1 ki31_0 ki31_1 ki32_0 ki32_1 ki33_0 ki33_1 ki34_0 ki34_1 ki35_0 ki35_1 ki36_0 ki36_1)
  have hAe : ∀ i j, i < 40 → j < 40 → (A i = A j ↔ i = j) := hA
  have hta : ∀ i, i < 40 → (A i = g_t h) = False := fun i hi => eq_false (fun z => by have := kt i hi; omega)
  have hta2 : ∀ i, i < 40 → (g_t h = A i) = False := fun i hi => eq_false (fun z => by have := kt i hi; omega)
  have hzt : g_z h ≤ g_t h := Nat.le_trans (kz 0 (by decide)) (Nat.le_of_lt (kt 0 (by decide)))
  obtain ⟨⟨p1, p2, p3, p4⟩, pm⟩ := vp
  replace p1 := p1.symm
  replace p2 := p2.symm
  replace p3 := p3.symm
  replace p4 := p4.symm
  by_cases pd : g_i h (A 0) 6 = 0
  all_goals
    simp only [o219_0, o219_1, o219_2, o219_5, o219_6, o219_8, o219_11, o219_12, o219_15, o219_16, o219_19, o219_22, o219_23, o219_24, o219_26, o219_28, o219_29, o219_30, o219_31, o219_34, o219_37, o219_38, o219_39, o219_40, o219_41, o219_44, o219_47, o219_48, o219_49, o219_50, o219_51, o219_54, o219_57, o219_58, o219_59, o219_60, o219_62, o219_63, o219_64, o219_65, o219_66, o219_69, o219_72, o219_73, o219_74, o219_75, o219_76, o219_79, o219_82, o219_83, o219_86, o219_87, o219_88, o219_89, o219_91, o219_92, o219_93, o219_94, o219_96, o219_97, o219_100, o219_101, o219_102, o219_103, o219_104, o219_105, o218_0, o218_1, o218_4, o218_7, o218_8, o218_11, o218_14, o218_17, o218_18, o218_21, o218_24, c_X8_isThrown__, c_X7_rests, mc_pi, mc_pN, mn_pi, mn_pN, mi_pi, mi_pN, mr_pi, mr_pN, mt_pi, mz_pi, mz_pN, mcs_0, mcs_i, mcs_r, Kn_v, mrf_some, true_and, and_true, and_false, not_true_eq_false, not_false_eq_true, false_implies, forall_const, if_true, if_false, and_self, Nat.reduceEqDiff, Nat.reduceLeDiff, Nat.reduceSub, Nat.reduceAdd, Nat.zero_le, Nat.le_refl, i10, lt_le, Int32.reduceLT, cl0, cl1, cl2, cl3, cl4, cl5, cl6, cl7, cl8, Nat.reduceLT, hAe, kc22, kc28, kr22_5, kz, hta, hta2, hzt, vpk, Int32.reduceLT, p1, p2, p3, p4, pd] at hQ ⊢
    exact hQ _ (show Fr (p_i h (A 22) 9 0) _ from (Fr_pi (Fr_pi (Fr_pi (Fr_pi (Fr_pi (Fr_pi (Fr_pi (Fr_pi (Fr_pN Fr_rfl) (Nat.le_refl _)) (Nat.le_refl _)) (Nat.le_refl _)) (Nat.le_refl _)) (Nat.le_refl _)) (Nat.le_refl _)) (Nat.le_refl _)) (Nat.le_refl _)))

theorem m_piX4 {A : Nat → Nat} {h : MH} {Q : MR → MH → Prop} (R : Rl A h) (hQ : ∀ m, Fr (p_i h (A 22) 9 0) m → Q (.inl (some (.int (g_i h (A 14) 6)))) m) : Ok 219 0 [.ref (A 22), .int 4, mk0] [] h 1 8 Q := by
  have R0 := R
  obtain ⟨vk, vcn, v0, v1, v2, vp, vl0, vl1, vlr, vsr, vc, tx⟩ := R0
  have vk0 := vk
  have vcn0 := vcn
  (refine K_el vk0 ?_; intros hA kc0 kc1 kc2 kc3 kc4 kc5 kc6 kc7 kc8 kc9 kc10 kc11 kc12 kc13 kc14 kc15 kc16 kc17 kc18 kc19 kc20 kc21 kc22 kc23 kc24 kc25 kc26 kc27 kc28 kc29 kc30 kc31 kc32 kc33 kc34 kc35 kc36 kc37 kc38 kc39 kz kt kn3 kn4 kn18 kn21 kn23 kn24 kn25 kn26 kn27 kn29 kn30 kr0_0 kr0_1 kr0_2 kr0_3 kr0_4 kr0_5 kr0_7 kr0_8 kr0_9 kr0_10 kr1_0 kr2_0 kr5_0 kr5_1 kr6_0 kr6_1 kr7_0 kr7_1 kr8_0 kr9_0 kr10_0 kr11_0 kr12_0 kr13_0 kr14_0 kr15_0 kr16_0 kr17_0 kr19_0 kr19_1 kr22_0 kr22_1 kr22_2 kr22_3 kr22_4 kr22_5 kr22_7 kr22_8 kr25_0 kr25_1 kr25_2 kr26_0 kr26_1 kr26_2 kr29_0 kr29_1)
  (refine Cn_el vcn0 ?_; intros ki5_2 ki6_2 ki7_2 ki8_1 ki8_2 ki8_3 ki9_1 ki9_2 ki9_3 ki10_1 ki10_2 ki10_3 ki11_1 ki11_2 ki11_3 ki12_1 ki12_2 ki12_3 ki13_1 ki13_2 ki13_3 ki14_1 ki14_2 ki14_3 ki28_0 ki28_1 ki31_0 ki31_1 ki32_0 ki32_1 ki33_0 ki33_1 ki34_0 ki34_1 ki35_0 ki35_1 ki36_0 ki36_1)
  have hAe : ∀ i j, i < 40 → j < 40 → (A i = A j ↔ i = j) := hA
  have hta : ∀ i, i < 40 → (A i = g_t h) = False := fun i hi => eq_false (fun z => by have := kt i hi; omega)
  have hta2 : ∀ i, i < 40 → (g_t h = A i) = False := fun i hi => eq_false (fun z => by have := kt i hi; omega)
  have hzt : g_z h ≤ g_t h := Nat.le_trans (kz 0 (by decide)) (Nat.le_of_lt (kt 0 (by decide)))
  obtain ⟨⟨p1, p2, p3, p4⟩, pm⟩ := vp
  replace p1 := p1.symm
  replace p2 := p2.symm
  replace p3 := p3.symm
  replace p4 := p4.symm
  by_cases pd : g_i h (A 0) 6 = 0
  all_goals
    simp only [o219_0, o219_1, o219_2, o219_5, o219_6, o219_8, o219_11, o219_12, o219_15, o219_16, o219_19, o219_22, o219_23, o219_24, o219_26, o219_28, o219_29, o219_30, o219_31, o219_34, o219_37, o219_38, o219_39, o219_40, o219_41, o219_44, o219_47, o219_48, o219_49, o219_50, o219_51, o219_54, o219_57, o219_58, o219_59, o219_60, o219_62, o219_63, o219_64, o219_65, o219_66, o219_69, o219_72, o219_73, o219_74, o219_75, o219_76, o219_79, o219_82, o219_83, o219_86, o219_87, o219_88, o219_89, o219_91, o219_92, o219_93, o219_94, o219_96, o219_97, o219_100, o219_101, o219_102, o219_103, o219_104, o219_105, o218_0, o218_1, o218_4, o218_7, o218_8, o218_11, o218_14, o218_17, o218_18, o218_21, o218_24, c_X8_isThrown__, c_X7_rests, mc_pi, mc_pN, mn_pi, mn_pN, mi_pi, mi_pN, mr_pi, mr_pN, mt_pi, mz_pi, mz_pN, mcs_0, mcs_i, mcs_r, Kn_v, mrf_some, true_and, and_true, and_false, not_true_eq_false, not_false_eq_true, false_implies, forall_const, if_true, if_false, and_self, Nat.reduceEqDiff, Nat.reduceLeDiff, Nat.reduceSub, Nat.reduceAdd, Nat.zero_le, Nat.le_refl, i10, lt_le, Int32.reduceLT, cl0, cl1, cl2, cl3, cl4, cl5, cl6, cl7, cl8, Nat.reduceLT, hAe, kc22, kc28, kr22_5, kz, hta, hta2, hzt, vpk, Int32.reduceLT, p1, p2, p3, p4, pd] at hQ ⊢
    exact hQ _ (show Fr (p_i h (A 22) 9 0) _ from (Fr_pi (Fr_pi (Fr_pi (Fr_pi (Fr_pi (Fr_pi (Fr_pi (Fr_pi (Fr_pN Fr_rfl) (Nat.le_refl _)) (Nat.le_refl _)) (Nat.le_refl _)) (Nat.le_refl _)) (Nat.le_refl _)) (Nat.le_refl _)) (Nat.le_refl _)) (Nat.le_refl _)))

theorem m_piX5 {A : Nat → Nat} {h : MH} {Q : MR → MH → Prop} (R : Rl A h) (hQ : ∀ m, Fr (p_i h (A 22) 9 0) m → Q (.inl (some (.int (if g_i h (A 0) 6 = 0 then 0 else 1)))) m) : Ok 219 0 [.ref (A 22), .int 5, mk0] [] h 1 8 Q := by
  have R0 := R
  obtain ⟨vk, vcn, v0, v1, v2, vp, vl0, vl1, vlr, vsr, vc, tx⟩ := R0
  have vk0 := vk
  have vcn0 := vcn
  (refine K_el vk0 ?_; intros hA kc0 kc1 kc2 kc3 kc4 kc5 kc6 kc7 kc8 kc9 kc10 kc11 kc12 kc13 kc14 kc15 kc16 kc17 kc18 kc19 kc20 kc21 kc22 kc23 kc24 kc25 kc26 kc27 kc28 kc29 kc30 kc31 kc32 kc33 kc34 kc35 kc36 kc37 kc38 kc39 kz kt kn3 kn4 kn18 kn21 kn23 kn24 kn25 kn26 kn27 kn29 kn30 kr0_0 kr0_1 kr0_2 kr0_3 kr0_4 kr0_5 kr0_7 kr0_8 kr0_9 kr0_10 kr1_0 kr2_0 kr5_0 kr5_1 kr6_0 kr6_1 kr7_0 kr7_1 kr8_0 kr9_0 kr10_0 kr11_0 kr12_0 kr13_0 kr14_0 kr15_0 kr16_0 kr17_0 kr19_0 kr19_1 kr22_0 kr22_1 kr22_2 kr22_3 kr22_4 kr22_5 kr22_7 kr22_8 kr25_0 kr25_1 kr25_2 kr26_0 kr26_1 kr26_2 kr29_0 kr29_1)
  (refine Cn_el vcn0 ?_; intros ki5_2 ki6_2 ki7_2 ki8_1 ki8_2 ki8_3 ki9_1 ki9_2 ki9_3 ki10_1 ki10_2 ki10_3 ki11_1 ki11_2 ki11_3 ki12_1 ki12_2 ki12_3 ki13_1 ki13_2 ki13_3 ki14_1 ki14_2 ki14_3 ki28_0 ki28_1 ki31_0 ki31_1 ki32_0 ki32_1 ki33_0 ki33_1 ki34_0 ki34_1 ki35_0 ki35_1 ki36_0 ki36_1)
  have hAe : ∀ i j, i < 40 → j < 40 → (A i = A j ↔ i = j) := hA
  have hta : ∀ i, i < 40 → (A i = g_t h) = False := fun i hi => eq_false (fun z => by have := kt i hi; omega)
  have hta2 : ∀ i, i < 40 → (g_t h = A i) = False := fun i hi => eq_false (fun z => by have := kt i hi; omega)
  have hzt : g_z h ≤ g_t h := Nat.le_trans (kz 0 (by decide)) (Nat.le_of_lt (kt 0 (by decide)))
  obtain ⟨⟨p1, p2, p3, p4⟩, pm⟩ := vp
  replace p1 := p1.symm
  replace p2 := p2.symm
  replace p3 := p3.symm
  replace p4 := p4.symm
  by_cases pd : g_i h (A 0) 6 = 0
  all_goals
    simp only [o219_0, o219_1, o219_2, o219_5, o219_6, o219_8, o219_11, o219_12, o219_15, o219_16, o219_19, o219_22, o219_23, o219_24, o219_26, o219_28, o219_29, o219_30, o219_31, o219_34, o219_37, o219_38, o219_39, o219_40, o219_41, o219_44, o219_47, o219_48, o219_49, o219_50, o219_51, o219_54, o219_57, o219_58, o219_59, o219_60, o219_62, o219_63, o219_64, o219_65, o219_66, o219_69, o219_72, o219_73, o219_74, o219_75, o219_76, o219_79, o219_82, o219_83, o219_86, o219_87, o219_88, o219_89, o219_91, o219_92, o219_93, o219_94, o219_96, o219_97, o219_100, o219_101, o219_102, o219_103, o219_104, o219_105, o218_0, o218_1, o218_4, o218_7, o218_8, o218_11, o218_14, o218_17, o218_18, o218_21, o218_24, c_X8_isThrown__, c_X7_rests, mc_pi, mc_pN, mn_pi, mn_pN, mi_pi, mi_pN, mr_pi, mr_pN, mt_pi, mz_pi, mz_pN, mcs_0, mcs_i, mcs_r, Kn_v, mrf_some, true_and, and_true, and_false, not_true_eq_false, not_false_eq_true, false_implies, forall_const, if_true, if_false, and_self, Nat.reduceEqDiff, Nat.reduceLeDiff, Nat.reduceSub, Nat.reduceAdd, Nat.zero_le, Nat.le_refl, i10, lt_le, Int32.reduceLT, cl0, cl1, cl2, cl3, cl4, cl5, cl6, cl7, cl8, Nat.reduceLT, hAe, kc22, kc28, kr22_5, kz, hta, hta2, hzt, vpk, Int32.reduceLT, p1, p2, p3, p4, pd] at hQ ⊢
    exact hQ _ (show Fr (p_i h (A 22) 9 0) _ from (Fr_pi (Fr_pi (Fr_pi (Fr_pi (Fr_pi (Fr_pi (Fr_pi (Fr_pi (Fr_pN Fr_rfl) (Nat.le_refl _)) (Nat.le_refl _)) (Nat.le_refl _)) (Nat.le_refl _)) (Nat.le_refl _)) (Nat.le_refl _)) (Nat.le_refl _)) (Nat.le_refl _)))

theorem m_piX6 {A : Nat → Nat} {h : MH} {Q : MR → MH → Prop} (R : Rl A h) (hQ : ∀ m, Fr (p_i h (A 22) 9 0) m → Q (.inl (some (.int (1)))) m) : Ok 219 0 [.ref (A 22), .int 6, mk0] [] h 1 8 Q := by
  have R0 := R
  obtain ⟨vk, vcn, v0, v1, v2, vp, vl0, vl1, vlr, vsr, vc, tx⟩ := R0
  have vk0 := vk
  have vcn0 := vcn
  (refine K_el vk0 ?_; intros hA kc0 kc1 kc2 kc3 kc4 kc5 kc6 kc7 kc8 kc9 kc10 kc11 kc12 kc13 kc14 kc15 kc16 kc17 kc18 kc19 kc20 kc21 kc22 kc23 kc24 kc25 kc26 kc27 kc28 kc29 kc30 kc31 kc32 kc33 kc34 kc35 kc36 kc37 kc38 kc39 kz kt kn3 kn4 kn18 kn21 kn23 kn24 kn25 kn26 kn27 kn29 kn30 kr0_0 kr0_1 kr0_2 kr0_3 kr0_4 kr0_5 kr0_7 kr0_8 kr0_9 kr0_10 kr1_0 kr2_0 kr5_0 kr5_1 kr6_0 kr6_1 kr7_0 kr7_1 kr8_0 kr9_0 kr10_0 kr11_0 kr12_0 kr13_0 kr14_0 kr15_0 kr16_0 kr17_0 kr19_0 kr19_1 kr22_0 kr22_1 kr22_2 kr22_3 kr22_4 kr22_5 kr22_7 kr22_8 kr25_0 kr25_1 kr25_2 kr26_0 kr26_1 kr26_2 kr29_0 kr29_1)
  (refine Cn_el vcn0 ?_; intros ki5_2 ki6_2 ki7_2 ki8_1 ki8_2 ki8_3 ki9_1 ki9_2 ki9_3 ki10_1 ki10_2 ki10_3 ki11_1 ki11_2 ki11_3 ki12_1 ki12_2 ki12_3 ki13_1 ki13_2 ki13_3 ki14_1 ki14_2 ki14_3 ki28_0 ki28_1 ki31_0 ki31_1 ki32_0 ki32_1 ki33_0 ki33_1 ki34_0 ki34_1 ki35_0 ki35_1 ki36_0 ki36_1)
  have hAe : ∀ i j, i < 40 → j < 40 → (A i = A j ↔ i = j) := hA
  have hta : ∀ i, i < 40 → (A i = g_t h) = False := fun i hi => eq_false (fun z => by have := kt i hi; omega)
  have hta2 : ∀ i, i < 40 → (g_t h = A i) = False := fun i hi => eq_false (fun z => by have := kt i hi; omega)
  have hzt : g_z h ≤ g_t h := Nat.le_trans (kz 0 (by decide)) (Nat.le_of_lt (kt 0 (by decide)))
  obtain ⟨⟨p1, p2, p3, p4⟩, pm⟩ := vp
  replace p1 := p1.symm
  replace p2 := p2.symm
  replace p3 := p3.symm
  replace p4 := p4.symm
  by_cases pd : g_i h (A 0) 6 = 0
  all_goals
    simp only [o219_0, o219_1, o219_2, o219_5, o219_6, o219_8, o219_11, o219_12, o219_15, o219_16, o219_19, o219_22, o219_23, o219_24, o219_26, o219_28, o219_29, o219_30, o219_31, o219_34, o219_37, o219_38, o219_39, o219_40, o219_41, o219_44, o219_47, o219_48, o219_49, o219_50, o219_51, o219_54, o219_57, o219_58, o219_59, o219_60, o219_62, o219_63, o219_64, o219_65, o219_66, o219_69, o219_72, o219_73, o219_74, o219_75, o219_76, o219_79, o219_82, o219_83, o219_86, o219_87, o219_88, o219_89, o219_91, o219_92, o219_93, o219_94, o219_96, o219_97, o219_100, o219_101, o219_102, o219_103, o219_104, o219_105, o218_0, o218_1, o218_4, o218_7, o218_8, o218_11, o218_14, o218_17, o218_18, o218_21, o218_24, c_X8_isThrown__, c_X7_rests, mc_pi, mc_pN, mn_pi, mn_pN, mi_pi, mi_pN, mr_pi, mr_pN, mt_pi, mz_pi, mz_pN, mcs_0, mcs_i, mcs_r, Kn_v, mrf_some, true_and, and_true, and_false, not_true_eq_false, not_false_eq_true, false_implies, forall_const, if_true, if_false, and_self, Nat.reduceEqDiff, Nat.reduceLeDiff, Nat.reduceSub, Nat.reduceAdd, Nat.zero_le, Nat.le_refl, i10, lt_le, Int32.reduceLT, cl0, cl1, cl2, cl3, cl4, cl5, cl6, cl7, cl8, Nat.reduceLT, hAe, kc22, kc28, kr22_5, kz, hta, hta2, hzt, vpk, Int32.reduceLT, p1, p2, p3, p4, pd] at hQ ⊢
    exact hQ _ (show Fr (p_i h (A 22) 9 0) _ from (Fr_pi (Fr_pi (Fr_pi (Fr_pi (Fr_pi (Fr_pi (Fr_pi (Fr_pi (Fr_pN Fr_rfl) (Nat.le_refl _)) (Nat.le_refl _)) (Nat.le_refl _)) (Nat.le_refl _)) (Nat.le_refl _)) (Nat.le_refl _)) (Nat.le_refl _)) (Nat.le_refl _)))

theorem m_piX7 {A : Nat → Nat} {h : MH} {Q : MR → MH → Prop} (R : Rl A h) (hQ : ∀ m, Fr (p_i h (A 22) 9 0) m → Q (.inl (some (.int (if g_i h (A 0) 6 = 0 then g_i h (A 14) 4 else g_i h (A 14) 5 - g_i h (A 14) 4)))) m) : Ok 219 0 [.ref (A 22), .int 7, mk0] [] h 1 8 Q := by
  have R0 := R
  obtain ⟨vk, vcn, v0, v1, v2, vp, vl0, vl1, vlr, vsr, vc, tx⟩ := R0
  have vk0 := vk
  have vcn0 := vcn
  (refine K_el vk0 ?_; intros hA kc0 kc1 kc2 kc3 kc4 kc5 kc6 kc7 kc8 kc9 kc10 kc11 kc12 kc13 kc14 kc15 kc16 kc17 kc18 kc19 kc20 kc21 kc22 kc23 kc24 kc25 kc26 kc27 kc28 kc29 kc30 kc31 kc32 kc33 kc34 kc35 kc36 kc37 kc38 kc39 kz kt kn3 kn4 kn18 kn21 kn23 kn24 kn25 kn26 kn27 kn29 kn30 kr0_0 kr0_1 kr0_2 kr0_3 kr0_4 kr0_5 kr0_7 kr0_8 kr0_9 kr0_10 kr1_0 kr2_0 kr5_0 kr5_1 kr6_0 kr6_1 kr7_0 kr7_1 kr8_0 kr9_0 kr10_0 kr11_0 kr12_0 kr13_0 kr14_0 kr15_0 kr16_0 kr17_0 kr19_0 kr19_1 kr22_0 kr22_1 kr22_2 kr22_3 kr22_4 kr22_5 kr22_7 kr22_8 kr25_0 kr25_1 kr25_2 kr26_0 kr26_1 kr26_2 kr29_0 kr29_1)
  (refine Cn_el vcn0 ?_; intros ki5_2 ki6_2 ki7_2 ki8_1 ki8_2 ki8_3 ki9_1 ki9_2 ki9_3 ki10_1 ki10_2 ki10_3 ki11_1 ki11_2 ki11_3 ki12_1 ki12_2 ki12_3 ki13_1 ki13_2 ki13_3 ki14_1 ki14_2 ki14_3 ki28_0 ki28_1 ki31_0 ki31_1 ki32_0 ki32_1 ki33_0 ki33_1 ki34_0 ki34_1 ki35_0 ki35_1 ki36_0 ki36_1)
  have hAe : ∀ i j, i < 40 → j < 40 → (A i = A j ↔ i = j) := hA
  have hta : ∀ i, i < 40 → (A i = g_t h) = False := fun i hi => eq_false (fun z => by have := kt i hi; omega)
  have hta2 : ∀ i, i < 40 → (g_t h = A i) = False := fun i hi => eq_false (fun z => by have := kt i hi; omega)
  have hzt : g_z h ≤ g_t h := Nat.le_trans (kz 0 (by decide)) (Nat.le_of_lt (kt 0 (by decide)))
  obtain ⟨⟨p1, p2, p3, p4⟩, pm⟩ := vp
  replace p1 := p1.symm
  replace p2 := p2.symm
  replace p3 := p3.symm
  replace p4 := p4.symm
  by_cases pd : g_i h (A 0) 6 = 0
  all_goals
    simp only [o219_0, o219_1, o219_2, o219_5, o219_6, o219_8, o219_11, o219_12, o219_15, o219_16, o219_19, o219_22, o219_23, o219_24, o219_26, o219_28, o219_29, o219_30, o219_31, o219_34, o219_37, o219_38, o219_39, o219_40, o219_41, o219_44, o219_47, o219_48, o219_49, o219_50, o219_51, o219_54, o219_57, o219_58, o219_59, o219_60, o219_62, o219_63, o219_64, o219_65, o219_66, o219_69, o219_72, o219_73, o219_74, o219_75, o219_76, o219_79, o219_82, o219_83, o219_86, o219_87, o219_88, o219_89, o219_91, o219_92, o219_93, o219_94, o219_96, o219_97, o219_100, o219_101, o219_102, o219_103, o219_104, o219_105, o218_0, o218_1, o218_4, o218_7, o218_8, o218_11, o218_14, o218_17, o218_18, o218_21, o218_24, c_X8_isThrown__, c_X7_rests, mc_pi, mc_pN, mn_pi, mn_pN, mi_pi, mi_pN, mr_pi, mr_pN, mt_pi, mz_pi, mz_pN, mcs_0, mcs_i, mcs_r, Kn_v, mrf_some, true_and, and_true, and_false, not_true_eq_false, not_false_eq_true, false_implies, forall_const, if_true, if_false, and_self, Nat.reduceEqDiff, Nat.reduceLeDiff, Nat.reduceSub, Nat.reduceAdd, Nat.zero_le, Nat.le_refl, i10, lt_le, Int32.reduceLT, cl0, cl1, cl2, cl3, cl4, cl5, cl6, cl7, cl8, Nat.reduceLT, hAe, kc22, kc28, kr22_5, kz, hta, hta2, hzt, vpk, Int32.reduceLT, p1, p2, p3, p4, pd] at hQ ⊢
    exact hQ _ (show Fr (p_i h (A 22) 9 0) _ from (Fr_pi (Fr_pi (Fr_pi (Fr_pi (Fr_pi (Fr_pi (Fr_pi (Fr_pi (Fr_pN Fr_rfl) (Nat.le_refl _)) (Nat.le_refl _)) (Nat.le_refl _)) (Nat.le_refl _)) (Nat.le_refl _)) (Nat.le_refl _)) (Nat.le_refl _)) (Nat.le_refl _)))
end

section
set_option maxRecDepth 16384
theorem dv_0 : vp_in 0 2 = True := by
  apply eq_true
  unfold vp_in
  decide
theorem dv_1 : vp_in 1 2 = True := by
  apply eq_true
  unfold vp_in
  decide
theorem m_leX0_0 {A : Nat → Nat} {h : MH} {Q : MR → MH → Prop} (R : Rl A h) (hQ : ∀ m, Fr h m → Q (.inl (some (.int (g_i h (A 15) 4)))) m) : Ok 228 0 [.ref (A 22), .int 0, .int 0, mk0, mk0] [] h 1 9 Q := by
  have R0 := R
  obtain ⟨vk, vcn, v0, v1, v2, vp, vl0, vl1, vlr, vsr, vc, tx⟩ := R0
  have vk0 := vk
  have vcn0 := vcn
  (refine K_el vk0 ?_; intros hA kc0 kc1 kc2 kc3 kc4 kc5 kc6 kc7 kc8 kc9 kc10 kc11 kc12 kc13 kc14 kc15 kc16 kc17 kc18 kc19 kc20 kc21 kc22 kc23 kc24 kc25 kc26 kc27 kc28 kc29 kc30 kc31 kc32 kc33 kc34 kc35 kc36 kc37 kc38 kc39 kz kt kn3 kn4 kn18 kn21 kn23 kn24 kn25 kn26 kn27 kn29 kn30 kr0_0 kr0_1 kr0_2 kr0_3 kr0_4 kr0_5 kr0_7 kr0_8 kr0_9 kr0_10 kr1_0 kr2_0 kr5_0 kr5_1 kr6_0 kr6_1 kr7_0 kr7_1 kr8_0 kr9_0 kr10_0 kr11_0 kr12_0 kr13_0 kr14_0 kr15_0 kr16_0 kr17_0 kr19_0 kr19_1 kr22_0 kr22_1 kr22_2 kr22_3 kr22_4 kr22_5 kr22_7 kr22_8 kr25_0 kr25_1 kr25_2 kr26_0 kr26_1 kr26_2 kr29_0 kr29_1)
  (refine Cn_el vcn0 ?_; intros ki5_2 ki6_2 ki7_2 ki8_1 ki8_2 ki8_3 ki9_1 ki9_2 ki9_3 ki10_1 ki10_2 ki10_3 ki11_1 ki11_2 ki11_3 ki12_1 ki12_2 ki12_3 ki13_1 ki13_2 ki13_3 ki14_1 ki14_2 ki14_3 ki28_0 ki28_1 ki31_0 ki31_1 ki32_0 ki32_1 ki33_0 ki33_1 ki34_0 ki34_1 ki35_0 ki35_1 ki36_0 ki36_1)
  have hAe : ∀ i j, i < 40 → j < 40 → (A i = A j ↔ i = j) := hA
  have hta : ∀ i, i < 40 → (A i = g_t h) = False := fun i hi => eq_false (fun z => by have := kt i hi; omega)
  have hta2 : ∀ i, i < 40 → (g_t h = A i) = False := fun i hi => eq_false (fun z => by have := kt i hi; omega)
  have hzt : g_z h ≤ g_t h := Nat.le_trans (kz 0 (by decide)) (Nat.le_of_lt (kt 0 (by decide)))
  have hl2 := vl0
  obtain ⟨⟨b1, b2, b3, b4, b5, b6⟩, ln⟩ := hl2
  replace b1 := b1.symm
  replace b2 := b2.symm
  replace b3 := b3.symm
  replace b4 := b4.symm
  replace b5 := b5.symm
  replace b6 := b6.symm
  by_cases ps : g_i h (A 15) 3 = 0
  all_goals
    simp only [o228_0, o228_1, o228_4, o228_5, o228_6, o228_7, o228_9, o228_11, o228_12, o228_13, o228_14, o228_17, o228_18, o228_19, o228_20, o228_21, o228_24, o228_25, o228_26, o228_27, o228_28, o228_31, o228_32, o228_33, o228_34, o228_35, o228_38, o228_39, o228_40, o228_41, o228_42, o228_45, o228_46, o228_47, o228_48, o228_49, o228_52, o228_55, o228_56, o228_59, o228_60, o228_61, o228_62, o228_64, o228_65, o228_68, o228_71, o228_72, o228_75, o228_76, o228_77, o228_78, o228_80, o228_81, o228_82, o228_83, o228_85, o228_86, o228_89, o228_92, o228_93, o228_96, o228_97, o228_100, o228_101, o228_103, o228_105, o228_106, o228_107, c_X7_rests, mc_pi, mc_pN, mn_pi, mn_pN, mi_pi, mi_pN, mz_pi, mz_pN, mcs_0, mcs_i, mcs_r, Kn_v, mrf_some, true_and, and_true, and_false, not_true_eq_false, not_false_eq_true, false_implies, forall_const, if_true, if_false, and_self, Nat.reduceEqDiff, Nat.reduceLeDiff, Nat.reduceSub, Nat.reduceAdd, Nat.le_refl, Int32.reduceLT, cl0, cl1, cl2, cl3, cl4, cl5, cl6, cl7, cl8, cl9, Nat.reduceLT, kc22, kc29, kc37, kn29, kr22_7, kr29_0, hta, hzt, vpk, Int32.reduceLT, b1, b2, b3, b4, b5, b6, ps, dv_0] at hQ ⊢
    exact hQ _ (show Fr (h) _ from (Fr_pi (Fr_pi (Fr_pi (Fr_pi (Fr_pi (Fr_pi (Fr_pi (Fr_pi (Fr_pi (Fr_pN Fr_rfl) (Nat.le_refl _)) (Nat.le_refl _)) (Nat.le_refl _)) (Nat.le_refl _)) (Nat.le_refl _)) (Nat.le_refl _)) (Nat.le_refl _)) (Nat.le_refl _)) (Nat.le_refl _)))

theorem m_leX0_1 {A : Nat → Nat} {h : MH} {Q : MR → MH → Prop} (R : Rl A h) (hQ : ∀ m, Fr h m → Q (.inl (some (.int (g_i h (A 15) 5)))) m) : Ok 228 0 [.ref (A 22), .int 0, .int 1, mk0, mk0] [] h 1 9 Q := by
  have R0 := R
  obtain ⟨vk, vcn, v0, v1, v2, vp, vl0, vl1, vlr, vsr, vc, tx⟩ := R0
  have vk0 := vk
  have vcn0 := vcn
  (refine K_el vk0 ?_; intros hA kc0 kc1 kc2 kc3 kc4 kc5 kc6 kc7 kc8 kc9 kc10 kc11 kc12 kc13 kc14 kc15 kc16 kc17 kc18 kc19 kc20 kc21 kc22 kc23 kc24 kc25 kc26 kc27 kc28 kc29 kc30 kc31 kc32 kc33 kc34 kc35 kc36 kc37 kc38 kc39 kz kt kn3 kn4 kn18 kn21 kn23 kn24 kn25 kn26 kn27 kn29 kn30 kr0_0 kr0_1 kr0_2 kr0_3 kr0_4 kr0_5 kr0_7 kr0_8 kr0_9 kr0_10 kr1_0 kr2_0 kr5_0 kr5_1 kr6_0 kr6_1 kr7_0 kr7_1 kr8_0 kr9_0 kr10_0 kr11_0 kr12_0 kr13_0 kr14_0 kr15_0 kr16_0 kr17_0 kr19_0 kr19_1 kr22_0 kr22_1 kr22_2 kr22_3 kr22_4 kr22_5 kr22_7 kr22_8 kr25_0 kr25_1 kr25_2 kr26_0 kr26_1 kr26_2 kr29_0 kr29_1)
  (refine Cn_el vcn0 ?_; intros ki5_2 ki6_2 ki7_2 ki8_1 ki8_2 ki8_3 ki9_1 ki9_2 ki9_3 ki10_1 ki10_2 ki10_3 ki11_1 ki11_2 ki11_3 ki12_1 ki12_2 ki12_3 ki13_1 ki13_2 ki13_3 ki14_1 ki14_2 ki14_3 ki28_0 ki28_1 ki31_0 ki31_1 ki32_0 ki32_1 ki33_0 ki33_1 ki34_0 ki34_1 ki35_0 ki35_1 ki36_0 ki36_1)
  have hAe : ∀ i j, i < 40 → j < 40 → (A i = A j ↔ i = j) := hA
  have hta : ∀ i, i < 40 → (A i = g_t h) = False := fun i hi => eq_false (fun z => by have := kt i hi; omega)
  have hta2 : ∀ i, i < 40 → (g_t h = A i) = False := fun i hi => eq_false (fun z => by have := kt i hi; omega)
  have hzt : g_z h ≤ g_t h := Nat.le_trans (kz 0 (by decide)) (Nat.le_of_lt (kt 0 (by decide)))
  have hl2 := vl0
  obtain ⟨⟨b1, b2, b3, b4, b5, b6⟩, ln⟩ := hl2
  replace b1 := b1.symm
  replace b2 := b2.symm
  replace b3 := b3.symm
  replace b4 := b4.symm
  replace b5 := b5.symm
  replace b6 := b6.symm
  by_cases ps : g_i h (A 15) 3 = 0
  all_goals
    simp only [o228_0, o228_1, o228_4, o228_5, o228_6, o228_7, o228_9, o228_11, o228_12, o228_13, o228_14, o228_17, o228_18, o228_19, o228_20, o228_21, o228_24, o228_25, o228_26, o228_27, o228_28, o228_31, o228_32, o228_33, o228_34, o228_35, o228_38, o228_39, o228_40, o228_41, o228_42, o228_45, o228_46, o228_47, o228_48, o228_49, o228_52, o228_55, o228_56, o228_59, o228_60, o228_61, o228_62, o228_64, o228_65, o228_68, o228_71, o228_72, o228_75, o228_76, o228_77, o228_78, o228_80, o228_81, o228_82, o228_83, o228_85, o228_86, o228_89, o228_92, o228_93, o228_96, o228_97, o228_100, o228_101, o228_103, o228_105, o228_106, o228_107, c_X7_rests, mc_pi, mc_pN, mn_pi, mn_pN, mi_pi, mi_pN, mz_pi, mz_pN, mcs_0, mcs_i, mcs_r, Kn_v, mrf_some, true_and, and_true, and_false, not_true_eq_false, not_false_eq_true, false_implies, forall_const, if_true, if_false, and_self, Nat.reduceEqDiff, Nat.reduceLeDiff, Nat.reduceSub, Nat.reduceAdd, Nat.le_refl, Int32.reduceLT, cl0, cl1, cl2, cl3, cl4, cl5, cl6, cl7, cl8, cl9, Nat.reduceLT, kc22, kc29, kc37, kn29, kr22_7, kr29_0, hta, hzt, vpk, Int32.reduceLT, b1, b2, b3, b4, b5, b6, ps, dv_0] at hQ ⊢
    exact hQ _ (show Fr (h) _ from (Fr_pi (Fr_pi (Fr_pi (Fr_pi (Fr_pi (Fr_pi (Fr_pi (Fr_pi (Fr_pi (Fr_pN Fr_rfl) (Nat.le_refl _)) (Nat.le_refl _)) (Nat.le_refl _)) (Nat.le_refl _)) (Nat.le_refl _)) (Nat.le_refl _)) (Nat.le_refl _)) (Nat.le_refl _)) (Nat.le_refl _)))

theorem m_leX0_2 {A : Nat → Nat} {h : MH} {Q : MR → MH → Prop} (R : Rl A h) (hQ : ∀ m, Fr h m → Q (.inl (some (.int (g_i h (A 15) 2)))) m) : Ok 228 0 [.ref (A 22), .int 0, .int 2, mk0, mk0] [] h 1 9 Q := by
  have R0 := R
  obtain ⟨vk, vcn, v0, v1, v2, vp, vl0, vl1, vlr, vsr, vc, tx⟩ := R0
  have vk0 := vk
  have vcn0 := vcn
  (refine K_el vk0 ?_; intros hA kc0 kc1 kc2 kc3 kc4 kc5 kc6 kc7 kc8 kc9 kc10 kc11 kc12 kc13 kc14 kc15 kc16 kc17 kc18 kc19 kc20 kc21 kc22 kc23 kc24 kc25 kc26 kc27 kc28 kc29 kc30 kc31 kc32 kc33 kc34 kc35 kc36 kc37 kc38 kc39 kz kt kn3 kn4 kn18 kn21 kn23 kn24 kn25 kn26 kn27 kn29 kn30 kr0_0 kr0_1 kr0_2 kr0_3 kr0_4 kr0_5 kr0_7 kr0_8 kr0_9 kr0_10 kr1_0 kr2_0 kr5_0 kr5_1 kr6_0 kr6_1 kr7_0 kr7_1 kr8_0 kr9_0 kr10_0 kr11_0 kr12_0 kr13_0 kr14_0 kr15_0 kr16_0 kr17_0 kr19_0 kr19_1 kr22_0 kr22_1 kr22_2 kr22_3 kr22_4 kr22_5 kr22_7 kr22_8 kr25_0 kr25_1 kr25_2 kr26_0 kr26_1 kr26_2 kr29_0 kr29_1)
  (refine Cn_el vcn0 ?_; intros ki5_2 ki6_2 ki7_2 ki8_1 ki8_2 ki8_3 ki9_1 ki9_2 ki9_3 ki10_1 ki10_2 ki10_3 ki11_1 ki11_2 ki11_3 ki12_1 ki12_2 ki12_3 ki13_1 ki13_2 ki13_3 ki14_1 ki14_2 ki14_3 ki28_0 ki28_1 ki31_0 ki31_1 ki32_0 ki32_1 ki33_0 ki33_1 ki34_0 ki34_1 ki35_0 ki35_1 ki36_0 ki36_1)
  have hAe : ∀ i j, i < 40 → j < 40 → (A i = A j ↔ i = j) := hA
  have hta : ∀ i, i < 40 → (A i = g_t h) = False := fun i hi => eq_false (fun z => by have := kt i hi; omega)
  have hta2 : ∀ i, i < 40 → (g_t h = A i) = False := fun i hi => eq_false (fun z => by have := kt i hi; omega)
  have hzt : g_z h ≤ g_t h := Nat.le_trans (kz 0 (by decide)) (Nat.le_of_lt (kt 0 (by decide)))
  have hl2 := vl0
  obtain ⟨⟨b1, b2, b3, b4, b5, b6⟩, ln⟩ := hl2
  replace b1 := b1.symm
  replace b2 := b2.symm
  replace b3 := b3.symm
  replace b4 := b4.symm
  replace b5 := b5.symm
  replace b6 := b6.symm
  by_cases ps : g_i h (A 15) 3 = 0
  all_goals
    simp only [o228_0, o228_1, o228_4, o228_5, o228_6, o228_7, o228_9, o228_11, o228_12, o228_13, o228_14, o228_17, o228_18, o228_19, o228_20, o228_21, o228_24, o228_25, o228_26, o228_27, o228_28, o228_31, o228_32, o228_33, o228_34, o228_35, o228_38, o228_39, o228_40, o228_41, o228_42, o228_45, o228_46, o228_47, o228_48, o228_49, o228_52, o228_55, o228_56, o228_59, o228_60, o228_61, o228_62, o228_64, o228_65, o228_68, o228_71, o228_72, o228_75, o228_76, o228_77, o228_78, o228_80, o228_81, o228_82, o228_83, o228_85, o228_86, o228_89, o228_92, o228_93, o228_96, o228_97, o228_100, o228_101, o228_103, o228_105, o228_106, o228_107, c_X7_rests, mc_pi, mc_pN, mn_pi, mn_pN, mi_pi, mi_pN, mz_pi, mz_pN, mcs_0, mcs_i, mcs_r, Kn_v, mrf_some, true_and, and_true, and_false, not_true_eq_false, not_false_eq_true, false_implies, forall_const, if_true, if_false, and_self, Nat.reduceEqDiff, Nat.reduceLeDiff, Nat.reduceSub, Nat.reduceAdd, Nat.le_refl, Int32.reduceLT, cl0, cl1, cl2, cl3, cl4, cl5, cl6, cl7, cl8, cl9, Nat.reduceLT, kc22, kc29, kc37, kn29, kr22_7, kr29_0, hta, hzt, vpk, Int32.reduceLT, b1, b2, b3, b4, b5, b6, ps, dv_0] at hQ ⊢
    exact hQ _ (show Fr (h) _ from (Fr_pi (Fr_pi (Fr_pi (Fr_pi (Fr_pi (Fr_pi (Fr_pi (Fr_pi (Fr_pi (Fr_pN Fr_rfl) (Nat.le_refl _)) (Nat.le_refl _)) (Nat.le_refl _)) (Nat.le_refl _)) (Nat.le_refl _)) (Nat.le_refl _)) (Nat.le_refl _)) (Nat.le_refl _)) (Nat.le_refl _)))

theorem m_leX0_3 {A : Nat → Nat} {h : MH} {Q : MR → MH → Prop} (R : Rl A h) (hQ : ∀ m, Fr h m → Q (.inl (some (.int (g_i h (A 15) 5 - g_i h (A 15) 4)))) m) : Ok 228 0 [.ref (A 22), .int 0, .int 3, mk0, mk0] [] h 1 9 Q := by
  have R0 := R
  obtain ⟨vk, vcn, v0, v1, v2, vp, vl0, vl1, vlr, vsr, vc, tx⟩ := R0
  have vk0 := vk
  have vcn0 := vcn
  (refine K_el vk0 ?_; intros hA kc0 kc1 kc2 kc3 kc4 kc5 kc6 kc7 kc8 kc9 kc10 kc11 kc12 kc13 kc14 kc15 kc16 kc17 kc18 kc19 kc20 kc21 kc22 kc23 kc24 kc25 kc26 kc27 kc28 kc29 kc30 kc31 kc32 kc33 kc34 kc35 kc36 kc37 kc38 kc39 kz kt kn3 kn4 kn18 kn21 kn23 kn24 kn25 kn26 kn27 kn29 kn30 kr0_0 kr0_1 kr0_2 kr0_3 kr0_4 kr0_5 kr0_7 kr0_8 kr0_9 kr0_10 kr1_0 kr2_0 kr5_0 kr5_1 kr6_0 kr6_1 kr7_0 kr7_1 kr8_0 kr9_0 kr10_0 kr11_0 kr12_0 kr13_0 kr14_0 kr15_0 kr16_0 kr17_0 kr19_0 kr19_1 kr22_0 kr22_1 kr22_2 kr22_3 kr22_4 kr22_5 kr22_7 kr22_8 kr25_0 kr25_1 kr25_2 kr26_0 kr26_1 kr26_2 kr29_0 kr29_1)
  (refine Cn_el vcn0 ?_; intros ki5_2 ki6_2 ki7_2 ki8_1 ki8_2 ki8_3 ki9_1 ki9_2 ki9_3 ki10_1 ki10_2 ki10_3 ki11_1 ki11_2 ki11_3 ki12_1 ki12_2 ki12_3 ki13_1 ki13_2 ki13_3 ki14_1 ki14_2 ki14_3 ki28_0 ki28_1 ki31_0 ki31_1 ki32_0 ki32_1 ki33_0 ki33_1 ki34_0 ki34_1 ki35_0 ki35_1 ki36_0 ki36_1)
  have hAe : ∀ i j, i < 40 → j < 40 → (A i = A j ↔ i = j) := hA
  have hta : ∀ i, i < 40 → (A i = g_t h) = False := fun i hi => eq_false (fun z => by have := kt i hi; omega)
  have hta2 : ∀ i, i < 40 → (g_t h = A i) = False := fun i hi => eq_false (fun z => by have := kt i hi; omega)
  have hzt : g_z h ≤ g_t h := Nat.le_trans (kz 0 (by decide)) (Nat.le_of_lt (kt 0 (by decide)))
  have hl2 := vl0
  obtain ⟨⟨b1, b2, b3, b4, b5, b6⟩, ln⟩ := hl2
  replace b1 := b1.symm
  replace b2 := b2.symm
  replace b3 := b3.symm
  replace b4 := b4.symm
  replace b5 := b5.symm
  replace b6 := b6.symm
  by_cases ps : g_i h (A 15) 3 = 0
  all_goals
    simp only [o228_0, o228_1, o228_4, o228_5, o228_6, o228_7, o228_9, o228_11, o228_12, o228_13, o228_14, o228_17, o228_18, o228_19, o228_20, o228_21, o228_24, o228_25, o228_26, o228_27, o228_28, o228_31, o228_32, o228_33, o228_34, o228_35, o228_38, o228_39, o228_40, o228_41, o228_42, o228_45, o228_46, o228_47, o228_48, o228_49, o228_52, o228_55, o228_56, o228_59, o228_60, o228_61, o228_62, o228_64, o228_65, o228_68, o228_71, o228_72, o228_75, o228_76, o228_77, o228_78, o228_80, o228_81, o228_82, o228_83, o228_85, o228_86, o228_89, o228_92, o228_93, o228_96, o228_97, o228_100, o228_101, o228_103, o228_105, o228_106, o228_107, c_X7_rests, mc_pi, mc_pN, mn_pi, mn_pN, mi_pi, mi_pN, mz_pi, mz_pN, mcs_0, mcs_i, mcs_r, Kn_v, mrf_some, true_and, and_true, and_false, not_true_eq_false, not_false_eq_true, false_implies, forall_const, if_true, if_false, and_self, Nat.reduceEqDiff, Nat.reduceLeDiff, Nat.reduceSub, Nat.reduceAdd, Nat.le_refl, Int32.reduceLT, cl0, cl1, cl2, cl3, cl4, cl5, cl6, cl7, cl8, cl9, Nat.reduceLT, kc22, kc29, kc37, kn29, kr22_7, kr29_0, hta, hzt, vpk, Int32.reduceLT, b1, b2, b3, b4, b5, b6, ps, dv_0] at hQ ⊢
    exact hQ _ (show Fr (h) _ from (Fr_pi (Fr_pi (Fr_pi (Fr_pi (Fr_pi (Fr_pi (Fr_pi (Fr_pi (Fr_pi (Fr_pN Fr_rfl) (Nat.le_refl _)) (Nat.le_refl _)) (Nat.le_refl _)) (Nat.le_refl _)) (Nat.le_refl _)) (Nat.le_refl _)) (Nat.le_refl _)) (Nat.le_refl _)) (Nat.le_refl _)))

theorem m_leX0_4 {A : Nat → Nat} {h : MH} {Q : MR → MH → Prop} (R : Rl A h) (hQ : ∀ m, Fr h m → Q (.inl (some (.int (g_i h (A 15) 6)))) m) : Ok 228 0 [.ref (A 22), .int 0, .int 4, mk0, mk0] [] h 1 9 Q := by
  have R0 := R
  obtain ⟨vk, vcn, v0, v1, v2, vp, vl0, vl1, vlr, vsr, vc, tx⟩ := R0
  have vk0 := vk
  have vcn0 := vcn
  (refine K_el vk0 ?_; intros hA kc0 kc1 kc2 kc3 kc4 kc5 kc6 kc7 kc8 kc9 kc10 kc11 kc12 kc13 kc14 kc15 kc16 kc17 kc18 kc19 kc20 kc21 kc22 kc23 kc24 kc25 kc26 kc27 kc28 kc29 kc30 kc31 kc32 kc33 kc34 kc35 kc36 kc37 kc38 kc39 kz kt kn3 kn4 kn18 kn21 kn23 kn24 kn25 kn26 kn27 kn29 kn30 kr0_0 kr0_1 kr0_2 kr0_3 kr0_4 kr0_5 kr0_7 kr0_8 kr0_9 kr0_10 kr1_0 kr2_0 kr5_0 kr5_1 kr6_0 kr6_1 kr7_0 kr7_1 kr8_0 kr9_0 kr10_0 kr11_0 kr12_0 kr13_0 kr14_0 kr15_0 kr16_0 kr17_0 kr19_0 kr19_1 kr22_0 kr22_1 kr22_2 kr22_3 kr22_4 kr22_5 kr22_7 kr22_8 kr25_0 kr25_1 kr25_2 kr26_0 kr26_1 kr26_2 kr29_0 kr29_1)
  (refine Cn_el vcn0 ?_; intros ki5_2 ki6_2 ki7_2 ki8_1 ki8_2 ki8_3 ki9_1 ki9_2 ki9_3 ki10_1 ki10_2 ki10_3 ki11_1 ki11_2 ki11_3 ki12_1 ki12_2 ki12_3 ki13_1 ki13_2 ki13_3 ki14_1 ki14_2 ki14_3 ki28_0 ki28_1 ki31_0 ki31_1 ki32_0 ki32_1 ki33_0 ki33_1 ki34_0 ki34_1 ki35_0 ki35_1 ki36_0 ki36_1)
  have hAe : ∀ i j, i < 40 → j < 40 → (A i = A j ↔ i = j) := hA
  have hta : ∀ i, i < 40 → (A i = g_t h) = False := fun i hi => eq_false (fun z => by have := kt i hi; omega)
  have hta2 : ∀ i, i < 40 → (g_t h = A i) = False := fun i hi => eq_false (fun z => by have := kt i hi; omega)
  have hzt : g_z h ≤ g_t h := Nat.le_trans (kz 0 (by decide)) (Nat.le_of_lt (kt 0 (by decide)))
  have hl2 := vl0
  obtain ⟨⟨b1, b2, b3, b4, b5, b6⟩, ln⟩ := hl2
  replace b1 := b1.symm
  replace b2 := b2.symm
  replace b3 := b3.symm
  replace b4 := b4.symm
  replace b5 := b5.symm
  replace b6 := b6.symm
  by_cases ps : g_i h (A 15) 3 = 0
  all_goals
    simp only [o228_0, o228_1, o228_4, o228_5, o228_6, o228_7, o228_9, o228_11, o228_12, o228_13, o228_14, o228_17, o228_18, o228_19, o228_20, o228_21, o228_24, o228_25, o228_26, o228_27, o228_28, o228_31, o228_32, o228_33, o228_34, o228_35, o228_38, o228_39, o228_40, o228_41, o228_42, o228_45, o228_46, o228_47, o228_48, o228_49, o228_52, o228_55, o228_56, o228_59, o228_60, o228_61, o228_62, o228_64, o228_65, o228_68, o228_71, o228_72, o228_75, o228_76, o228_77, o228_78, o228_80, o228_81, o228_82, o228_83, o228_85, o228_86, o228_89, o228_92, o228_93, o228_96, o228_97, o228_100, o228_101, o228_103, o228_105, o228_106, o228_107, c_X7_rests, mc_pi, mc_pN, mn_pi, mn_pN, mi_pi, mi_pN, mz_pi, mz_pN, mcs_0, mcs_i, mcs_r, Kn_v, mrf_some, true_and, and_true, and_false, not_true_eq_false, not_false_eq_true, false_implies, forall_const, if_true, if_false, and_self, Nat.reduceEqDiff, Nat.reduceLeDiff, Nat.reduceSub, Nat.reduceAdd, Nat.le_refl, Int32.reduceLT, cl0, cl1, cl2, cl3, cl4, cl5, cl6, cl7, cl8, cl9, Nat.reduceLT, kc22, kc29, kc37, kn29, kr22_7, kr29_0, hta, hzt, vpk, Int32.reduceLT, b1, b2, b3, b4, b5, b6, ps, dv_0] at hQ ⊢
    exact hQ _ (show Fr (h) _ from (Fr_pi (Fr_pi (Fr_pi (Fr_pi (Fr_pi (Fr_pi (Fr_pi (Fr_pi (Fr_pi (Fr_pN Fr_rfl) (Nat.le_refl _)) (Nat.le_refl _)) (Nat.le_refl _)) (Nat.le_refl _)) (Nat.le_refl _)) (Nat.le_refl _)) (Nat.le_refl _)) (Nat.le_refl _)) (Nat.le_refl _)))

theorem m_leX0_5 {A : Nat → Nat} {h : MH} {Q : MR → MH → Prop} (R : Rl A h) (hQ : ∀ m, Fr h m → Q (.inl (some (.int (if g_i h (A 15) 3 = 0 then 0 else 1)))) m) : Ok 228 0 [.ref (A 22), .int 0, .int 5, mk0, mk0] [] h 1 9 Q := by
  have R0 := R
  obtain ⟨vk, vcn, v0, v1, v2, vp, vl0, vl1, vlr, vsr, vc, tx⟩ := R0
  have vk0 := vk
  have vcn0 := vcn
  (refine K_el vk0 ?_; intros hA kc0 kc1 kc2 kc3 kc4 kc5 kc6 kc7 kc8 kc9 kc10 kc11 kc12 kc13 kc14 kc15 kc16 kc17 kc18 kc19 kc20 kc21 kc22 kc23 kc24 kc25 kc26 kc27 kc28 kc29 kc30 kc31 kc32 kc33 kc34 kc35 kc36 kc37 kc38 kc39 kz kt kn3 kn4 kn18 kn21 kn23 kn24 kn25 kn26 kn27 kn29 kn30 kr0_0 kr0_1 kr0_2 kr0_3 kr0_4 kr0_5 kr0_7 kr0_8 kr0_9 kr0_10 kr1_0 kr2_0 kr5_0 kr5_1 kr6_0 kr6_1 kr7_0 kr7_1 kr8_0 kr9_0 kr10_0 kr11_0 kr12_0 kr13_0 kr14_0 kr15_0 kr16_0 kr17_0 kr19_0 kr19_1 kr22_0 kr22_1 kr22_2 kr22_3 kr22_4 kr22_5 kr22_7 kr22_8 kr25_0 kr25_1 kr25_2 kr26_0 kr26_1 kr26_2 kr29_0 kr29_1)
  (refine Cn_el vcn0 ?_; intros ki5_2 ki6_2 ki7_2 ki8_1 ki8_2 ki8_3 ki9_1 ki9_2 ki9_3 ki10_1 ki10_2 ki10_3 ki11_1 ki11_2 ki11_3 ki12_1 ki12_2 ki12_3 ki13_1 ki13_2 ki13_3 ki14_1 ki14_2 ki14_3 ki28_0 ki28_1 ki31_0 ki31_1 ki32_0 ki32_1 ki33_0 ki33_1 ki34_0 ki34_1 ki35_0 ki35_1 ki36_0 ki36_1)
  have hAe : ∀ i j, i < 40 → j < 40 → (A i = A j ↔ i = j) := hA
  have hta : ∀ i, i < 40 → (A i = g_t h) = False := fun i hi => eq_false (fun z => by have := kt i hi; omega)
  have hta2 : ∀ i, i < 40 → (g_t h = A i) = False := fun i hi => eq_false (fun z => by have := kt i hi; omega)
  have hzt : g_z h ≤ g_t h := Nat.le_trans (kz 0 (by decide)) (Nat.le_of_lt (kt 0 (by decide)))
  have hl2 := vl0
  obtain ⟨⟨b1, b2, b3, b4, b5, b6⟩, ln⟩ := hl2
  replace b1 := b1.symm
  replace b2 := b2.symm
  replace b3 := b3.symm
  replace b4 := b4.symm
  replace b5 := b5.symm
  replace b6 := b6.symm
  by_cases ps : g_i h (A 15) 3 = 0
  all_goals
    simp only [o228_0, o228_1, o228_4, o228_5, o228_6, o228_7, o228_9, o228_11, o228_12, o228_13, o228_14, o228_17, o228_18, o228_19, o228_20, o228_21, o228_24, o228_25, o228_26, o228_27, o228_28, o228_31, o228_32, o228_33, o228_34, o228_35, o228_38, o228_39, o228_40, o228_41, o228_42, o228_45, o228_46, o228_47, o228_48, o228_49, o228_52, o228_55, o228_56, o228_59, o228_60, o228_61, o228_62, o228_64, o228_65, o228_68, o228_71, o228_72, o228_75, o228_76, o228_77, o228_78, o228_80, o228_81, o228_82, o228_83, o228_85, o228_86, o228_89, o228_92, o228_93, o228_96, o228_97, o228_100, o228_101, o228_103, o228_105, o228_106, o228_107, c_X7_rests, mc_pi, mc_pN, mn_pi, mn_pN, mi_pi, mi_pN, mz_pi, mz_pN, mcs_0, mcs_i, mcs_r, Kn_v, mrf_some, true_and, and_true, and_false, not_true_eq_false, not_false_eq_true, false_implies, forall_const, if_true, if_false, and_self, Nat.reduceEqDiff, Nat.reduceLeDiff, Nat.reduceSub, Nat.reduceAdd, Nat.le_refl, Int32.reduceLT, cl0, cl1, cl2, cl3, cl4, cl5, cl6, cl7, cl8, cl9, Nat.reduceLT, kc22, kc29, kc37, kn29, kr22_7, kr29_0, hta, hzt, vpk, Int32.reduceLT, b1, b2, b3, b4, b5, b6, ps, dv_0] at hQ ⊢
    exact hQ _ (show Fr (h) _ from (Fr_pi (Fr_pi (Fr_pi (Fr_pi (Fr_pi (Fr_pi (Fr_pi (Fr_pi (Fr_pi (Fr_pN Fr_rfl) (Nat.le_refl _)) (Nat.le_refl _)) (Nat.le_refl _)) (Nat.le_refl _)) (Nat.le_refl _)) (Nat.le_refl _)) (Nat.le_refl _)) (Nat.le_refl _)) (Nat.le_refl _)))

theorem m_leX0_6 {A : Nat → Nat} {h : MH} {Q : MR → MH → Prop} (R : Rl A h) (hQ : ∀ m, Fr h m → Q (.inl (some (.int (if g_i h (A 15) 3 = 0 then 1 else 0)))) m) : Ok 228 0 [.ref (A 22), .int 0, .int 6, mk0, mk0] [] h 1 9 Q := by
  have R0 := R
  obtain ⟨vk, vcn, v0, v1, v2, vp, vl0, vl1, vlr, vsr, vc, tx⟩ := R0
  have vk0 := vk
  have vcn0 := vcn
  (refine K_el vk0 ?_; intros hA kc0 kc1 kc2 kc3 kc4 kc5 kc6 kc7 kc8 kc9 kc10 kc11 kc12 kc13 kc14 kc15 kc16 kc17 kc18 kc19 kc20 kc21 kc22 kc23 kc24 kc25 kc26 kc27 kc28 kc29 kc30 kc31 kc32 kc33 kc34 kc35 kc36 kc37 kc38 kc39 kz kt kn3 kn4 kn18 kn21 kn23 kn24 kn25 kn26 kn27 kn29 kn30 kr0_0 kr0_1 kr0_2 kr0_3 kr0_4 kr0_5 kr0_7 kr0_8 kr0_9 kr0_10 kr1_0 kr2_0 kr5_0 kr5_1 kr6_0 kr6_1 kr7_0 kr7_1 kr8_0 kr9_0 kr10_0 kr11_0 kr12_0 kr13_0 kr14_0 kr15_0 kr16_0 kr17_0 kr19_0 kr19_1 kr22_0 kr22_1 kr22_2 kr22_3 kr22_4 kr22_5 kr22_7 kr22_8 kr25_0 kr25_1 kr25_2 kr26_0 kr26_1 kr26_2 kr29_0 kr29_1)
  (refine Cn_el vcn0 ?_; intros ki5_2 ki6_2 ki7_2 ki8_1 ki8_2 ki8_3 ki9_1 ki9_2 ki9_3 ki10_1 ki10_2 ki10_3 ki11_1 ki11_2 ki11_3 ki12_1 ki12_2 ki12_3 ki13_1 ki13_2 ki13_3 ki14_1 ki14_2 ki14_3 ki28_0 ki28_1 ki31_0 ki31_1 ki32_0 ki32_1 ki33_0 ki33_1 ki34_0 ki34_1 ki35_0 ki35_1 ki36_0 ki36_1)
  have hAe : ∀ i j, i < 40 → j < 40 → (A i = A j ↔ i = j) := hA
  have hta : ∀ i, i < 40 → (A i = g_t h) = False := fun i hi => eq_false (fun z => by have := kt i hi; omega)
  have hta2 : ∀ i, i < 40 → (g_t h = A i) = False := fun i hi => eq_false (fun z => by have := kt i hi; omega)
  have hzt : g_z h ≤ g_t h := Nat.le_trans (kz 0 (by decide)) (Nat.le_of_lt (kt 0 (by decide)))
  have hl2 := vl0
  obtain ⟨⟨b1, b2, b3, b4, b5, b6⟩, ln⟩ := hl2
  replace b1 := b1.symm
  replace b2 := b2.symm
  replace b3 := b3.symm
  replace b4 := b4.symm
  replace b5 := b5.symm
  replace b6 := b6.symm
  by_cases ps : g_i h (A 15) 3 = 0
  all_goals
    simp only [o228_0, o228_1, o228_4, o228_5, o228_6, o228_7, o228_9, o228_11, o228_12, o228_13, o228_14, o228_17, o228_18, o228_19, o228_20, o228_21, o228_24, o228_25, o228_26, o228_27, o228_28, o228_31, o228_32, o228_33, o228_34, o228_35, o228_38, o228_39, o228_40, o228_41, o228_42, o228_45, o228_46, o228_47, o228_48, o228_49, o228_52, o228_55, o228_56, o228_59, o228_60, o228_61, o228_62, o228_64, o228_65, o228_68, o228_71, o228_72, o228_75, o228_76, o228_77, o228_78, o228_80, o228_81, o228_82, o228_83, o228_85, o228_86, o228_89, o228_92, o228_93, o228_96, o228_97, o228_100, o228_101, o228_103, o228_105, o228_106, o228_107, c_X7_rests, mc_pi, mc_pN, mn_pi, mn_pN, mi_pi, mi_pN, mz_pi, mz_pN, mcs_0, mcs_i, mcs_r, Kn_v, mrf_some, true_and, and_true, and_false, not_true_eq_false, not_false_eq_true, false_implies, forall_const, if_true, if_false, and_self, Nat.reduceEqDiff, Nat.reduceLeDiff, Nat.reduceSub, Nat.reduceAdd, Nat.le_refl, Int32.reduceLT, cl0, cl1, cl2, cl3, cl4, cl5, cl6, cl7, cl8, cl9, Nat.reduceLT, kc22, kc29, kc37, kn29, kr22_7, kr29_0, hta, hzt, vpk, Int32.reduceLT, b1, b2, b3, b4, b5, b6, ps, dv_0] at hQ ⊢
    exact hQ _ (show Fr (h) _ from (Fr_pi (Fr_pi (Fr_pi (Fr_pi (Fr_pi (Fr_pi (Fr_pi (Fr_pi (Fr_pi (Fr_pN Fr_rfl) (Nat.le_refl _)) (Nat.le_refl _)) (Nat.le_refl _)) (Nat.le_refl _)) (Nat.le_refl _)) (Nat.le_refl _)) (Nat.le_refl _)) (Nat.le_refl _)) (Nat.le_refl _)))

theorem m_leX0_7 {A : Nat → Nat} {h : MH} {Q : MR → MH → Prop} (R : Rl A h) (hQ : ∀ m, Fr h m → Q (.inl (some (.int (0)))) m) : Ok 228 0 [.ref (A 22), .int 0, .int 7, mk0, mk0] [] h 1 9 Q := by
  have R0 := R
  obtain ⟨vk, vcn, v0, v1, v2, vp, vl0, vl1, vlr, vsr, vc, tx⟩ := R0
  have vk0 := vk
  have vcn0 := vcn
  (refine K_el vk0 ?_; intros hA kc0 kc1 kc2 kc3 kc4 kc5 kc6 kc7 kc8 kc9 kc10 kc11 kc12 kc13 kc14 kc15 kc16 kc17 kc18 kc19 kc20 kc21 kc22 kc23 kc24 kc25 kc26 kc27 kc28 kc29 kc30 kc31 kc32 kc33 kc34 kc35 kc36 kc37 kc38 kc39 kz kt kn3 kn4 kn18 kn21 kn23 kn24 kn25 kn26 kn27 kn29 kn30 kr0_0 kr0_1 kr0_2 kr0_3 kr0_4 kr0_5 kr0_7 kr0_8 kr0_9 kr0_10 kr1_0 kr2_0 kr5_0 kr5_1 kr6_0 kr6_1 kr7_0 kr7_1 kr8_0 kr9_0 kr10_0 kr11_0 kr12_0 kr13_0 kr14_0 kr15_0 kr16_0 kr17_0 kr19_0 kr19_1 kr22_0 kr22_1 kr22_2 kr22_3 kr22_4 kr22_5 kr22_7 kr22_8 kr25_0 kr25_1 kr25_2 kr26_0 kr26_1 kr26_2 kr29_0 kr29_1)
  (refine Cn_el vcn0 ?_; intros ki5_2 ki6_2 ki7_2 ki8_1 ki8_2 ki8_3 ki9_1 ki9_2 ki9_3 ki10_1 ki10_2 ki10_3 ki11_1 ki11_2 ki11_3 ki12_1 ki12_2 ki12_3 ki13_1 ki13_2 ki13_3 ki14_1 ki14_2 ki14_3 ki28_0 ki28_1 ki31_0 ki31_1 ki32_0 ki32_1 ki33_0 ki33_1 ki34_0 ki34_1 ki35_0 ki35_1 ki36_0 ki36_1)
  have hAe : ∀ i j, i < 40 → j < 40 → (A i = A j ↔ i = j) := hA
  have hta : ∀ i, i < 40 → (A i = g_t h) = False := fun i hi => eq_false (fun z => by have := kt i hi; omega)
  have hta2 : ∀ i, i < 40 → (g_t h = A i) = False := fun i hi => eq_false (fun z => by have := kt i hi; omega)
  have hzt : g_z h ≤ g_t h := Nat.le_trans (kz 0 (by decide)) (Nat.le_of_lt (kt 0 (by decide)))
  have hl2 := vl0
  obtain ⟨⟨b1, b2, b3, b4, b5, b6⟩, ln⟩ := hl2
  replace b1 := b1.symm
  replace b2 := b2.symm
  replace b3 := b3.symm
  replace b4 := b4.symm
  replace b5 := b5.symm
  replace b6 := b6.symm
  by_cases ps : g_i h (A 15) 3 = 0
  all_goals
    simp only [o228_0, o228_1, o228_4, o228_5, o228_6, o228_7, o228_9, o228_11, o228_12, o228_13, o228_14, o228_17, o228_18, o228_19, o228_20, o228_21, o228_24, o228_25, o228_26, o228_27, o228_28, o228_31, o228_32, o228_33, o228_34, o228_35, o228_38, o228_39, o228_40, o228_41, o228_42, o228_45, o228_46, o228_47, o228_48, o228_49, o228_52, o228_55, o228_56, o228_59, o228_60, o228_61, o228_62, o228_64, o228_65, o228_68, o228_71, o228_72, o228_75, o228_76, o228_77, o228_78, o228_80, o228_81, o228_82, o228_83, o228_85, o228_86, o228_89, o228_92, o228_93, o228_96, o228_97, o228_100, o228_101, o228_103, o228_105, o228_106, o228_107, c_X7_rests, mc_pi, mc_pN, mn_pi, mn_pN, mi_pi, mi_pN, mz_pi, mz_pN, mcs_0, mcs_i, mcs_r, Kn_v, mrf_some, true_and, and_true, and_false, not_true_eq_false, not_false_eq_true, false_implies, forall_const, if_true, if_false, and_self, Nat.reduceEqDiff, Nat.reduceLeDiff, Nat.reduceSub, Nat.reduceAdd, Nat.le_refl, Int32.reduceLT, cl0, cl1, cl2, cl3, cl4, cl5, cl6, cl7, cl8, cl9, Nat.reduceLT, kc22, kc29, kc37, kn29, kr22_7, kr29_0, hta, hzt, vpk, Int32.reduceLT, b1, b2, b3, b4, b5, b6, ps, dv_0] at hQ ⊢
    exact hQ _ (show Fr (h) _ from (Fr_pi (Fr_pi (Fr_pi (Fr_pi (Fr_pi (Fr_pi (Fr_pi (Fr_pi (Fr_pi (Fr_pN Fr_rfl) (Nat.le_refl _)) (Nat.le_refl _)) (Nat.le_refl _)) (Nat.le_refl _)) (Nat.le_refl _)) (Nat.le_refl _)) (Nat.le_refl _)) (Nat.le_refl _)) (Nat.le_refl _)))

theorem m_leX0_8 {A : Nat → Nat} {h : MH} {Q : MR → MH → Prop} (R : Rl A h) (hQ : ∀ m, Fr h m → Q (.inl (some (.int (if g_i h (A 15) 3 = 0 then g_i h (A 15) 1 else -1)))) m) : Ok 228 0 [.ref (A 22), .int 0, .int 8, mk0, mk0] [] h 1 9 Q := by
  have R0 := R
  obtain ⟨vk, vcn, v0, v1, v2, vp, vl0, vl1, vlr, vsr, vc, tx⟩ := R0
  have vk0 := vk
  have vcn0 := vcn
  (refine K_el vk0 ?_; intros hA kc0 kc1 kc2 kc3 kc4 kc5 kc6 kc7 kc8 kc9 kc10 kc11 kc12 kc13 kc14 kc15 kc16 kc17 kc18 kc19 kc20 kc21 kc22 kc23 kc24 kc25 kc26 kc27 kc28 kc29 kc30 kc31 kc32 kc33 kc34 kc35 kc36 kc37 kc38 kc39 kz kt kn3 kn4 kn18 kn21 kn23 kn24 kn25 kn26 kn27 kn29 kn30 kr0_0 kr0_1 kr0_2 kr0_3 kr0_4 kr0_5 kr0_7 kr0_8 kr0_9 kr0_10 kr1_0 kr2_0 kr5_0 kr5_1 kr6_0 kr6_1 kr7_0 kr7_1 kr8_0 kr9_0 kr10_0 kr11_0 kr12_0 kr13_0 kr14_0 kr15_0 kr16_0 kr17_0 kr19_0 kr19_1 kr22_0 kr22_1 kr22_2 kr22_3 kr22_4 kr22_5 kr22_7 kr22_8 kr25_0 kr25_1 kr25_2 kr26_0 kr26_1 kr26_2 kr29_0 kr29_1)
  (refine Cn_el vcn0 ?_; intros ki5_2 ki6_2 ki7_2 ki8_1 ki8_2 ki8_3 ki9_1 ki9_2 ki9_3 ki10_1 ki10_2 ki10_3 ki11_1 ki11_2 ki11_3 ki12_1 ki12_2 ki12_3 ki13_1 ki13_2 ki13_3 ki14_1 ki14_2 ki14_3 ki28_0 ki28_1 ki31_0 ki31_1 ki32_0 ki32_1 ki33_0 ki33_1 ki34_0 ki34_1 ki35_0 ki35_1 ki36_0 ki36_1)
  have hAe : ∀ i j, i < 40 → j < 40 → (A i = A j ↔ i = j) := hA
  have hta : ∀ i, i < 40 → (A i = g_t h) = False := fun i hi => eq_false (fun z => by have := kt i hi; omega)
  have hta2 : ∀ i, i < 40 → (g_t h = A i) = False := fun i hi => eq_false (fun z => by have := kt i hi; omega)
  have hzt : g_z h ≤ g_t h := Nat.le_trans (kz 0 (by decide)) (Nat.le_of_lt (kt 0 (by decide)))
  have hl2 := vl0
  obtain ⟨⟨b1, b2, b3, b4, b5, b6⟩, ln⟩ := hl2
  replace b1 := b1.symm
  replace b2 := b2.symm
  replace b3 := b3.symm
  replace b4 := b4.symm
  replace b5 := b5.symm
  replace b6 := b6.symm
  by_cases ps : g_i h (A 15) 3 = 0
  all_goals
    simp only [o228_0, o228_1, o228_4, o228_5, o228_6, o228_7, o228_9, o228_11, o228_12, o228_13, o228_14, o228_17, o228_18, o228_19, o228_20, o228_21, o228_24, o228_25, o228_26, o228_27, o228_28, o228_31, o228_32, o228_33, o228_34, o228_35, o228_38, o228_39, o228_40, o228_41, o228_42, o228_45, o228_46, o228_47, o228_48, o228_49, o228_52, o228_55, o228_56, o228_59, o228_60, o228_61, o228_62, o228_64, o228_65, o228_68, o228_71, o228_72, o228_75, o228_76, o228_77, o228_78, o228_80, o228_81, o228_82, o228_83, o228_85, o228_86, o228_89, o228_92, o228_93, o228_96, o228_97, o228_100, o228_101, o228_103, o228_105, o228_106, o228_107, c_X7_rests, mc_pi, mc_pN, mn_pi, mn_pN, mi_pi, mi_pN, mz_pi, mz_pN, mcs_0, mcs_i, mcs_r, Kn_v, mrf_some, true_and, and_true, and_false, not_true_eq_false, not_false_eq_true, false_implies, forall_const, if_true, if_false, and_self, Nat.reduceEqDiff, Nat.reduceLeDiff, Nat.reduceSub, Nat.reduceAdd, Nat.le_refl, Int32.reduceLT, cl0, cl1, cl2, cl3, cl4, cl5, cl6, cl7, cl8, cl9, Nat.reduceLT, kc22, kc29, kc37, kn29, kr22_7, kr29_0, hta, hzt, vpk, Int32.reduceLT, b1, b2, b3, b4, b5, b6, ps, dv_0] at hQ ⊢
    exact hQ _ (show Fr (h) _ from (Fr_pi (Fr_pi (Fr_pi (Fr_pi (Fr_pi (Fr_pi (Fr_pi (Fr_pi (Fr_pi (Fr_pN Fr_rfl) (Nat.le_refl _)) (Nat.le_refl _)) (Nat.le_refl _)) (Nat.le_refl _)) (Nat.le_refl _)) (Nat.le_refl _)) (Nat.le_refl _)) (Nat.le_refl _)) (Nat.le_refl _)))

theorem m_leX1_0 {A : Nat → Nat} {h : MH} {Q : MR → MH → Prop} (R : Rl A h) (hQ : ∀ m, Fr h m → Q (.inl (some (.int (g_i h (A 16) 4)))) m) : Ok 228 0 [.ref (A 22), .int 1, .int 0, mk0, mk0] [] h 1 9 Q := by
  have R0 := R
  obtain ⟨vk, vcn, v0, v1, v2, vp, vl0, vl1, vlr, vsr, vc, tx⟩ := R0
  have vk0 := vk
  have vcn0 := vcn
  (refine K_el vk0 ?_; intros hA kc0 kc1 kc2 kc3 kc4 kc5 kc6 kc7 kc8 kc9 kc10 kc11 kc12 kc13 kc14 kc15 kc16 kc17 kc18 kc19 kc20 kc21 kc22 kc23 kc24 kc25 kc26 kc27 kc28 kc29 kc30 kc31 kc32 kc33 kc34 kc35 kc36 kc37 kc38 kc39 kz kt kn3 kn4 kn18 kn21 kn23 kn24 kn25 kn26 kn27 kn29 kn30 kr0_0 kr0_1 kr0_2 kr0_3 kr0_4 kr0_5 kr0_7 kr0_8 kr0_9 kr0_10 kr1_0 kr2_0 kr5_0 kr5_1 kr6_0 kr6_1 kr7_0 kr7_1 kr8_0 kr9_0 kr10_0 kr11_0 kr12_0 kr13_0 kr14_0 kr15_0 kr16_0 kr17_0 kr19_0 kr19_1 kr22_0 kr22_1 kr22_2 kr22_3 kr22_4 kr22_5 kr22_7 kr22_8 kr25_0 kr25_1 kr25_2 kr26_0 kr26_1 kr26_2 kr29_0 kr29_1)
  (refine Cn_el vcn0 ?_; intros ki5_2 ki6_2 ki7_2 ki8_1 ki8_2 ki8_3 ki9_1 ki9_2 ki9_3 ki10_1 ki10_2 ki10_3 ki11_1 ki11_2 ki11_3 ki12_1 ki12_2 ki12_3 ki13_1 ki13_2 ki13_3 ki14_1 ki14_2 ki14_3 ki28_0 ki28_1 ki31_0 ki31_1 ki32_0 ki32_1 ki33_0 ki33_1 ki34_0 ki34_1 ki35_0 ki35_1 ki36_0 ki36_1)
  have hAe : ∀ i j, i < 40 → j < 40 → (A i = A j ↔ i = j) := hA
  have hta : ∀ i, i < 40 → (A i = g_t h) = False := fun i hi => eq_false (fun z => by have := kt i hi; omega)
  have hta2 : ∀ i, i < 40 → (g_t h = A i) = False := fun i hi => eq_false (fun z => by have := kt i hi; omega)
  have hzt : g_z h ≤ g_t h := Nat.le_trans (kz 0 (by decide)) (Nat.le_of_lt (kt 0 (by decide)))
  have hl2 := vl1
  obtain ⟨⟨b1, b2, b3, b4, b5, b6⟩, ln⟩ := hl2
  replace b1 := b1.symm
  replace b2 := b2.symm
  replace b3 := b3.symm
  replace b4 := b4.symm
  replace b5 := b5.symm
  replace b6 := b6.symm
  by_cases ps : g_i h (A 16) 3 = 0
  all_goals
    simp only [o228_0, o228_1, o228_4, o228_5, o228_6, o228_7, o228_9, o228_11, o228_12, o228_13, o228_14, o228_17, o228_18, o228_19, o228_20, o228_21, o228_24, o228_25, o228_26, o228_27, o228_28, o228_31, o228_32, o228_33, o228_34, o228_35, o228_38, o228_39, o228_40, o228_41, o228_42, o228_45, o228_46, o228_47, o228_48, o228_49, o228_52, o228_55, o228_56, o228_59, o228_60, o228_61, o228_62, o228_64, o228_65, o228_68, o228_71, o228_72, o228_75, o228_76, o228_77, o228_78, o228_80, o228_81, o228_82, o228_83, o228_85, o228_86, o228_89, o228_92, o228_93, o228_96, o228_97, o228_100, o228_101, o228_103, o228_105, o228_106, o228_107, c_X7_rests, mc_pi, mc_pN, mn_pi, mn_pN, mi_pi, mi_pN, mz_pi, mz_pN, mcs_0, mcs_i, mcs_r, Kn_v, mrf_some, true_and, and_true, and_false, not_true_eq_false, not_false_eq_true, false_implies, forall_const, if_true, if_false, and_self, Nat.reduceEqDiff, Nat.reduceLeDiff, Nat.reduceSub, Nat.reduceAdd, Nat.le_refl, Int32.reduceLT, cl0, cl1, cl2, cl3, cl4, cl5, cl6, cl7, cl8, cl9, Nat.reduceLT, kc22, kc29, kc38, kn29, kr22_7, kr29_1, hta, hzt, vpk, Int32.reduceLT, b1, b2, b3, b4, b5, b6, ps, dv_1] at hQ ⊢
    exact hQ _ (show Fr (h) _ from (Fr_pi (Fr_pi (Fr_pi (Fr_pi (Fr_pi (Fr_pi (Fr_pi (Fr_pi (Fr_pi (Fr_pN Fr_rfl) (Nat.le_refl _)) (Nat.le_refl _)) (Nat.le_refl _)) (Nat.le_refl _)) (Nat.le_refl _)) (Nat.le_refl _)) (Nat.le_refl _)) (Nat.le_refl _)) (Nat.le_refl _)))

theorem m_leX1_1 {A : Nat → Nat} {h : MH} {Q : MR → MH → Prop} (R : Rl A h) (hQ : ∀ m, Fr h m → Q (.inl (some (.int (g_i h (A 16) 5)))) m) : Ok 228 0 [.ref (A 22), .int 1, .int 1, mk0, mk0] [] h 1 9 Q := by
  have R0 := R
  obtain ⟨vk, vcn, v0, v1, v2, vp, vl0, vl1, vlr, vsr, vc, tx⟩ := R0
  have vk0 := vk
  have vcn0 := vcn
  (refine K_el vk0 ?_; intros hA kc0 kc1 kc2 kc3 kc4 kc5 kc6 kc7 kc8 kc9 kc10 kc11 kc12 kc13 kc14 kc15 kc16 kc17 kc18 kc19 kc20 kc21 kc22 kc23 kc24 kc25 kc26 kc27 kc28 kc29 kc30 kc31 kc32 kc33 kc34 kc35 kc36 kc37 kc38 kc39 kz kt kn3 kn4 kn18 kn21 kn23 kn24 kn25 kn26 kn27 kn29 kn30 kr0_0 kr0_1 kr0_2 kr0_3 kr0_4 kr0_5 kr0_7 kr0_8 kr0_9 kr0_10 kr1_0 kr2_0 kr5_0 kr5_1 kr6_0 kr6_1 kr7_0 kr7_1 kr8_0 kr9_0 kr10_0 kr11_0 kr12_0 kr13_0 kr14_0 kr15_0 kr16_0 kr17_0 kr19_0 kr19_1 kr22_0 kr22_1 kr22_2 kr22_3 kr22_4 kr22_5 kr22_7 kr22_8 kr25_0 kr25_1 kr25_2 kr26_0 kr26_1 kr26_2 kr29_0 kr29_1)
  (refine Cn_el vcn0 ?_; intros ki5_2 ki6_2 ki7_2 ki8_1 ki8_2 ki8_3 ki9_1 ki9_2 ki9_3 ki10_1 ki10_2 ki10_3 ki11_1 ki11_2 ki11_3 ki12_1 ki12_2 ki12_3 ki13_1 ki13_2 ki13_3 ki14_1 ki14_2 ki14_3 ki28_0 ki28_1 ki31_0 ki31_1 ki32_0 ki32_1 ki33_0 ki33_1 ki34_0 ki34_1 ki35_0 ki35_1 ki36_0 ki36_1)
  have hAe : ∀ i j, i < 40 → j < 40 → (A i = A j ↔ i = j) := hA
  have hta : ∀ i, i < 40 → (A i = g_t h) = False := fun i hi => eq_false (fun z => by have := kt i hi; omega)
  have hta2 : ∀ i, i < 40 → (g_t h = A i) = False := fun i hi => eq_false (fun z => by have := kt i hi; omega)
  have hzt : g_z h ≤ g_t h := Nat.le_trans (kz 0 (by decide)) (Nat.le_of_lt (kt 0 (by decide)))
  have hl2 := vl1
  obtain ⟨⟨b1, b2, b3, b4, b5, b6⟩, ln⟩ := hl2
  replace b1 := b1.symm
  replace b2 := b2.symm
  replace b3 := b3.symm
  replace b4 := b4.symm
  replace b5 := b5.symm
  replace b6 := b6.symm
  by_cases ps : g_i h (A 16) 3 = 0
  all_goals
    simp only [o228_0, o228_1, o228_4, o228_5, o228_6, o228_7, o228_9, o228_11, o228_12, o228_13, o228_14, o228_17, o228_18, o228_19, o228_20, o228_21, o228_24, o228_25, o228_26, o228_27, o228_28, o228_31, o228_32, o228_33, o228_34, o228_35, o228_38, o228_39, o228_40, o228_41, o228_42, o228_45, o228_46, o228_47, o228_48, o228_49, o228_52, o228_55, o228_56, o228_59, o228_60, o228_61, o228_62, o228_64, o228_65, o228_68, o228_71, o228_72, o228_75, o228_76, o228_77, o228_78, o228_80, o228_81, o228_82, o228_83, o228_85, o228_86, o228_89, o228_92, o228_93, o228_96, o228_97, o228_100, o228_101, o228_103, o228_105, o228_106, o228_107, c_X7_rests, mc_pi, mc_pN, mn_pi, mn_pN, mi_pi, mi_pN, mz_pi, mz_pN, mcs_0, mcs_i, mcs_r, Kn_v, mrf_some, true_and, and_true, and_false, not_true_eq_false, not_false_eq_true, false_implies, forall_const, if_true, if_false, and_self, Nat.reduceEqDiff, Nat.reduceLeDiff, Nat.reduceSub, Nat.reduceAdd, Nat.le_refl, Int32.reduceLT, cl0, cl1, cl2, cl3, cl4, cl5, cl6, cl7, cl8, cl9, Nat.reduceLT, kc22, kc29, kc38, kn29, kr22_7, kr29_1, hta, hzt, vpk, Int32.reduceLT, b1, b2, b3, b4, b5, b6, ps, dv_1] at hQ ⊢
    exact hQ _ (show Fr (h) _ from (Fr_pi (Fr_pi (Fr_pi (Fr_pi (Fr_pi (Fr_pi (Fr_pi (Fr_pi (Fr_pi (Fr_pN Fr_rfl) (Nat.le_refl _)) (Nat.le_refl _)) (Nat.le_refl _)) (Nat.le_refl _)) (Nat.le_refl _)) (Nat.le_refl _)) (Nat.le_refl _)) (Nat.le_refl _)) (Nat.le_refl _)))

theorem m_leX1_2 {A : Nat → Nat} {h : MH} {Q : MR → MH → Prop} (R : Rl A h) (hQ : ∀ m, Fr h m → Q (.inl (some (.int (g_i h (A 16) 2)))) m) : Ok 228 0 [.ref (A 22), .int 1, .int 2, mk0, mk0] [] h 1 9 Q := by
  have R0 := R
  obtain ⟨vk, vcn, v0, v1, v2, vp, vl0, vl1, vlr, vsr, vc, tx⟩ := R0
  have vk0 := vk
  have vcn0 := vcn
  (refine K_el vk0 ?_; intros hA kc0 kc1 kc2 kc3 kc4 kc5 kc6 kc7 kc8 kc9 kc10 kc11 kc12 kc13 kc14 kc15 kc16 kc17 kc18 kc19 kc20 kc21 kc22 kc23 kc24 kc25 kc26 kc27 kc28 kc29 kc30 kc31 kc32 kc33 kc34 kc35 kc36 kc37 kc38 kc39 kz kt kn3 kn4 kn18 kn21 kn23 kn24 kn25 kn26 kn27 kn29 kn30 kr0_0 kr0_1 kr0_2 kr0_3 kr0_4 kr0_5 kr0_7 kr0_8 kr0_9 kr0_10 kr1_0 kr2_0 kr5_0 kr5_1 kr6_0 kr6_1 kr7_0 kr7_1 kr8_0 kr9_0 kr10_0 kr11_0 kr12_0 kr13_0 kr14_0 kr15_0 kr16_0 kr17_0 kr19_0 kr19_1 kr22_0 kr22_1 kr22_2 kr22_3 kr22_4 kr22_5 kr22_7 kr22_8 kr25_0 kr25_1 kr25_2 kr26_0 kr26_1 kr26_2 kr29_0 kr29_1)
  (refine Cn_el vcn0 ?_; intros ki5_2 ki6_2 ki7_2 ki8_1 ki8_2 ki8_3 ki9_1 ki9_2 ki9_3 ki10_1 ki10_2 ki10_3 ki11_1 ki11_2 ki11_3 ki12_1 ki12_2 ki12_3 ki13_1 ki13_2 ki13_3 ki14_1 ki14_2 ki14_3 ki28_0 ki28_1 ki31_0 ki31_1 ki32_0 ki32_1 ki33_0 ki33_1 ki34_0 ki34_1 ki35_0 ki35_1 ki36_0 ki36_1)
  have hAe : ∀ i j, i < 40 → j < 40 → (A i = A j ↔ i = j) := hA
  have hta : ∀ i, i < 40 → (A i = g_t h) = False := fun i hi => eq_false (fun z => by have := kt i hi; omega)
  have hta2 : ∀ i, i < 40 → (g_t h = A i) = False := fun i hi => eq_false (fun z => by have := kt i hi; omega)
  have hzt : g_z h ≤ g_t h := Nat.le_trans (kz 0 (by decide)) (Nat.le_of_lt (kt 0 (by decide)))
  have hl2 := vl1
  obtain ⟨⟨b1, b2, b3, b4, b5, b6⟩, ln⟩ := hl2
  replace b1 := b1.symm
  replace b2 := b2.symm
  replace b3 := b3.symm
  replace b4 := b4.symm
  replace b5 := b5.symm
  replace b6 := b6.symm
  by_cases ps : g_i h (A 16) 3 = 0
  all_goals
    simp only [o228_0, o228_1, o228_4, o228_5, o228_6, o228_7, o228_9, o228_11, o228_12, o228_13, o228_14, o228_17, o228_18, o228_19, o228_20, o228_21, o228_24, o228_25, o228_26, o228_27, o228_28, o228_31, o228_32, o228_33, o228_34, o228_35, o228_38, o228_39, o228_40, o228_41, o228_42, o228_45, o228_46, o228_47, o228_48, o228_49, o228_52, o228_55, o228_56, o228_59, o228_60, o228_61, o228_62, o228_64, o228_65, o228_68, o228_71, o228_72, o228_75, o228_76, o228_77, o228_78, o228_80, o228_81, o228_82, o228_83, o228_85, o228_86, o228_89, o228_92, o228_93, o228_96, o228_97, o228_100, o228_101, o228_103, o228_105, o228_106, o228_107, c_X7_rests, mc_pi, mc_pN, mn_pi, mn_pN, mi_pi, mi_pN, mz_pi, mz_pN, mcs_0, mcs_i, mcs_r, Kn_v, mrf_some, true_and, and_true, and_false, not_true_eq_false, not_false_eq_true, false_implies, forall_const, if_true, if_false, and_self, Nat.reduceEqDiff, Nat.reduceLeDiff, Nat.reduceSub, Nat.reduceAdd, Nat.le_refl, Int32.reduceLT, cl0, cl1, cl2, cl3, cl4, cl5, cl6, cl7, cl8, cl9, Nat.reduceLT, kc22, kc29, kc38, kn29, kr22_7, kr29_1, hta, hzt, vpk, Int32.reduceLT, b1, b2, b3, b4, b5, b6, ps, dv_1] at hQ ⊢
    exact hQ _ (show Fr (h) _ from (Fr_pi (Fr_pi (Fr_pi (Fr_pi (Fr_pi (Fr_pi (Fr_pi (Fr_pi (Fr_pi (Fr_pN Fr_rfl) (Nat.le_refl _)) (Nat.le_refl _)) (Nat.le_refl _)) (Nat.le_refl _)) (Nat.le_refl _)) (Nat.le_refl _)) (Nat.le_refl _)) (Nat.le_refl _)) (Nat.le_refl _)))

theorem m_leX1_3 {A : Nat → Nat} {h : MH} {Q : MR → MH → Prop} (R : Rl A h) (hQ : ∀ m, Fr h m → Q (.inl (some (.int (g_i h (A 16) 5 - g_i h (A 16) 4)))) m) : Ok 228 0 [.ref (A 22), .int 1, .int 3, mk0, mk0] [] h 1 9 Q := by
  have R0 := R
  obtain ⟨vk, vcn, v0, v1, v2, vp, vl0, vl1, vlr, vsr, vc, tx⟩ := R0
  have vk0 := vk
  have vcn0 := vcn
  (refine K_el vk0 ?_; intros hA kc0 kc1 kc2 kc3 kc4 kc5 kc6 kc7 kc8 kc9 kc10 kc11 kc12 kc13 kc14 kc15 kc16 kc17 kc18 kc19 kc20 kc21 kc22 kc23 kc24 kc25 kc26 kc27 kc28 kc29 kc30 kc31 kc32 kc33 kc34 kc35 kc36 kc37 kc38 kc39 kz kt kn3 kn4 kn18 kn21 kn23 kn24 kn25 kn26 kn27 kn29 kn30 kr0_0 kr0_1 kr0_2 kr0_3 kr0_4 kr0_5 kr0_7 kr0_8 kr0_9 kr0_10 kr1_0 kr2_0 kr5_0 kr5_1 kr6_0 kr6_1 kr7_0 kr7_1 kr8_0 kr9_0 kr10_0 kr11_0 kr12_0 kr13_0 kr14_0 kr15_0 kr16_0 kr17_0 kr19_0 kr19_1 kr22_0 kr22_1 kr22_2 kr22_3 kr22_4 kr22_5 kr22_7 kr22_8 kr25_0 kr25_1 kr25_2 kr26_0 kr26_1 kr26_2 kr29_0 kr29_1)
  (refine Cn_el vcn0 ?_; intros ki5_2 ki6_2 ki7_2 ki8_1 ki8_2 ki8_3 ki9_1 ki9_2 ki9_3 ki10_1 ki10_2 ki10_3 ki11_1 ki11_2 ki11_3 ki12_1 ki12_2 ki12_3 ki13_1 ki13_2 ki13_3 ki14_1 ki14_2 ki14_3 ki28_0 ki28_1 ki31_0 ki31_1 ki32_0 ki32_1 ki33_0 ki33_1 ki34_0 ki34_1 ki35_0 ki35_1 ki36_0 ki36_1)
  have hAe : ∀ i j, i < 40 → j < 40 → (A i = A j ↔ i = j) := hA
  have hta : ∀ i, i < 40 → (A i = g_t h) = False := fun i hi => eq_false (fun z => by have := kt i hi; omega)
  have hta2 : ∀ i, i < 40 → (g_t h = A i) = False := fun i hi => eq_false (fun z => by have := kt i hi; omega)
  have hzt : g_z h ≤ g_t h := Nat.le_trans (kz 0 (by decide)) (Nat.le_of_lt (kt 0 (by decide)))
  have hl2 := vl1
  obtain ⟨⟨b1, b2, b3, b4, b5, b6⟩, ln⟩ := hl2
  replace b1 := b1.symm
  replace b2 := b2.symm
  replace b3 := b3.symm
  replace b4 := b4.symm
  replace b5 := b5.symm
  replace b6 := b6.symm
  by_cases ps : g_i h (A 16) 3 = 0
  all_goals
    simp only [o228_0, o228_1, o228_4, o228_5, o228_6, o228_7, o228_9, o228_11, o228_12, o228_13, o228_14, o228_17, o228_18, o228_19, o228_20, o228_21, o228_24, o228_25, o228_26, o228_27, o228_28, o228_31, o228_32, o228_33, o228_34, o228_35, o228_38, o228_39, o228_40, o228_41, o228_42, o228_45, o228_46, o228_47, o228_48, o228_49, o228_52, o228_55, o228_56, o228_59, o228_60, o228_61, o228_62, o228_64, o228_65, o228_68, o228_71, o228_72, o228_75, o228_76, o228_77, o228_78, o228_80, o228_81, o228_82, o228_83, o228_85, o228_86, o228_89, o228_92, o228_93, o228_96, o228_97, o228_100, o228_101, o228_103, o228_105, o228_106, o228_107, c_X7_rests, mc_pi, mc_pN, mn_pi, mn_pN, mi_pi, mi_pN, mz_pi, mz_pN, mcs_0, mcs_i, mcs_r, Kn_v, mrf_some, true_and, and_true, and_false, not_true_eq_false, not_false_eq_true, false_implies, forall_const, if_true, if_false, and_self, Nat.reduceEqDiff, Nat.reduceLeDiff, Nat.reduceSub, Nat.reduceAdd, Nat.le_refl, Int32.reduceLT, cl0, cl1, cl2, cl3, cl4, cl5, cl6, cl7, cl8, cl9, Nat.reduceLT, kc22, kc29, kc38, kn29, kr22_7, kr29_1, hta, hzt, vpk, Int32.reduceLT, b1, b2, b3, b4, b5, b6, ps, dv_1] at hQ ⊢
    exact hQ _ (show Fr (h) _ from (Fr_pi (Fr_pi (Fr_pi (Fr_pi (Fr_pi (Fr_pi (Fr_pi (Fr_pi (Fr_pi (Fr_pN Fr_rfl) (Nat.le_refl _)) (Nat.le_refl _)) (Nat.le_refl _)) (Nat.le_refl _)) (Nat.le_refl _)) (Nat.le_refl _)) (Nat.le_refl _)) (Nat.le_refl _)) (Nat.le_refl _)))

theorem m_leX1_4 {A : Nat → Nat} {h : MH} {Q : MR → MH → Prop} (R : Rl A h) (hQ : ∀ m, Fr h m → Q (.inl (some (.int (g_i h (A 16) 6)))) m) : Ok 228 0 [.ref (A 22), .int 1, .int 4, mk0, mk0] [] h 1 9 Q := by
  have R0 := R
  obtain ⟨vk, vcn, v0, v1, v2, vp, vl0, vl1, vlr, vsr, vc, tx⟩ := R0
  have vk0 := vk
  have vcn0 := vcn
  (refine K_el vk0 ?_; intros hA kc0 kc1 kc2 kc3 kc4 kc5 kc6 kc7 kc8 kc9 kc10 kc11 kc12 kc13 kc14 kc15 kc16 kc17 kc18 kc19 kc20 kc21 kc22 kc23 kc24 kc25 kc26 kc27 kc28 kc29 kc30 kc31 kc32 kc33 kc34 kc35 kc36 kc37 kc38 kc39 kz kt kn3 kn4 kn18 kn21 kn23 kn24 kn25 kn26 kn27 kn29 kn30 kr0_0 kr0_1 kr0_2 kr0_3 kr0_4 kr0_5 kr0_7 kr0_8 kr0_9 kr0_10 kr1_0 kr2_0 kr5_0 kr5_1 kr6_0 kr6_1 kr7_0 kr7_1 kr8_0 kr9_0 kr10_0 kr11_0 kr12_0 kr13_0 kr14_0 kr15_0 kr16_0 kr17_0 kr19_0 kr19_1 kr22_0 kr22_1 kr22_2 kr22_3 kr22_4 kr22_5 kr22_7 kr22_8 kr25_0 kr25_1 kr25_2 kr26_0 kr26_1 kr26_2 kr29_0 kr29_1)
  (refine Cn_el vcn0 ?_; intros ki5_2 ki6_2 ki7_2 ki8_1 ki8_2 ki8_3 ki9_1 ki9_2 ki9_3 ki10_1 ki10_2 ki10_3 ki11_1 ki11_2 ki11_3 ki12_1 ki12_2 ki12_3 ki13_1 ki13_2 ki13_3 ki14_1 ki14_2 ki14_3 ki28_0 ki28_1 ki31_0 ki31_1 ki32_0 ki32_1 ki33_0 ki33_1 ki34_0 ki34_1 ki35_0 ki35_1 ki36_0 ki36_1)
  have hAe : ∀ i j, i < 40 → j < 40 → (A i = A j ↔ i = j) := hA
  have hta : ∀ i, i < 40 → (A i = g_t h) = False := fun i hi => eq_false (fun z => by have := kt i hi; omega)
  have hta2 : ∀ i, i < 40 → (g_t h = A i) = False := fun i hi => eq_false (fun z => by have := kt i hi; omega)
  have hzt : g_z h ≤ g_t h := Nat.le_trans (kz 0 (by decide)) (Nat.le_of_lt (kt 0 (by decide)))
  have hl2 := vl1
  obtain ⟨⟨b1, b2, b3, b4, b5, b6⟩, ln⟩ := hl2
  replace b1 := b1.symm
  replace b2 := b2.symm
  replace b3 := b3.symm
  replace b4 := b4.symm
  replace b5 := b5.symm
  replace b6 := b6.symm
  by_cases ps : g_i h (A 16) 3 = 0
  all_goals
    simp only [o228_0, o228_1, o228_4, o228_5, o228_6, o228_7, o228_9, o228_11, o228_12, o228_13, o228_14, o228_17, o228_18, o228_19, o228_20, o228_21, o228_24, o228_25, o228_26, o228_27, o228_28, o228_31, o228_32, o228_33, o228_34, o228_35, o228_38, o228_39, o228_40, o228_41, o228_42, o228_45, o228_46, o228_47, o228_48, o228_49, o228_52, o228_55, o228_56, o228_59, o228_60, o228_61, o228_62, o228_64, o228_65, o228_68, o228_71, o228_72, o228_75, o228_76, o228_77, o228_78, o228_80, o228_81, o228_82, o228_83, o228_85, o228_86, o228_89, o228_92, o228_93, o228_96, o228_97, o228_100, o228_101, o228_103, o228_105, o228_106, o228_107, c_X7_rests, mc_pi, mc_pN, mn_pi, mn_pN, mi_pi, mi_pN, mz_pi, mz_pN, mcs_0, mcs_i, mcs_r, Kn_v, mrf_some, true_and, and_true, and_false, not_true_eq_false, not_false_eq_true, false_implies, forall_const, if_true, if_false, and_self, Nat.reduceEqDiff, Nat.reduceLeDiff, Nat.reduceSub, Nat.reduceAdd, Nat.le_refl, Int32.reduceLT, cl0, cl1, cl2, cl3, cl4, cl5, cl6, cl7, cl8, cl9, Nat.reduceLT, kc22, kc29, kc38, kn29, kr22_7, kr29_1, hta, hzt, vpk, Int32.reduceLT, b1, b2, b3, b4, b5, b6, ps, dv_1] at hQ ⊢
    exact hQ _ (show Fr (h) _ from (Fr_pi (Fr_pi (Fr_pi (Fr_pi (Fr_pi (Fr_pi (Fr_pi (Fr_pi (Fr_pi (Fr_pN Fr_rfl) (Nat.le_refl _)) (Nat.le_refl _)) (Nat.le_refl _)) (Nat.le_refl _)) (Nat.le_refl _)) (Nat.le_refl _)) (Nat.le_refl _)) (Nat.le_refl _)) (Nat.le_refl _)))

theorem m_leX1_5 {A : Nat → Nat} {h : MH} {Q : MR → MH → Prop} (R : Rl A h) (hQ : ∀ m, Fr h m → Q (.inl (some (.int (if g_i h (A 16) 3 = 0 then 0 else 1)))) m) : Ok 228 0 [.ref (A 22), .int 1, .int 5, mk0, mk0] [] h 1 9 Q := by
  have R0 := R
  obtain ⟨vk, vcn, v0, v1, v2, vp, vl0, vl1, vlr, vsr, vc, tx⟩ := R0
  have vk0 := vk
  have vcn0 := vcn
  (refine K_el vk0 ?_; intros hA kc0 kc1 kc2 kc3 kc4 kc5 kc6 kc7 kc8 kc9 kc10 kc11 kc12 kc13 kc14 kc15 kc16 kc17 kc18 kc19 kc20 kc21 kc22 kc23 kc24 kc25 kc26 kc27 kc28 kc29 kc30 kc31 kc32 kc33 kc34 kc35 kc36 kc37 kc38 kc39 kz kt kn3 kn4 kn18 kn21 kn23 kn24 kn25 kn26 kn27 kn29 kn30 kr0_0 kr0_1 kr0_2 kr0_3 kr0_4 kr0_5 kr0_7 kr0_8 kr0_9 kr0_10 kr1_0 kr2_0 kr5_0 kr5_1 kr6_0 kr6_1 kr7_0 kr7_1 kr8_0 kr9_0 kr10_0 kr11_0 kr12_0 kr13_0 kr14_0 kr15_0 kr16_0 kr17_0 kr19_0 kr19_1 kr22_0 kr22_1 kr22_2 kr22_3 kr22_4 kr22_5 kr22_7 kr22_8 kr25_0 kr25_1 kr25_2 kr26_0 kr26_1 kr26_2 kr29_0 kr29_1)
  (refine Cn_el vcn0 ?_; intros ki5_2 ki6_2 ki7_2 ki8_1 ki8_2 ki8_3 ki9_1 ki9_2 ki9_3 ki10_1 ki10_2 ki10_3 ki11_1 ki11_2 ki11_3 ki12_1 ki12_2 ki12_3 ki13_1 ki13_2 ki13_3 ki14_1 ki14_2 ki14_3 ki28_0 ki28_1 ki31_0 ki31_1 ki32_0 ki32_1 ki33_0 ki33_1 ki34_0 ki34_1 ki35_0 ki35_1 ki36_0 ki36_1)
  have hAe : ∀ i j, i < 40 → j < 40 → (A i = A j ↔ i = j) := hA
  have hta : ∀ i, i < 40 → (A i = g_t h) = False := fun i hi => eq_false (fun z => by have := kt i hi; omega)
  have hta2 : ∀ i, i < 40 → (g_t h = A i) = False := fun i hi => eq_false (fun z => by have := kt i hi; omega)
  have hzt : g_z h ≤ g_t h := Nat.le_trans (kz 0 (by decide)) (Nat.le_of_lt (kt 0 (by decide)))
  have hl2 := vl1
  obtain ⟨⟨b1, b2, b3, b4, b5, b6⟩, ln⟩ := hl2
  replace b1 := b1.symm
  replace b2 := b2.symm
  replace b3 := b3.symm
  replace b4 := b4.symm
  replace b5 := b5.symm
  replace b6 := b6.symm
  by_cases ps : g_i h (A 16) 3 = 0
  all_goals
    simp only [o228_0, o228_1, o228_4, o228_5, o228_6, o228_7, o228_9, o228_11, o228_12, o228_13, o228_14, o228_17, o228_18, o228_19, o228_20, o228_21, o228_24, o228_25, o228_26, o228_27, o228_28, o228_31, o228_32, o228_33, o228_34, o228_35, o228_38, o228_39, o228_40, o228_41, o228_42, o228_45, o228_46, o228_47, o228_48, o228_49, o228_52, o228_55, o228_56, o228_59, o228_60, o228_61, o228_62, o228_64, o228_65, o228_68, o228_71, o228_72, o228_75, o228_76, o228_77, o228_78, o228_80, o228_81, o228_82, o228_83, o228_85, o228_86, o228_89, o228_92, o228_93, o228_96, o228_97, o228_100, o228_101, o228_103, o228_105, o228_106, o228_107, c_X7_rests, mc_pi, mc_pN, mn_pi, mn_pN, mi_pi, mi_pN, mz_pi, mz_pN, mcs_0, mcs_i, mcs_r, Kn_v, mrf_some, true_and, and_true, and_false, not_true_eq_false, not_false_eq_true, false_implies, forall_const, if_true, if_false, and_self, Nat.reduceEqDiff, Nat.reduceLeDiff, Nat.reduceSub, Nat.reduceAdd, Nat.le_refl, Int32.reduceLT, cl0, cl1, cl2, cl3, cl4, cl5, cl6, cl7, cl8, cl9, Nat.reduceLT, kc22, kc29, kc38, kn29, kr22_7, kr29_1, hta, hzt, vpk, Int32.reduceLT, b1, b2, b3, b4, b5, b6, ps, dv_1] at hQ ⊢
    exact hQ _ (show Fr (h) _ from (Fr_pi (Fr_pi (Fr_pi (Fr_pi (Fr_pi (Fr_pi (Fr_pi (Fr_pi (Fr_pi (Fr_pN Fr_rfl) (Nat.le_refl _)) (Nat.le_refl _)) (Nat.le_refl _)) (Nat.le_refl _)) (Nat.le_refl _)) (Nat.le_refl _)) (Nat.le_refl _)) (Nat.le_refl _)) (Nat.le_refl _)))

theorem m_leX1_6 {A : Nat → Nat} {h : MH} {Q : MR → MH → Prop} (R : Rl A h) (hQ : ∀ m, Fr h m → Q (.inl (some (.int (if g_i h (A 16) 3 = 0 then 1 else 0)))) m) : Ok 228 0 [.ref (A 22), .int 1, .int 6, mk0, mk0] [] h 1 9 Q := by
  have R0 := R
  obtain ⟨vk, vcn, v0, v1, v2, vp, vl0, vl1, vlr, vsr, vc, tx⟩ := R0
  have vk0 := vk
  have vcn0 := vcn
  (refine K_el vk0 ?_; intros hA kc0 kc1 kc2 kc3 kc4 kc5 kc6 kc7 kc8 kc9 kc10 kc11 kc12 kc13 kc14 kc15 kc16 kc17 kc18 kc19 kc20 kc21 kc22 kc23 kc24 kc25 kc26 kc27 kc28 kc29 kc30 kc31 kc32 kc33 kc34 kc35 kc36 kc37 kc38 kc39 kz kt kn3 kn4 kn18 kn21 kn23 kn24 kn25 kn26 kn27 kn29 kn30 kr0_0 kr0_1 kr0_2 kr0_3 kr0_4 kr0_5 kr0_7 kr0_8 kr0_9 kr0_10 kr1_0 kr2_0 kr5_0 kr5_1 kr6_0 kr6_1 kr7_0 kr7_1 kr8_0 kr9_0 kr10_0 kr11_0 kr12_0 kr13_0 kr14_0 kr15_0 kr16_0 kr17_0 kr19_0 kr19_1 kr22_0 kr22_1 kr22_2 kr22_3 kr22_4 kr22_5 kr22_7 kr22_8 kr25_0 kr25_1 kr25_2 kr26_0 kr26_1 kr26_2 kr29_0 kr29_1)
  (refine Cn_el vcn0 ?_; intros ki5_2 ki6_2 ki7_2 ki8_1 ki8_2 ki8_3 ki9_1 ki9_2 ki9_3 ki10_1 ki10_2 ki10_3 ki11_1 ki11_2 ki11_3 ki12_1 ki12_2 ki12_3 ki13_1 ki13_2 ki13_3 ki14_1 ki14_2 ki14_3 ki28_0 ki28_1 ki31_0 ki31_1 ki32_0 ki32_1 ki33_0 ki33_1 ki34_0 ki34_1 ki35_0 ki35_1 ki36_0 ki36_1)
  have hAe : ∀ i j, i < 40 → j < 40 → (A i = A j ↔ i = j) := hA
  have hta : ∀ i, i < 40 → (A i = g_t h) = False := fun i hi => eq_false (fun z => by have := kt i hi; omega)
  have hta2 : ∀ i, i < 40 → (g_t h = A i) = False := fun i hi => eq_false (fun z => by have := kt i hi; omega)
  have hzt : g_z h ≤ g_t h := Nat.le_trans (kz 0 (by decide)) (Nat.le_of_lt (kt 0 (by decide)))
  have hl2 := vl1
  obtain ⟨⟨b1, b2, b3, b4, b5, b6⟩, ln⟩ := hl2
  replace b1 := b1.symm
  replace b2 := b2.symm
  replace b3 := b3.symm
  replace b4 := b4.symm
  replace b5 := b5.symm
  replace b6 := b6.symm
  by_cases ps : g_i h (A 16) 3 = 0
  all_goals
    simp only [o228_0, o228_1, o228_4, o228_5, o228_6, o228_7, o228_9, o228_11, o228_12, o228_13, o228_14, o228_17, o228_18, o228_19, o228_20, o228_21, o228_24, o228_25, o228_26, o228_27, o228_28, o228_31, o228_32, o228_33, o228_34, o228_35, o228_38, o228_39, o228_40, o228_41, o228_42, o228_45, o228_46, o228_47, o228_48, o228_49, o228_52, o228_55, o228_56, o228_59, o228_60, o228_61, o228_62, o228_64, o228_65, o228_68, o228_71, o228_72, o228_75, o228_76, o228_77, o228_78, o228_80, o228_81, o228_82, o228_83, o228_85, o228_86, o228_89, o228_92, o228_93, o228_96, o228_97, o228_100, o228_101, o228_103, o228_105, o228_106, o228_107, c_X7_rests, mc_pi, mc_pN, mn_pi, mn_pN, mi_pi, mi_pN, mz_pi, mz_pN, mcs_0, mcs_i, mcs_r, Kn_v, mrf_some, true_and, and_true, and_false, not_true_eq_false, not_false_eq_true, false_implies, forall_const, if_true, if_false, and_self, Nat.reduceEqDiff, Nat.reduceLeDiff, Nat.reduceSub, Nat.reduceAdd, Nat.le_refl, Int32.reduceLT, cl0, cl1, cl2, cl3, cl4, cl5, cl6, cl7, cl8, cl9, Nat.reduceLT, kc22, kc29, kc38, kn29, kr22_7, kr29_1, hta, hzt, vpk, Int32.reduceLT, b1, b2, b3, b4, b5, b6, ps, dv_1] at hQ ⊢
    exact hQ _ (show Fr (h) _ from (Fr_pi (Fr_pi (Fr_pi (Fr_pi (Fr_pi (Fr_pi (Fr_pi (Fr_pi (Fr_pi (Fr_pN Fr_rfl) (Nat.le_refl _)) (Nat.le_refl _)) (Nat.le_refl _)) (Nat.le_refl _)) (Nat.le_refl _)) (Nat.le_refl _)) (Nat.le_refl _)) (Nat.le_refl _)) (Nat.le_refl _)))

theorem m_leX1_7 {A : Nat → Nat} {h : MH} {Q : MR → MH → Prop} (R : Rl A h) (hQ : ∀ m, Fr h m → Q (.inl (some (.int (0)))) m) : Ok 228 0 [.ref (A 22), .int 1, .int 7, mk0, mk0] [] h 1 9 Q := by
  have R0 := R
  obtain ⟨vk, vcn, v0, v1, v2, vp, vl0, vl1, vlr, vsr, vc, tx⟩ := R0
  have vk0 := vk
  have vcn0 := vcn
  (refine K_el vk0 ?_; intros hA kc0 kc1 kc2 kc3 kc4 kc5 kc6 kc7 kc8 kc9 kc10 kc11 kc12 kc13 kc14 kc15 kc16 kc17 kc18 kc19 kc20 kc21 kc22 kc23 kc24 kc25 kc26 kc27 kc28 kc29 kc30 kc31 kc32 kc33 kc34 kc35 kc36 kc37 kc38 kc39 kz kt kn3 kn4 kn18 kn21 kn23 kn24 kn25 kn26 kn27 kn29 kn30 kr0_0 kr0_1 kr0_2 kr0_3 kr0_4 kr0_5 kr0_7 kr0_8 kr0_9 kr0_10 kr1_0 kr2_0 kr5_0 kr5_1 kr6_0 kr6_1 kr7_0 kr7_1 kr8_0 kr9_0 kr10_0 kr11_0 kr12_0 kr13_0 kr14_0 kr15_0 kr16_0 kr17_0 kr19_0 kr19_1 kr22_0 kr22_1 kr22_2 kr22_3 kr22_4 kr22_5 kr22_7 kr22_8 kr25_0 kr25_1 kr25_2 kr26_0 kr26_1 kr26_2 kr29_0 kr29_1)
  (refine Cn_el vcn0 ?_; intros ki5_2 ki6_2 ki7_2 ki8_1 ki8_2 ki8_3 ki9_1 ki9_2 ki9_3 ki10_1 ki10_2 ki10_3 ki11_1 ki11_2 ki11_3 ki12_1 ki12_2 ki12_3 ki13_1 ki13_2 ki13_3 ki14_1 ki14_2 ki14_3 ki28_0 ki28_1 ki31_0 ki31_1 ki32_0 ki32_1 ki33_0 ki33_1 ki34_0 ki34_1 ki35_0 ki35_1 ki36_0 ki36_1)
  have hAe : ∀ i j, i < 40 → j < 40 → (A i = A j ↔ i = j) := hA
  have hta : ∀ i, i < 40 → (A i = g_t h) = False := fun i hi => eq_false (fun z => by have := kt i hi; omega)
  have hta2 : ∀ i, i < 40 → (g_t h = A i) = False := fun i hi => eq_false (fun z => by have := kt i hi; omega)
  have hzt : g_z h ≤ g_t h := Nat.le_trans (kz 0 (by decide)) (Nat.le_of_lt (kt 0 (by decide)))
  have hl2 := vl1
  obtain ⟨⟨b1, b2, b3, b4, b5, b6⟩, ln⟩ := hl2
  replace b1 := b1.symm
  replace b2 := b2.symm
  replace b3 := b3.symm
  replace b4 := b4.symm
  replace b5 := b5.symm
  replace b6 := b6.symm
  by_cases ps : g_i h (A 16) 3 = 0
  all_goals
    simp only [o228_0, o228_1, o228_4, o228_5, o228_6, o228_7, o228_9, o228_11, o228_12, o228_13, o228_14, o228_17, o228_18, o228_19, o228_20, o228_21, o228_24, o228_25, o228_26, o228_27, o228_28, o228_31, o228_32, o228_33, o228_34, o228_35, o228_38, o228_39, o228_40, o228_41, o228_42, o228_45, o228_46, o228_47, o228_48, o228_49, o228_52, o228_55, o228_56, o228_59, o228_60, o228_61, o228_62, o228_64, o228_65, o228_68, o228_71, o228_72, o228_75, o228_76, o228_77, o228_78, o228_80, o228_81, o228_82, o228_83, o228_85, o228_86, o228_89, o228_92, o228_93, o228_96, o228_97, o228_100, o228_101, o228_103, o228_105, o228_106, o228_107, c_X7_rests, mc_pi, mc_pN, mn_pi, mn_pN, mi_pi, mi_pN, mz_pi, mz_pN, mcs_0, mcs_i, mcs_r, Kn_v, mrf_some, true_and, and_true, and_false, not_true_eq_false, not_false_eq_true, false_implies, forall_const, if_true, if_false, and_self, Nat.reduceEqDiff, Nat.reduceLeDiff, Nat.reduceSub, Nat.reduceAdd, Nat.le_refl, Int32.reduceLT, cl0, cl1, cl2, cl3, cl4, cl5, cl6, cl7, cl8, cl9, Nat.reduceLT, kc22, kc29, kc38, kn29, kr22_7, kr29_1, hta, hzt, vpk, Int32.reduceLT, b1, b2, b3, b4, b5, b6, ps, dv_1] at hQ ⊢
    exact hQ _ (show Fr (h) _ from (Fr_pi (Fr_pi (Fr_pi (Fr_pi (Fr_pi (Fr_pi (Fr_pi (Fr_pi (Fr_pi (Fr_pN Fr_rfl) (Nat.le_refl _)) (Nat.le_refl _)) (Nat.le_refl _)) (Nat.le_refl _)) (Nat.le_refl _)) (Nat.le_refl _)) (Nat.le_refl _)) (Nat.le_refl _)) (Nat.le_refl _)))

theorem m_leX1_8 {A : Nat → Nat} {h : MH} {Q : MR → MH → Prop} (R : Rl A h) (hQ : ∀ m, Fr h m → Q (.inl (some (.int (if g_i h (A 16) 3 = 0 then g_i h (A 16) 1 else -1)))) m) : Ok 228 0 [.ref (A 22), .int 1, .int 8, mk0, mk0] [] h 1 9 Q := by
  have R0 := R
  obtain ⟨vk, vcn, v0, v1, v2, vp, vl0, vl1, vlr, vsr, vc, tx⟩ := R0
  have vk0 := vk
  have vcn0 := vcn
  (refine K_el vk0 ?_; intros hA kc0 kc1 kc2 kc3 kc4 kc5 kc6 kc7 kc8 kc9 kc10 kc11 kc12 kc13 kc14 kc15 kc16 kc17 kc18 kc19 kc20 kc21 kc22 kc23 kc24 kc25 kc26 kc27 kc28 kc29 kc30 kc31 kc32 kc33 kc34 kc35 kc36 kc37 kc38 kc39 kz kt kn3 kn4 kn18 kn21 kn23 kn24 kn25 kn26 kn27 kn29 kn30 kr0_0 kr0_1 kr0_2 kr0_3 kr0_4 kr0_5 kr0_7 kr0_8 kr0_9 kr0_10 kr1_0 kr2_0 kr5_0 kr5_1 kr6_0 kr6_1 kr7_0 kr7_1 kr8_0 kr9_0 kr10_0 kr11_0 kr12_0 kr13_0 kr14_0 kr15_0 kr16_0 kr17_0 kr19_0 kr19_1 kr22_0 kr22_1 kr22_2 kr22_3 kr22_4 kr22_5 kr22_7 kr22_8 kr25_0 kr25_1 kr25_2 kr26_0 kr26_1 kr26_2 kr29_0 kr29_1)
  (refine Cn_el vcn0 ?_; intros ki5_2 ki6_2 ki7_2 ki8_1 ki8_2 ki8_3 ki9_1 ki9_2 ki9_3 ki10_1 ki10_2 ki10_3 ki11_1 ki11_2 ki11_3 ki12_1 ki12_2 ki12_3 ki13_1 ki13_2 ki13_3 ki14_1 ki14_2 ki14_3 ki28_0 ki28_1 ki31_0 ki31_1 ki32_0 ki32_1 ki33_0 ki33_1 ki34_0 ki34_1 ki35_0 ki35_1 ki36_0 ki36_1)
  have hAe : ∀ i j, i < 40 → j < 40 → (A i = A j ↔ i = j) := hA
  have hta : ∀ i, i < 40 → (A i = g_t h) = False := fun i hi => eq_false (fun z => by have := kt i hi; omega)
  have hta2 : ∀ i, i < 40 → (g_t h = A i) = False := fun i hi => eq_false (fun z => by have := kt i hi; omega)
  have hzt : g_z h ≤ g_t h := Nat.le_trans (kz 0 (by decide)) (Nat.le_of_lt (kt 0 (by decide)))
  have hl2 := vl1
  obtain ⟨⟨b1, b2, b3, b4, b5, b6⟩, ln⟩ := hl2
  replace b1 := b1.symm
  replace b2 := b2.symm
  replace b3 := b3.symm
  replace b4 := b4.symm
  replace b5 := b5.symm
  replace b6 := b6.symm
  by_cases ps : g_i h (A 16) 3 = 0
  all_goals
    simp only [o228_0, o228_1, o228_4, o228_5, o228_6, o228_7, o228_9, o228_11, o228_12, o228_13, o228_14, o228_17, o228_18, o228_19, o228_20, o228_21, o228_24, o228_25, o228_26, o228_27, o228_28, o228_31, o228_32, o228_33, o228_34, o228_35, o228_38, o228_39, o228_40, o228_41, o228_42, o228_45, o228_46, o228_47, o228_48, o228_49, o228_52, o228_55, o228_56, o228_59, o228_60, o228_61, o228_62, o228_64, o228_65, o228_68, o228_71, o228_72, o228_75, o228_76, o228_77, o228_78, o228_80, o228_81, o228_82, o228_83, o228_85, o228_86, o228_89, o228_92, o228_93, o228_96, o228_97, o228_100, o228_101, o228_103, o228_105, o228_106, o228_107, c_X7_rests, mc_pi, mc_pN, mn_pi, mn_pN, mi_pi, mi_pN, mz_pi, mz_pN, mcs_0, mcs_i, mcs_r, Kn_v, mrf_some, true_and, and_true, and_false, not_true_eq_false, not_false_eq_true, false_implies, forall_const, if_true, if_false, and_self, Nat.reduceEqDiff, Nat.reduceLeDiff, Nat.reduceSub, Nat.reduceAdd, Nat.le_refl, Int32.reduceLT, cl0, cl1, cl2, cl3, cl4, cl5, cl6, cl7, cl8, cl9, Nat.reduceLT, kc22, kc29, kc38, kn29, kr22_7, kr29_1, hta, hzt, vpk, Int32.reduceLT, b1, b2, b3, b4, b5, b6, ps, dv_1] at hQ ⊢
    exact hQ _ (show Fr (h) _ from (Fr_pi (Fr_pi (Fr_pi (Fr_pi (Fr_pi (Fr_pi (Fr_pi (Fr_pi (Fr_pi (Fr_pN Fr_rfl) (Nat.le_refl _)) (Nat.le_refl _)) (Nat.le_refl _)) (Nat.le_refl _)) (Nat.le_refl _)) (Nat.le_refl _)) (Nat.le_refl _)) (Nat.le_refl _)) (Nat.le_refl _)))
end

section
set_option maxRecDepth 16384
theorem Rl_fr0 {A : Nat → Nat} {h m : MH} (R : Rl A h) (f : Fr (p_i h (A 22) 9 0) m) : Rl A m ∧ Sm A h m := ⟨Rl_Fr (Rl_thr R) f, Sm_tr (Sm_thr R) (Sm_Fr (Rl_thr R) f)⟩
theorem Cs_fr0 {A : Nat → Nat} {h m : MH} (R : Rl A h) (c : Cs h) (f : Fr (p_i h (A 22) 9 0) m) : Cs m :=
  have hz : g_z h ≤ g_t h := Rl_z R
  Cs_Fx (sb := g_t h) (dg := g_t h) (Cs_Lw c (Lw_pi (R.1.2.2.1.1 22 (by decide)))) (Fx_Fr f) hz hz
theorem ms_S {A : Nat → Nat} {d0 : Int64} {h0 : MH} {Q : MR → MH → Prop} {bc bs : Nat} {a4 a5 a6 a7 : Value} (hQ : ∀ m, Sm A h0 m → Rl A m → Cs m → Ok 244 42 [.ref (A 22), .long (dS A h0 d0 6), mk0, .int (Int32.ofNat 6), a4, a5, a6, a7] [] m bc bs Q) : ∀ (k s : Nat) (m : MH), s + k = 6 → Sm A h0 m → Rl A m → Cs m → Ok 244 6 [.ref (A 22), .long (dS A h0 d0 s), mk0, .int (Int32.ofNat s), a4, a5, a6, a7] [] m bc bs Q
  | 0, s, m, hs, sm, R, cs => by
    have : s = 6 := by omega
    subst this
    have c1 : (Int32.ofNat 6 < (6 : Int32)) = False := by decide
    rw [o244_6]
    simp only [o244_7, o244_9, and_true, not_true_eq_false, not_false_eq_true, false_implies, forall_const, lt_le, c1]
    exact hQ m sm R cs
  | k + 1, s, m, hs, sm, R, cs => by
    have ih := ms_S hQ k (s + 1)
    have R1 : Rl A (p_i m (A 22) 9 0) := Rl_thr R
    have R2 : Rl A (p_i (p_i m (A 22) 9 0) (A 22) 9 0) := Rl_thr R1
    have s1 := Sm_tr sm (Sm_thr (v := 0) R)
    have s2 := Sm_tr s1 (Sm_thr (v := 0) R1)
    have cs2 : Cs (p_i (p_i m (A 22) 9 0) (A 22) 9 0) := Cs_Lw (Cs_Lw cs (Lw_pi (R.1.2.2.1.1 22 (by decide)))) (Lw_pi (R.1.2.2.1.1 22 (by decide)))
    (refine Sm_el sm ?_; intros i0 l0 i1 l1 i2 l2 i3 l3 i4 l4 i5 l5 i6 l6 i7 l7 i8 l8 i9 l9 i10 l10 i11 l11 i12 l12 i13 l13 i14 l14 i15 l15 i16 l16 i17 l17 i18 l18 i19 l19 i23 l23 i24 l24 i25 l25 i26 l26 i27 l27 i28 l28 i29 l29 i30 l30 i31 l31 i32 l32 i33 l33 i34 l34 i35 l35 i36 l36 i37 l37 i38 l38 i39 l39 i22)
    (refine Sm_el s1 ?_; intros i0' l0' i1' l1' i2' l2' i3' l3' i4' l4' i5' l5' i6' l6' i7' l7' i8' l8' i9' l9' i10' l10' i11' l11' i12' l12' i13' l13' i14' l14' i15' l15' i16' l16' i17' l17' i18' l18' i19' l19' i23' l23' i24' l24' i25' l25' i26' l26' i27' l27' i28' l28' i29' l29' i30' l30' i31' l31' i32' l32' i33' l33' i34' l34' i35' l35' i36' l36' i37' l37' i38' l38' i39' l39' i22')
    have R0 := R
    obtain ⟨vk, vcn, v0, v1, v2, vp, vl0, vl1, vlr, vsr, vc, tx⟩ := R0
    have vk0 := vk
    have vcn0 := vcn
    (refine K_el vk0 ?_; intros hA kc0 kc1 kc2 kc3 kc4 kc5 kc6 kc7 kc8 kc9 kc10 kc11 kc12 kc13 kc14 kc15 kc16 kc17 kc18 kc19 kc20 kc21 kc22 kc23 kc24 kc25 kc26 kc27 kc28 kc29 kc30 kc31 kc32 kc33 kc34 kc35 kc36 kc37 kc38 kc39 kz kt kn3 kn4 kn18 kn21 kn23 kn24 kn25 kn26 kn27 kn29 kn30 kr0_0 kr0_1 kr0_2 kr0_3 kr0_4 kr0_5 kr0_7 kr0_8 kr0_9 kr0_10 kr1_0 kr2_0 kr5_0 kr5_1 kr6_0 kr6_1 kr7_0 kr7_1 kr8_0 kr9_0 kr10_0 kr11_0 kr12_0 kr13_0 kr14_0 kr15_0 kr16_0 kr17_0 kr19_0 kr19_1 kr22_0 kr22_1 kr22_2 kr22_3 kr22_4 kr22_5 kr22_7 kr22_8 kr25_0 kr25_1 kr25_2 kr26_0 kr26_1 kr26_2 kr29_0 kr29_1)
    (refine Cn_el vcn0 ?_; intros ki5_2 ki6_2 ki7_2 ki8_1 ki8_2 ki8_3 ki9_1 ki9_2 ki9_3 ki10_1 ki10_2 ki10_3 ki11_1 ki11_2 ki11_3 ki12_1 ki12_2 ki12_3 ki13_1 ki13_2 ki13_3 ki14_1 ki14_2 ki14_3 ki28_0 ki28_1 ki31_0 ki31_1 ki32_0 ki32_1 ki33_0 ki33_1 ki34_0 ki34_1 ki35_0 ki35_1 ki36_0 ki36_1)
    have hAe : ∀ i j, i < 40 → j < 40 → (A i = A j ↔ i = j) := hA
    have c1 : (Int32.ofNat s < (6 : Int32)) = True := by
      rw [show (6 : Int32) = Int32.ofNat 6 by decide, n_lt (by omega) (by omega)]
      exact eq_true (by omega)
    have c6 : Int32.ofNat s + 1 = Int32.ofNat (s + 1) := n_add s 1
    have u1 : upv A m s = upv A h0 s := by simp only [upv, l4]
    have u2 : lov A (p_i m (A 22) 9 0) s = lov A h0 s := by simp only [lov, l4']
    have z := ih _ (by omega) s2 R2 cs2
    rw [o244_6]
    simp only [o244_7, o244_9, o244_12, o244_13, o244_16, o244_17, o244_18, o244_19, o244_22, o244_23, o244_24, o244_27, o244_28, o244_29, o244_30, o244_33, o244_34, o244_35, o244_36, o244_39, m_upperN R (s := s) (by omega), m_lowerN R1 (s := s) (by omega), mc_pi, mcs_0, mcs_l, Kn_v, true_and, not_true_eq_false, not_false_eq_true, false_implies, forall_const, Nat.reduceLeDiff, Nat.reduceAdd, lt_le, kc22, c1, c6, u1, u2]
    exact z

theorem ms_P0_0 {A : Nat → Nat} {d : Int64} {h0 m : MH} {Q : MR → MH → Prop} {bc bs : Nat} {a5 a6 a7 : Value} (sm : Sm A h0 m) (R : Rl A m) (hQ : ∀ q, Fr (p_i m (A 22) 9 0) q → Ok 244 76 [.ref (A 22), .long (dg1 d (g_i h0 (A 8) 4)), mk0, .int 0, .int 1, a5, a6, a7] [] q bc bs Q) : Ok 244 76 [.ref (A 22), .long (d), mk0, .int 0, .int 0, a5, a6, a7] [] m (bc + 1) (bs + 7) Q := by
  have R0 := R
  obtain ⟨vk, vcn, v0, v1, v2, vp, vl0, vl1, vlr, vsr, vc, tx⟩ := R0
  have vk0 := vk
  have vcn0 := vcn
  (refine K_el vk0 ?_; intros hA kc0 kc1 kc2 kc3 kc4 kc5 kc6 kc7 kc8 kc9 kc10 kc11 kc12 kc13 kc14 kc15 kc16 kc17 kc18 kc19 kc20 kc21 kc22 kc23 kc24 kc25 kc26 kc27 kc28 kc29 kc30 kc31 kc32 kc33 kc34 kc35 kc36 kc37 kc38 kc39 kz kt kn3 kn4 kn18 kn21 kn23 kn24 kn25 kn26 kn27 kn29 kn30 kr0_0 kr0_1 kr0_2 kr0_3 kr0_4 kr0_5 kr0_7 kr0_8 kr0_9 kr0_10 kr1_0 kr2_0 kr5_0 kr5_1 kr6_0 kr6_1 kr7_0 kr7_1 kr8_0 kr9_0 kr10_0 kr11_0 kr12_0 kr13_0 kr14_0 kr15_0 kr16_0 kr17_0 kr19_0 kr19_1 kr22_0 kr22_1 kr22_2 kr22_3 kr22_4 kr22_5 kr22_7 kr22_8 kr25_0 kr25_1 kr25_2 kr26_0 kr26_1 kr26_2 kr29_0 kr29_1)
  (refine Cn_el vcn0 ?_; intros ki5_2 ki6_2 ki7_2 ki8_1 ki8_2 ki8_3 ki9_1 ki9_2 ki9_3 ki10_1 ki10_2 ki10_3 ki11_1 ki11_2 ki11_3 ki12_1 ki12_2 ki12_3 ki13_1 ki13_2 ki13_3 ki14_1 ki14_2 ki14_3 ki28_0 ki28_1 ki31_0 ki31_1 ki32_0 ki32_1 ki33_0 ki33_1 ki34_0 ki34_1 ki35_0 ki35_1 ki36_0 ki36_1)
  have hAe : ∀ i j, i < 40 → j < 40 → (A i = A j ↔ i = j) := hA
  have b7 : (7 : Int32) = 7 := by decide
  have c1 : (1 ≤ bc + 1) = True := eq_true (by omega)
  have c2 : (7 ≤ bs + 7) = True := eq_true (by omega)
  have c3 : bc + 1 - 1 = bc := by omega
  have c4 : bs + 7 - 7 = bs := by omega
  (refine Sm_el sm ?_; intros i0 l0 i1 l1 i2 l2 i3 l3 i4 l4 i5 l5 i6 l6 i7 l7 i8 l8 i9 l9 i10 l10 i11 l11 i12 l12 i13 l13 i14 l14 i15 l15 i16 l16 i17 l17 i18 l18 i19 l19 i23 l23 i24 l24 i25 l25 i26 l26 i27 l27 i28 l28 i29 l29 i30 l30 i31 l31 i32 l32 i33 l33 i34 l34 i35 l35 i36 l36 i37 l37 i38 l38 i39 l39 i22)
  rw [o244_76]
  simp only [o244_78, o244_80, o244_83, o244_84, o244_87, o244_88, o244_89, o244_90, o244_92, mcs_0, mcs_l, true_and, not_true_eq_false, not_false_eq_true, false_implies, forall_const, Nat.reduceLeDiff, Nat.reduceAdd, lt_le, Int32.reduceLT, kc22, Int32.reduceLT, c1, c2, c3, c4]
  refine m_plX0_0 R (fun q f => ?_)
  simp only [o244_95, o244_96, o244_97, o244_98, o244_101, Kn_v, Int32.reduceAdd, i8]
  exact hQ q f

theorem ms_P0_1 {A : Nat → Nat} {d : Int64} {h0 m : MH} {Q : MR → MH → Prop} {bc bs : Nat} {a5 a6 a7 : Value} (sm : Sm A h0 m) (R : Rl A m) (hQ : ∀ q, Fr (p_i m (A 22) 9 0) q → Ok 244 76 [.ref (A 22), .long (dg1 d (g_i h0 (A 8) 5)), mk0, .int 0, .int 2, a5, a6, a7] [] q bc bs Q) : Ok 244 76 [.ref (A 22), .long (d), mk0, .int 0, .int 1, a5, a6, a7] [] m (bc + 1) (bs + 7) Q := by
  have R0 := R
  obtain ⟨vk, vcn, v0, v1, v2, vp, vl0, vl1, vlr, vsr, vc, tx⟩ := R0
  have vk0 := vk
  have vcn0 := vcn
  (refine K_el vk0 ?_; intros hA kc0 kc1 kc2 kc3 kc4 kc5 kc6 kc7 kc8 kc9 kc10 kc11 kc12 kc13 kc14 kc15 kc16 kc17 kc18 kc19 kc20 kc21 kc22 kc23 kc24 kc25 kc26 kc27 kc28 kc29 kc30 kc31 kc32 kc33 kc34 kc35 kc36 kc37 kc38 kc39 kz kt kn3 kn4 kn18 kn21 kn23 kn24 kn25 kn26 kn27 kn29 kn30 kr0_0 kr0_1 kr0_2 kr0_3 kr0_4 kr0_5 kr0_7 kr0_8 kr0_9 kr0_10 kr1_0 kr2_0 kr5_0 kr5_1 kr6_0 kr6_1 kr7_0 kr7_1 kr8_0 kr9_0 kr10_0 kr11_0 kr12_0 kr13_0 kr14_0 kr15_0 kr16_0 kr17_0 kr19_0 kr19_1 kr22_0 kr22_1 kr22_2 kr22_3 kr22_4 kr22_5 kr22_7 kr22_8 kr25_0 kr25_1 kr25_2 kr26_0 kr26_1 kr26_2 kr29_0 kr29_1)
  (refine Cn_el vcn0 ?_; intros ki5_2 ki6_2 ki7_2 ki8_1 ki8_2 ki8_3 ki9_1 ki9_2 ki9_3 ki10_1 ki10_2 ki10_3 ki11_1 ki11_2 ki11_3 ki12_1 ki12_2 ki12_3 ki13_1 ki13_2 ki13_3 ki14_1 ki14_2 ki14_3 ki28_0 ki28_1 ki31_0 ki31_1 ki32_0 ki32_1 ki33_0 ki33_1 ki34_0 ki34_1 ki35_0 ki35_1 ki36_0 ki36_1)
  have hAe : ∀ i j, i < 40 → j < 40 → (A i = A j ↔ i = j) := hA
  have b7 : (7 : Int32) = 7 := by decide
  have c1 : (1 ≤ bc + 1) = True := eq_true (by omega)
  have c2 : (7 ≤ bs + 7) = True := eq_true (by omega)
  have c3 : bc + 1 - 1 = bc := by omega
  have c4 : bs + 7 - 7 = bs := by omega
  (refine Sm_el sm ?_; intros i0 l0 i1 l1 i2 l2 i3 l3 i4 l4 i5 l5 i6 l6 i7 l7 i8 l8 i9 l9 i10 l10 i11 l11 i12 l12 i13 l13 i14 l14 i15 l15 i16 l16 i17 l17 i18 l18 i19 l19 i23 l23 i24 l24 i25 l25 i26 l26 i27 l27 i28 l28 i29 l29 i30 l30 i31 l31 i32 l32 i33 l33 i34 l34 i35 l35 i36 l36 i37 l37 i38 l38 i39 l39 i22)
  rw [o244_76]
  simp only [o244_78, o244_80, o244_83, o244_84, o244_87, o244_88, o244_89, o244_90, o244_92, mcs_0, mcs_l, true_and, not_true_eq_false, not_false_eq_true, false_implies, forall_const, Nat.reduceLeDiff, Nat.reduceAdd, lt_le, Int32.reduceLT, kc22, Int32.reduceLT, c1, c2, c3, c4]
  refine m_plX0_1 R (fun q f => ?_)
  simp only [o244_95, o244_96, o244_97, o244_98, o244_101, Kn_v, Int32.reduceAdd, i8]
  exact hQ q f

theorem ms_P0_2 {A : Nat → Nat} {d : Int64} {h0 m : MH} {Q : MR → MH → Prop} {bc bs : Nat} {a5 a6 a7 : Value} (sm : Sm A h0 m) (R : Rl A m) (hQ : ∀ q, Fr (p_i m (A 22) 9 0) q → Ok 244 76 [.ref (A 22), .long (dg1 d (g_i h0 (A 9) 4)), mk0, .int 0, .int 3, a5, a6, a7] [] q bc bs Q) : Ok 244 76 [.ref (A 22), .long (d), mk0, .int 0, .int 2, a5, a6, a7] [] m (bc + 1) (bs + 7) Q := by
  have R0 := R
  obtain ⟨vk, vcn, v0, v1, v2, vp, vl0, vl1, vlr, vsr, vc, tx⟩ := R0
  have vk0 := vk
  have vcn0 := vcn
  (refine K_el vk0 ?_; intros hA kc0 kc1 kc2 kc3 kc4 kc5 kc6 kc7 kc8 kc9 kc10 kc11 kc12 kc13 kc14 kc15 kc16 kc17 kc18 kc19 kc20 kc21 kc22 kc23 kc24 kc25 kc26 kc27 kc28 kc29 kc30 kc31 kc32 kc33 kc34 kc35 kc36 kc37 kc38 kc39 kz kt kn3 kn4 kn18 kn21 kn23 kn24 kn25 kn26 kn27 kn29 kn30 kr0_0 kr0_1 kr0_2 kr0_3 kr0_4 kr0_5 kr0_7 kr0_8 kr0_9 kr0_10 kr1_0 kr2_0 kr5_0 kr5_1 kr6_0 kr6_1 kr7_0 kr7_1 kr8_0 kr9_0 kr10_0 kr11_0 kr12_0 kr13_0 kr14_0 kr15_0 kr16_0 kr17_0 kr19_0 kr19_1 kr22_0 kr22_1 kr22_2 kr22_3 kr22_4 kr22_5 kr22_7 kr22_8 kr25_0 kr25_1 kr25_2 kr26_0 kr26_1 kr26_2 kr29_0 kr29_1)
  (refine Cn_el vcn0 ?_; intros ki5_2 ki6_2 ki7_2 ki8_1 ki8_2 ki8_3 ki9_1 ki9_2 ki9_3 ki10_1 ki10_2 ki10_3 ki11_1 ki11_2 ki11_3 ki12_1 ki12_2 ki12_3 ki13_1 ki13_2 ki13_3 ki14_1 ki14_2 ki14_3 ki28_0 ki28_1 ki31_0 ki31_1 ki32_0 ki32_1 ki33_0 ki33_1 ki34_0 ki34_1 ki35_0 ki35_1 ki36_0 ki36_1)
  have hAe : ∀ i j, i < 40 → j < 40 → (A i = A j ↔ i = j) := hA
  have b7 : (7 : Int32) = 7 := by decide
  have c1 : (1 ≤ bc + 1) = True := eq_true (by omega)
  have c2 : (7 ≤ bs + 7) = True := eq_true (by omega)
  have c3 : bc + 1 - 1 = bc := by omega
  have c4 : bs + 7 - 7 = bs := by omega
  (refine Sm_el sm ?_; intros i0 l0 i1 l1 i2 l2 i3 l3 i4 l4 i5 l5 i6 l6 i7 l7 i8 l8 i9 l9 i10 l10 i11 l11 i12 l12 i13 l13 i14 l14 i15 l15 i16 l16 i17 l17 i18 l18 i19 l19 i23 l23 i24 l24 i25 l25 i26 l26 i27 l27 i28 l28 i29 l29 i30 l30 i31 l31 i32 l32 i33 l33 i34 l34 i35 l35 i36 l36 i37 l37 i38 l38 i39 l39 i22)
  rw [o244_76]
  simp only [o244_78, o244_80, o244_83, o244_84, o244_87, o244_88, o244_89, o244_90, o244_92, mcs_0, mcs_l, true_and, not_true_eq_false, not_false_eq_true, false_implies, forall_const, Nat.reduceLeDiff, Nat.reduceAdd, lt_le, Int32.reduceLT, kc22, Int32.reduceLT, c1, c2, c3, c4]
  refine m_plX0_2 R (fun q f => ?_)
  simp only [o244_95, o244_96, o244_97, o244_98, o244_101, Kn_v, Int32.reduceAdd, i9]
  exact hQ q f

theorem ms_P0_3 {A : Nat → Nat} {d : Int64} {h0 m : MH} {Q : MR → MH → Prop} {bc bs : Nat} {a5 a6 a7 : Value} (sm : Sm A h0 m) (R : Rl A m) (hQ : ∀ q, Fr (p_i m (A 22) 9 0) q → Ok 244 76 [.ref (A 22), .long (dg1 d (g_i h0 (A 9) 5)), mk0, .int 0, .int 4, a5, a6, a7] [] q bc bs Q) : Ok 244 76 [.ref (A 22), .long (d), mk0, .int 0, .int 3, a5, a6, a7] [] m (bc + 1) (bs + 7) Q := by
  have R0 := R
  obtain ⟨vk, vcn, v0, v1, v2, vp, vl0, vl1, vlr, vsr, vc, tx⟩ := R0
  have vk0 := vk
  have vcn0 := vcn
  (refine K_el vk0 ?_; intros hA kc0 kc1 kc2 kc3 kc4 kc5 kc6 kc7 kc8 kc9 kc10 kc11 kc12 kc13 kc14 kc15 kc16 kc17 kc18 kc19 kc20 kc21 kc22 kc23 kc24 kc25 kc26 kc27 kc28 kc29 kc30 kc31 kc32 kc33 kc34 kc35 kc36 kc37 kc38 kc39 kz kt kn3 kn4 kn18 kn21 kn23 kn24 kn25 kn26 kn27 kn29 kn30 kr0_0 kr0_1 kr0_2 kr0_3 kr0_4 kr0_5 kr0_7 kr0_8 kr0_9 kr0_10 kr1_0 kr2_0 kr5_0 kr5_1 kr6_0 kr6_1 kr7_0 kr7_1 kr8_0 kr9_0 kr10_0 kr11_0 kr12_0 kr13_0 kr14_0 kr15_0 kr16_0 kr17_0 kr19_0 kr19_1 kr22_0 kr22_1 kr22_2 kr22_3 kr22_4 kr22_5 kr22_7 kr22_8 kr25_0 kr25_1 kr25_2 kr26_0 kr26_1 kr26_2 kr29_0 kr29_1)
  (refine Cn_el vcn0 ?_; intros ki5_2 ki6_2 ki7_2 ki8_1 ki8_2 ki8_3 ki9_1 ki9_2 ki9_3 ki10_1 ki10_2 ki10_3 ki11_1 ki11_2 ki11_3 ki12_1 ki12_2 ki12_3 ki13_1 ki13_2 ki13_3 ki14_1 ki14_2 ki14_3 ki28_0 ki28_1 ki31_0 ki31_1 ki32_0 ki32_1 ki33_0 ki33_1 ki34_0 ki34_1 ki35_0 ki35_1 ki36_0 ki36_1)
  have hAe : ∀ i j, i < 40 → j < 40 → (A i = A j ↔ i = j) := hA
  have b7 : (7 : Int32) = 7 := by decide
  have c1 : (1 ≤ bc + 1) = True := eq_true (by omega)
  have c2 : (7 ≤ bs + 7) = True := eq_true (by omega)
  have c3 : bc + 1 - 1 = bc := by omega
  have c4 : bs + 7 - 7 = bs := by omega
  (refine Sm_el sm ?_; intros i0 l0 i1 l1 i2 l2 i3 l3 i4 l4 i5 l5 i6 l6 i7 l7 i8 l8 i9 l9 i10 l10 i11 l11 i12 l12 i13 l13 i14 l14 i15 l15 i16 l16 i17 l17 i18 l18 i19 l19 i23 l23 i24 l24 i25 l25 i26 l26 i27 l27 i28 l28 i29 l29 i30 l30 i31 l31 i32 l32 i33 l33 i34 l34 i35 l35 i36 l36 i37 l37 i38 l38 i39 l39 i22)
  rw [o244_76]
  simp only [o244_78, o244_80, o244_83, o244_84, o244_87, o244_88, o244_89, o244_90, o244_92, mcs_0, mcs_l, true_and, not_true_eq_false, not_false_eq_true, false_implies, forall_const, Nat.reduceLeDiff, Nat.reduceAdd, lt_le, Int32.reduceLT, kc22, Int32.reduceLT, c1, c2, c3, c4]
  refine m_plX0_3 R (fun q f => ?_)
  simp only [o244_95, o244_96, o244_97, o244_98, o244_101, Kn_v, Int32.reduceAdd, i9]
  exact hQ q f

theorem ms_P0_4 {A : Nat → Nat} {d : Int64} {h0 m : MH} {Q : MR → MH → Prop} {bc bs : Nat} {a5 a6 a7 : Value} (sm : Sm A h0 m) (R : Rl A m) (hQ : ∀ q, Fr (p_i m (A 22) 9 0) q → Ok 244 76 [.ref (A 22), .long (dg1 d (g_i h0 (A 9) 6)), mk0, .int 0, .int 5, a5, a6, a7] [] q bc bs Q) : Ok 244 76 [.ref (A 22), .long (d), mk0, .int 0, .int 4, a5, a6, a7] [] m (bc + 1) (bs + 7) Q := by
  have R0 := R
  obtain ⟨vk, vcn, v0, v1, v2, vp, vl0, vl1, vlr, vsr, vc, tx⟩ := R0
  have vk0 := vk
  have vcn0 := vcn
  (refine K_el vk0 ?_; intros hA kc0 kc1 kc2 kc3 kc4 kc5 kc6 kc7 kc8 kc9 kc10 kc11 kc12 kc13 kc14 kc15 kc16 kc17 kc18 kc19 kc20 kc21 kc22 kc23 kc24 kc25 kc26 kc27 kc28 kc29 kc30 kc31 kc32 kc33 kc34 kc35 kc36 kc37 kc38 kc39 kz kt kn3 kn4 kn18 kn21 kn23 kn24 kn25 kn26 kn27 kn29 kn30 kr0_0 kr0_1 kr0_2 kr0_3 kr0_4 kr0_5 kr0_7 kr0_8 kr0_9 kr0_10 kr1_0 kr2_0 kr5_0 kr5_1 kr6_0 kr6_1 kr7_0 kr7_1 kr8_0 kr9_0 kr10_0 kr11_0 kr12_0 kr13_0 kr14_0 kr15_0 kr16_0 kr17_0 kr19_0 kr19_1 kr22_0 kr22_1 kr22_2 kr22_3 kr22_4 kr22_5 kr22_7 kr22_8 kr25_0 kr25_1 kr25_2 kr26_0 kr26_1 kr26_2 kr29_0 kr29_1)
  (refine Cn_el vcn0 ?_; intros ki5_2 ki6_2 ki7_2 ki8_1 ki8_2 ki8_3 ki9_1 ki9_2 ki9_3 ki10_1 ki10_2 ki10_3 ki11_1 ki11_2 ki11_3 ki12_1 ki12_2 ki12_3 ki13_1 ki13_2 ki13_3 ki14_1 ki14_2 ki14_3 ki28_0 ki28_1 ki31_0 ki31_1 ki32_0 ki32_1 ki33_0 ki33_1 ki34_0 ki34_1 ki35_0 ki35_1 ki36_0 ki36_1)
  have hAe : ∀ i j, i < 40 → j < 40 → (A i = A j ↔ i = j) := hA
  have b7 : (7 : Int32) = 7 := by decide
  have c1 : (1 ≤ bc + 1) = True := eq_true (by omega)
  have c2 : (7 ≤ bs + 7) = True := eq_true (by omega)
  have c3 : bc + 1 - 1 = bc := by omega
  have c4 : bs + 7 - 7 = bs := by omega
  (refine Sm_el sm ?_; intros i0 l0 i1 l1 i2 l2 i3 l3 i4 l4 i5 l5 i6 l6 i7 l7 i8 l8 i9 l9 i10 l10 i11 l11 i12 l12 i13 l13 i14 l14 i15 l15 i16 l16 i17 l17 i18 l18 i19 l19 i23 l23 i24 l24 i25 l25 i26 l26 i27 l27 i28 l28 i29 l29 i30 l30 i31 l31 i32 l32 i33 l33 i34 l34 i35 l35 i36 l36 i37 l37 i38 l38 i39 l39 i22)
  rw [o244_76]
  simp only [o244_78, o244_80, o244_83, o244_84, o244_87, o244_88, o244_89, o244_90, o244_92, mcs_0, mcs_l, true_and, not_true_eq_false, not_false_eq_true, false_implies, forall_const, Nat.reduceLeDiff, Nat.reduceAdd, lt_le, Int32.reduceLT, kc22, Int32.reduceLT, c1, c2, c3, c4]
  refine m_plX0_4 R (fun q f => ?_)
  simp only [o244_95, o244_96, o244_97, o244_98, o244_101, Kn_v, Int32.reduceAdd, i9]
  exact hQ q f

theorem ms_P0_5 {A : Nat → Nat} {d : Int64} {h0 m : MH} {Q : MR → MH → Prop} {bc bs : Nat} {a5 a6 a7 : Value} (sm : Sm A h0 m) (R : Rl A m) (hQ : ∀ q, Fr (p_i m (A 22) 9 0) q → Ok 244 76 [.ref (A 22), .long (dg1 d (5)), mk0, .int 0, .int 6, a5, a6, a7] [] q bc bs Q) : Ok 244 76 [.ref (A 22), .long (d), mk0, .int 0, .int 5, a5, a6, a7] [] m (bc + 1) (bs + 7) Q := by
  have R0 := R
  obtain ⟨vk, vcn, v0, v1, v2, vp, vl0, vl1, vlr, vsr, vc, tx⟩ := R0
  have vk0 := vk
  have vcn0 := vcn
  (refine K_el vk0 ?_; intros hA kc0 kc1 kc2 kc3 kc4 kc5 kc6 kc7 kc8 kc9 kc10 kc11 kc12 kc13 kc14 kc15 kc16 kc17 kc18 kc19 kc20 kc21 kc22 kc23 kc24 kc25 kc26 kc27 kc28 kc29 kc30 kc31 kc32 kc33 kc34 kc35 kc36 kc37 kc38 kc39 kz kt kn3 kn4 kn18 kn21 kn23 kn24 kn25 kn26 kn27 kn29 kn30 kr0_0 kr0_1 kr0_2 kr0_3 kr0_4 kr0_5 kr0_7 kr0_8 kr0_9 kr0_10 kr1_0 kr2_0 kr5_0 kr5_1 kr6_0 kr6_1 kr7_0 kr7_1 kr8_0 kr9_0 kr10_0 kr11_0 kr12_0 kr13_0 kr14_0 kr15_0 kr16_0 kr17_0 kr19_0 kr19_1 kr22_0 kr22_1 kr22_2 kr22_3 kr22_4 kr22_5 kr22_7 kr22_8 kr25_0 kr25_1 kr25_2 kr26_0 kr26_1 kr26_2 kr29_0 kr29_1)
  (refine Cn_el vcn0 ?_; intros ki5_2 ki6_2 ki7_2 ki8_1 ki8_2 ki8_3 ki9_1 ki9_2 ki9_3 ki10_1 ki10_2 ki10_3 ki11_1 ki11_2 ki11_3 ki12_1 ki12_2 ki12_3 ki13_1 ki13_2 ki13_3 ki14_1 ki14_2 ki14_3 ki28_0 ki28_1 ki31_0 ki31_1 ki32_0 ki32_1 ki33_0 ki33_1 ki34_0 ki34_1 ki35_0 ki35_1 ki36_0 ki36_1)
  have hAe : ∀ i j, i < 40 → j < 40 → (A i = A j ↔ i = j) := hA
  have b7 : (7 : Int32) = 7 := by decide
  have c1 : (1 ≤ bc + 1) = True := eq_true (by omega)
  have c2 : (7 ≤ bs + 7) = True := eq_true (by omega)
  have c3 : bc + 1 - 1 = bc := by omega
  have c4 : bs + 7 - 7 = bs := by omega
  (refine Sm_el sm ?_; intros i0 l0 i1 l1 i2 l2 i3 l3 i4 l4 i5 l5 i6 l6 i7 l7 i8 l8 i9 l9 i10 l10 i11 l11 i12 l12 i13 l13 i14 l14 i15 l15 i16 l16 i17 l17 i18 l18 i19 l19 i23 l23 i24 l24 i25 l25 i26 l26 i27 l27 i28 l28 i29 l29 i30 l30 i31 l31 i32 l32 i33 l33 i34 l34 i35 l35 i36 l36 i37 l37 i38 l38 i39 l39 i22)
  rw [o244_76]
  simp only [o244_78, o244_80, o244_83, o244_84, o244_87, o244_88, o244_89, o244_90, o244_92, mcs_0, mcs_l, true_and, not_true_eq_false, not_false_eq_true, false_implies, forall_const, Nat.reduceLeDiff, Nat.reduceAdd, lt_le, Int32.reduceLT, kc22, Int32.reduceLT, c1, c2, c3, c4]
  refine m_plX0_5 R (fun q f => ?_)
  simp only [o244_95, o244_96, o244_97, o244_98, o244_101, Kn_v, Int32.reduceAdd]
  exact hQ q f

theorem ms_P0_6 {A : Nat → Nat} {d : Int64} {h0 m : MH} {Q : MR → MH → Prop} {bc bs : Nat} {a5 a6 a7 : Value} (sm : Sm A h0 m) (R : Rl A m) (hQ : ∀ q, Fr (p_i m (A 22) 9 0) q → Ok 244 76 [.ref (A 22), .long (dg1 d (1)), mk0, .int 0, .int 7, a5, a6, a7] [] q bc bs Q) : Ok 244 76 [.ref (A 22), .long (d), mk0, .int 0, .int 6, a5, a6, a7] [] m (bc + 1) (bs + 7) Q := by
  have R0 := R
  obtain ⟨vk, vcn, v0, v1, v2, vp, vl0, vl1, vlr, vsr, vc, tx⟩ := R0
  have vk0 := vk
  have vcn0 := vcn
  (refine K_el vk0 ?_; intros hA kc0 kc1 kc2 kc3 kc4 kc5 kc6 kc7 kc8 kc9 kc10 kc11 kc12 kc13 kc14 kc15 kc16 kc17 kc18 kc19 kc20 kc21 kc22 kc23 kc24 kc25 kc26 kc27 kc28 kc29 kc30 kc31 kc32 kc33 kc34 kc35 kc36 kc37 kc38 kc39 kz kt kn3 kn4 kn18 kn21 kn23 kn24 kn25 kn26 kn27 kn29 kn30 kr0_0 kr0_1 kr0_2 kr0_3 kr0_4 kr0_5 kr0_7 kr0_8 kr0_9 kr0_10 kr1_0 kr2_0 kr5_0 kr5_1 kr6_0 kr6_1 kr7_0 kr7_1 kr8_0 kr9_0 kr10_0 kr11_0 kr12_0 kr13_0 kr14_0 kr15_0 kr16_0 kr17_0 kr19_0 kr19_1 kr22_0 kr22_1 kr22_2 kr22_3 kr22_4 kr22_5 kr22_7 kr22_8 kr25_0 kr25_1 kr25_2 kr26_0 kr26_1 kr26_2 kr29_0 kr29_1)
  (refine Cn_el vcn0 ?_; intros ki5_2 ki6_2 ki7_2 ki8_1 ki8_2 ki8_3 ki9_1 ki9_2 ki9_3 ki10_1 ki10_2 ki10_3 ki11_1 ki11_2 ki11_3 ki12_1 ki12_2 ki12_3 ki13_1 ki13_2 ki13_3 ki14_1 ki14_2 ki14_3 ki28_0 ki28_1 ki31_0 ki31_1 ki32_0 ki32_1 ki33_0 ki33_1 ki34_0 ki34_1 ki35_0 ki35_1 ki36_0 ki36_1)
  have hAe : ∀ i j, i < 40 → j < 40 → (A i = A j ↔ i = j) := hA
  have b7 : (7 : Int32) = 7 := by decide
  have c1 : (1 ≤ bc + 1) = True := eq_true (by omega)
  have c2 : (7 ≤ bs + 7) = True := eq_true (by omega)
  have c3 : bc + 1 - 1 = bc := by omega
  have c4 : bs + 7 - 7 = bs := by omega
  (refine Sm_el sm ?_; intros i0 l0 i1 l1 i2 l2 i3 l3 i4 l4 i5 l5 i6 l6 i7 l7 i8 l8 i9 l9 i10 l10 i11 l11 i12 l12 i13 l13 i14 l14 i15 l15 i16 l16 i17 l17 i18 l18 i19 l19 i23 l23 i24 l24 i25 l25 i26 l26 i27 l27 i28 l28 i29 l29 i30 l30 i31 l31 i32 l32 i33 l33 i34 l34 i35 l35 i36 l36 i37 l37 i38 l38 i39 l39 i22)
  rw [o244_76]
  simp only [o244_78, o244_80, o244_83, o244_84, o244_87, o244_88, o244_89, o244_90, o244_92, mcs_0, mcs_l, true_and, not_true_eq_false, not_false_eq_true, false_implies, forall_const, Nat.reduceLeDiff, Nat.reduceAdd, lt_le, Int32.reduceLT, kc22, Int32.reduceLT, c1, c2, c3, c4]
  refine m_plX0_6 R (fun q f => ?_)
  simp only [o244_95, o244_96, o244_97, o244_98, o244_101, Kn_v, Int32.reduceAdd]
  exact hQ q f

theorem ms_Q0 {A : Nat → Nat} {d : Int64} {h0 m : MH} {Q : MR → MH → Prop} {bc bs : Nat} {a4 a5 a6 a7 : Value} (sm : Sm A h0 m) (R : Rl A m) (cs : Cs m) (hQ : ∀ q, Sm A h0 q → Rl A q → Cs q → Ok 244 44 [.ref (A 22), .long (dQ0 A h0 d), mk0, .int 1, .int 7, a5, a6, a7] [] q bc bs Q) : Ok 244 44 [.ref (A 22), .long (d), mk0, .int 0, a4, a5, a6, a7] [] m (bc + 23) (bs + 2023) Q := by
  have R0 := R
  obtain ⟨vk, vcn, v0, v1, v2, vp, vl0, vl1, vlr, vsr, vc, tx⟩ := R0
  have vk0 := vk
  have vcn0 := vcn
  (refine K_el vk0 ?_; intros hA kc0 kc1 kc2 kc3 kc4 kc5 kc6 kc7 kc8 kc9 kc10 kc11 kc12 kc13 kc14 kc15 kc16 kc17 kc18 kc19 kc20 kc21 kc22 kc23 kc24 kc25 kc26 kc27 kc28 kc29 kc30 kc31 kc32 kc33 kc34 kc35 kc36 kc37 kc38 kc39 kz kt kn3 kn4 kn18 kn21 kn23 kn24 kn25 kn26 kn27 kn29 kn30 kr0_0 kr0_1 kr0_2 kr0_3 kr0_4 kr0_5 kr0_7 kr0_8 kr0_9 kr0_10 kr1_0 kr2_0 kr5_0 kr5_1 kr6_0 kr6_1 kr7_0 kr7_1 kr8_0 kr9_0 kr10_0 kr11_0 kr12_0 kr13_0 kr14_0 kr15_0 kr16_0 kr17_0 kr19_0 kr19_1 kr22_0 kr22_1 kr22_2 kr22_3 kr22_4 kr22_5 kr22_7 kr22_8 kr25_0 kr25_1 kr25_2 kr26_0 kr26_1 kr26_2 kr29_0 kr29_1)
  (refine Cn_el vcn0 ?_; intros ki5_2 ki6_2 ki7_2 ki8_1 ki8_2 ki8_3 ki9_1 ki9_2 ki9_3 ki10_1 ki10_2 ki10_3 ki11_1 ki11_2 ki11_3 ki12_1 ki12_2 ki12_3 ki13_1 ki13_2 ki13_3 ki14_1 ki14_2 ki14_3 ki28_0 ki28_1 ki31_0 ki31_1 ki32_0 ki32_1 ki33_0 ki33_1 ki34_0 ki34_1 ki35_0 ki35_1 ki36_0 ki36_1)
  have hAe : ∀ i j, i < 40 → j < 40 → (A i = A j ↔ i = j) := hA
  have he := v0.1.symm
  have hc := (Sm_cT sm).1
  have b7 : (7 : Int32) = 7 := by decide
  rw [o244_44]
  simp only [o244_45, o244_46, o244_49, o244_50, o244_53, o244_54, o244_55, o244_56, o244_59, o244_60, o244_61, o244_64, o244_65, o244_66, o244_67, o244_70, o244_71, o244_72, o244_73, o244_74, c_X8_liesOf (x2 := A 25) (x3 := A 26) (a := A 27) (w := A 31) (r := A 34), c_X8_roomOf (x2 := A 25) (x3 := A 26) (a := A 27) (w := A 31) (r := A 34), mcs_0, mcs_l, Kn_v, true_and, not_true_eq_false, not_false_eq_true, false_implies, forall_const, if_true, Nat.reduceLeDiff, Nat.reduceAdd, lt_le, Int32.reduceLT, cl0, kc22, kc25, kc26, kc27, kc31, kc34, kn25, kn26, kn27, kr22_2, kr22_3, kr22_4, kr25_0, kr26_0, vq3, Int32.reduceLT, he, hc]
  refine ms_P0_0 (bc := bc + 22) (bs := bs + 2016) sm R (fun q0 f0 => ?_)
  obtain ⟨R0, s0⟩ := Rl_fr0 R f0
  have cs0 := Cs_fr0 R cs f0
  replace s0 := Sm_tr sm s0
  refine ms_P0_1 (bc := bc + 21) (bs := bs + 2009) s0 R0 (fun q1 f1 => ?_)
  obtain ⟨R1, s1⟩ := Rl_fr0 R0 f1
  have cs1 := Cs_fr0 R0 cs0 f1
  replace s1 := Sm_tr s0 s1
  refine ms_P0_2 (bc := bc + 20) (bs := bs + 2002) s1 R1 (fun q2 f2 => ?_)
  obtain ⟨R2, s2⟩ := Rl_fr0 R1 f2
  have cs2 := Cs_fr0 R1 cs1 f2
  replace s2 := Sm_tr s1 s2
  refine ms_P0_3 (bc := bc + 19) (bs := bs + 1995) s2 R2 (fun q3 f3 => ?_)
  obtain ⟨R3, s3⟩ := Rl_fr0 R2 f3
  have cs3 := Cs_fr0 R2 cs2 f3
  replace s3 := Sm_tr s2 s3
  refine ms_P0_4 (bc := bc + 18) (bs := bs + 1988) s3 R3 (fun q4 f4 => ?_)
  obtain ⟨R4, s4⟩ := Rl_fr0 R3 f4
  have cs4 := Cs_fr0 R3 cs3 f4
  replace s4 := Sm_tr s3 s4
  refine ms_P0_5 (bc := bc + 17) (bs := bs + 1981) s4 R4 (fun q5 f5 => ?_)
  obtain ⟨R5, s5⟩ := Rl_fr0 R4 f5
  have cs5 := Cs_fr0 R4 cs4 f5
  replace s5 := Sm_tr s4 s5
  refine ms_P0_6 (bc := bc + 16) (bs := bs + 1974) s5 R5 (fun q6 f6 => ?_)
  obtain ⟨R6, s6⟩ := Rl_fr0 R5 f6
  have cs6 := Cs_fr0 R5 cs5 f6
  replace s6 := Sm_tr s5 s6
  have c1 : (16 ≤ bc + 16) = True := eq_true (by omega)
  have c2 : (1974 ≤ bs + 1974) = True := eq_true (by omega)
  have c3 : bc + 16 - 16 = bc := by omega
  have c4 : bs + 1974 - 1974 = bs := by omega
  have R0 := R6
  obtain ⟨vk, vcn, v0, v1, v2, vp, vl0, vl1, vlr, vsr, vc, tx⟩ := R0
  have vk0 := vk
  have vcn0 := vcn
  (refine K_el vk0 ?_; intros hA kc0 kc1 kc2 kc3 kc4 kc5 kc6 kc7 kc8 kc9 kc10 kc11 kc12 kc13 kc14 kc15 kc16 kc17 kc18 kc19 kc20 kc21 kc22 kc23 kc24 kc25 kc26 kc27 kc28 kc29 kc30 kc31 kc32 kc33 kc34 kc35 kc36 kc37 kc38 kc39 kz kt kn3 kn4 kn18 kn21 kn23 kn24 kn25 kn26 kn27 kn29 kn30 kr0_0 kr0_1 kr0_2 kr0_3 kr0_4 kr0_5 kr0_7 kr0_8 kr0_9 kr0_10 kr1_0 kr2_0 kr5_0 kr5_1 kr6_0 kr6_1 kr7_0 kr7_1 kr8_0 kr9_0 kr10_0 kr11_0 kr12_0 kr13_0 kr14_0 kr15_0 kr16_0 kr17_0 kr19_0 kr19_1 kr22_0 kr22_1 kr22_2 kr22_3 kr22_4 kr22_5 kr22_7 kr22_8 kr25_0 kr25_1 kr25_2 kr26_0 kr26_1 kr26_2 kr29_0 kr29_1)
  (refine Cn_el vcn0 ?_; intros ki5_2 ki6_2 ki7_2 ki8_1 ki8_2 ki8_3 ki9_1 ki9_2 ki9_3 ki10_1 ki10_2 ki10_3 ki11_1 ki11_2 ki11_3 ki12_1 ki12_2 ki12_3 ki13_1 ki13_2 ki13_3 ki14_1 ki14_2 ki14_3 ki28_0 ki28_1 ki31_0 ki31_1 ki32_0 ki32_1 ki33_0 ki33_1 ki34_0 ki34_1 ki35_0 ki35_1 ki36_0 ki36_1)
  have hAe : ∀ i j, i < 40 → j < 40 → (A i = A j ↔ i = j) := hA
  rw [o244_76]
  simp only [o244_78, o244_80, o244_104, o244_105, o244_108, o244_109, o244_110, o244_111, mcs_0, mcs_l, true_and, and_true, not_true_eq_false, not_false_eq_true, false_implies, forall_const, Nat.reduceLeDiff, Nat.reduceAdd, lt_le, Int32.reduceLT, kc22, Int32.reduceLT, c1, c2, c3, c4]
  refine m_textOf0 R6 cs6 (fun q t sb hsb f st => ?_)
  have Rq := Rl_Fn R6 f hsb hsb
  have sq := Sm_tr s6 (Sm_Fn R6 f hsb)
  have cq := Cs_Fx cs6 f (Nat.le_trans (Rl_z R6) hsb) (Nat.le_trans (Rl_z R6) hsb)
  obtain ⟨t1, t2, t3, v, t4, t5, t6, t7⟩ := st
  rw [(Sm_qv s6).1, (Sm_cT s6).1] at t7
  simp only [o244_114, o244_117, o244_118, o244_119, o244_120, o244_123, J_slen (v := v), mcs_0, mcs_l, Kn_v, true_and, Nat.reduceLeDiff, Nat.reduceAdd, Int32.reduceAdd, t1, t3, t4, t5, t7]
  exact hQ q sq Rq cq

theorem ms_P1_0 {A : Nat → Nat} {d : Int64} {h0 m : MH} {Q : MR → MH → Prop} {bc bs : Nat} {a5 a6 a7 : Value} (sm : Sm A h0 m) (R : Rl A m) (hQ : ∀ q, Fr (p_i m (A 22) 9 0) q → Ok 244 76 [.ref (A 22), .long (dg1 d (g_i h0 (A 10) 4)), mk0, .int 1, .int 1, a5, a6, a7] [] q bc bs Q) : Ok 244 76 [.ref (A 22), .long (d), mk0, .int 1, .int 0, a5, a6, a7] [] m (bc + 1) (bs + 7) Q := by
  have R0 := R
  obtain ⟨vk, vcn, v0, v1, v2, vp, vl0, vl1, vlr, vsr, vc, tx⟩ := R0
  have vk0 := vk
  have vcn0 := vcn
  (refine K_el vk0 ?_; intros hA kc0 kc1 kc2 kc3 kc4 kc5 kc6 kc7 kc8 kc9 kc10 kc11 kc12 kc13 kc14 kc15 kc16 kc17 kc18 kc19 kc20 kc21 kc22 kc23 kc24 kc25 kc26 kc27 kc28 kc29 kc30 kc31 kc32 kc33 kc34 kc35 kc36 kc37 kc38 kc39 kz kt kn3 kn4 kn18 kn21 kn23 kn24 kn25 kn26 kn27 kn29 kn30 kr0_0 kr0_1 kr0_2 kr0_3 kr0_4 kr0_5 kr0_7 kr0_8 kr0_9 kr0_10 kr1_0 kr2_0 kr5_0 kr5_1 kr6_0 kr6_1 kr7_0 kr7_1 kr8_0 kr9_0 kr10_0 kr11_0 kr12_0 kr13_0 kr14_0 kr15_0 kr16_0 kr17_0 kr19_0 kr19_1 kr22_0 kr22_1 kr22_2 kr22_3 kr22_4 kr22_5 kr22_7 kr22_8 kr25_0 kr25_1 kr25_2 kr26_0 kr26_1 kr26_2 kr29_0 kr29_1)
  (refine Cn_el vcn0 ?_; intros ki5_2 ki6_2 ki7_2 ki8_1 ki8_2 ki8_3 ki9_1 ki9_2 ki9_3 ki10_1 ki10_2 ki10_3 ki11_1 ki11_2 ki11_3 ki12_1 ki12_2 ki12_3 ki13_1 ki13_2 ki13_3 ki14_1 ki14_2 ki14_3 ki28_0 ki28_1 ki31_0 ki31_1 ki32_0 ki32_1 ki33_0 ki33_1 ki34_0 ki34_1 ki35_0 ki35_1 ki36_0 ki36_1)
  have hAe : ∀ i j, i < 40 → j < 40 → (A i = A j ↔ i = j) := hA
  have b7 : (7 : Int32) = 7 := by decide
  have c1 : (1 ≤ bc + 1) = True := eq_true (by omega)
  have c2 : (7 ≤ bs + 7) = True := eq_true (by omega)
  have c3 : bc + 1 - 1 = bc := by omega
  have c4 : bs + 7 - 7 = bs := by omega
  (refine Sm_el sm ?_; intros i0 l0 i1 l1 i2 l2 i3 l3 i4 l4 i5 l5 i6 l6 i7 l7 i8 l8 i9 l9 i10 l10 i11 l11 i12 l12 i13 l13 i14 l14 i15 l15 i16 l16 i17 l17 i18 l18 i19 l19 i23 l23 i24 l24 i25 l25 i26 l26 i27 l27 i28 l28 i29 l29 i30 l30 i31 l31 i32 l32 i33 l33 i34 l34 i35 l35 i36 l36 i37 l37 i38 l38 i39 l39 i22)
  rw [o244_76]
  simp only [o244_78, o244_80, o244_83, o244_84, o244_87, o244_88, o244_89, o244_90, o244_92, mcs_0, mcs_l, true_and, not_true_eq_false, not_false_eq_true, false_implies, forall_const, Nat.reduceLeDiff, Nat.reduceAdd, lt_le, Int32.reduceLT, kc22, Int32.reduceLT, c1, c2, c3, c4]
  refine m_plX1_0 R (fun q f => ?_)
  simp only [o244_95, o244_96, o244_97, o244_98, o244_101, Kn_v, i10, Int32.reduceAdd, i10]
  exact hQ q f

theorem ms_P1_1 {A : Nat → Nat} {d : Int64} {h0 m : MH} {Q : MR → MH → Prop} {bc bs : Nat} {a5 a6 a7 : Value} (sm : Sm A h0 m) (R : Rl A m) (hQ : ∀ q, Fr (p_i m (A 22) 9 0) q → Ok 244 76 [.ref (A 22), .long (dg1 d (g_i h0 (A 10) 5)), mk0, .int 1, .int 2, a5, a6, a7] [] q bc bs Q) : Ok 244 76 [.ref (A 22), .long (d), mk0, .int 1, .int 1, a5, a6, a7] [] m (bc + 1) (bs + 7) Q := by
  have R0 := R
  obtain ⟨vk, vcn, v0, v1, v2, vp, vl0, vl1, vlr, vsr, vc, tx⟩ := R0
  have vk0 := vk
  have vcn0 := vcn
  (refine K_el vk0 ?_; intros hA kc0 kc1 kc2 kc3 kc4 kc5 kc6 kc7 kc8 kc9 kc10 kc11 kc12 kc13 kc14 kc15 kc16 kc17 kc18 kc19 kc20 kc21 kc22 kc23 kc24 kc25 kc26 kc27 kc28 kc29 kc30 kc31 kc32 kc33 kc34 kc35 kc36 kc37 kc38 kc39 kz kt kn3 kn4 kn18 kn21 kn23 kn24 kn25 kn26 kn27 kn29 kn30 kr0_0 kr0_1 kr0_2 kr0_3 kr0_4 kr0_5 kr0_7 kr0_8 kr0_9 kr0_10 kr1_0 kr2_0 kr5_0 kr5_1 kr6_0 kr6_1 kr7_0 kr7_1 kr8_0 kr9_0 kr10_0 kr11_0 kr12_0 kr13_0 kr14_0 kr15_0 kr16_0 kr17_0 kr19_0 kr19_1 kr22_0 kr22_1 kr22_2 kr22_3 kr22_4 kr22_5 kr22_7 kr22_8 kr25_0 kr25_1 kr25_2 kr26_0 kr26_1 kr26_2 kr29_0 kr29_1)
  (refine Cn_el vcn0 ?_; intros ki5_2 ki6_2 ki7_2 ki8_1 ki8_2 ki8_3 ki9_1 ki9_2 ki9_3 ki10_1 ki10_2 ki10_3 ki11_1 ki11_2 ki11_3 ki12_1 ki12_2 ki12_3 ki13_1 ki13_2 ki13_3 ki14_1 ki14_2 ki14_3 ki28_0 ki28_1 ki31_0 ki31_1 ki32_0 ki32_1 ki33_0 ki33_1 ki34_0 ki34_1 ki35_0 ki35_1 ki36_0 ki36_1)
  have hAe : ∀ i j, i < 40 → j < 40 → (A i = A j ↔ i = j) := hA
  have b7 : (7 : Int32) = 7 := by decide
  have c1 : (1 ≤ bc + 1) = True := eq_true (by omega)
  have c2 : (7 ≤ bs + 7) = True := eq_true (by omega)
  have c3 : bc + 1 - 1 = bc := by omega
  have c4 : bs + 7 - 7 = bs := by omega
  (refine Sm_el sm ?_; intros i0 l0 i1 l1 i2 l2 i3 l3 i4 l4 i5 l5 i6 l6 i7 l7 i8 l8 i9 l9 i10 l10 i11 l11 i12 l12 i13 l13 i14 l14 i15 l15 i16 l16 i17 l17 i18 l18 i19 l19 i23 l23 i24 l24 i25 l25 i26 l26 i27 l27 i28 l28 i29 l29 i30 l30 i31 l31 i32 l32 i33 l33 i34 l34 i35 l35 i36 l36 i37 l37 i38 l38 i39 l39 i22)
  rw [o244_76]
  simp only [o244_78, o244_80, o244_83, o244_84, o244_87, o244_88, o244_89, o244_90, o244_92, mcs_0, mcs_l, true_and, not_true_eq_false, not_false_eq_true, false_implies, forall_const, Nat.reduceLeDiff, Nat.reduceAdd, lt_le, Int32.reduceLT, kc22, Int32.reduceLT, c1, c2, c3, c4]
  refine m_plX1_1 R (fun q f => ?_)
  simp only [o244_95, o244_96, o244_97, o244_98, o244_101, Kn_v, i10, Int32.reduceAdd, i10]
  exact hQ q f

theorem ms_P1_2 {A : Nat → Nat} {d : Int64} {h0 m : MH} {Q : MR → MH → Prop} {bc bs : Nat} {a5 a6 a7 : Value} (sm : Sm A h0 m) (R : Rl A m) (hQ : ∀ q, Fr (p_i m (A 22) 9 0) q → Ok 244 76 [.ref (A 22), .long (dg1 d (g_i h0 (A 11) 4)), mk0, .int 1, .int 3, a5, a6, a7] [] q bc bs Q) : Ok 244 76 [.ref (A 22), .long (d), mk0, .int 1, .int 2, a5, a6, a7] [] m (bc + 1) (bs + 7) Q := by
  have R0 := R
  obtain ⟨vk, vcn, v0, v1, v2, vp, vl0, vl1, vlr, vsr, vc, tx⟩ := R0
  have vk0 := vk
  have vcn0 := vcn
  (refine K_el vk0 ?_; intros hA kc0 kc1 kc2 kc3 kc4 kc5 kc6 kc7 kc8 kc9 kc10 kc11 kc12 kc13 kc14 kc15 kc16 kc17 kc18 kc19 kc20 kc21 kc22 kc23 kc24 kc25 kc26 kc27 kc28 kc29 kc30 kc31 kc32 kc33 kc34 kc35 kc36 kc37 kc38 kc39 kz kt kn3 kn4 kn18 kn21 kn23 kn24 kn25 kn26 kn27 kn29 kn30 kr0_0 kr0_1 kr0_2 kr0_3 kr0_4 kr0_5 kr0_7 kr0_8 kr0_9 kr0_10 kr1_0 kr2_0 kr5_0 kr5_1 kr6_0 kr6_1 kr7_0 kr7_1 kr8_0 kr9_0 kr10_0 kr11_0 kr12_0 kr13_0 kr14_0 kr15_0 kr16_0 kr17_0 kr19_0 kr19_1 kr22_0 kr22_1 kr22_2 kr22_3 kr22_4 kr22_5 kr22_7 kr22_8 kr25_0 kr25_1 kr25_2 kr26_0 kr26_1 kr26_2 kr29_0 kr29_1)
  (refine Cn_el vcn0 ?_; intros ki5_2 ki6_2 ki7_2 ki8_1 ki8_2 ki8_3 ki9_1 ki9_2 ki9_3 ki10_1 ki10_2 ki10_3 ki11_1 ki11_2 ki11_3 ki12_1 ki12_2 ki12_3 ki13_1 ki13_2 ki13_3 ki14_1 ki14_2 ki14_3 ki28_0 ki28_1 ki31_0 ki31_1 ki32_0 ki32_1 ki33_0 ki33_1 ki34_0 ki34_1 ki35_0 ki35_1 ki36_0 ki36_1)
  have hAe : ∀ i j, i < 40 → j < 40 → (A i = A j ↔ i = j) := hA
  have b7 : (7 : Int32) = 7 := by decide
  have c1 : (1 ≤ bc + 1) = True := eq_true (by omega)
  have c2 : (7 ≤ bs + 7) = True := eq_true (by omega)
  have c3 : bc + 1 - 1 = bc := by omega
  have c4 : bs + 7 - 7 = bs := by omega
  (refine Sm_el sm ?_; intros i0 l0 i1 l1 i2 l2 i3 l3 i4 l4 i5 l5 i6 l6 i7 l7 i8 l8 i9 l9 i10 l10 i11 l11 i12 l12 i13 l13 i14 l14 i15 l15 i16 l16 i17 l17 i18 l18 i19 l19 i23 l23 i24 l24 i25 l25 i26 l26 i27 l27 i28 l28 i29 l29 i30 l30 i31 l31 i32 l32 i33 l33 i34 l34 i35 l35 i36 l36 i37 l37 i38 l38 i39 l39 i22)
  rw [o244_76]
  simp only [o244_78, o244_80, o244_83, o244_84, o244_87, o244_88, o244_89, o244_90, o244_92, mcs_0, mcs_l, true_and, not_true_eq_false, not_false_eq_true, false_implies, forall_const, Nat.reduceLeDiff, Nat.reduceAdd, lt_le, Int32.reduceLT, kc22, Int32.reduceLT, c1, c2, c3, c4]
  refine m_plX1_2 R (fun q f => ?_)
  simp only [o244_95, o244_96, o244_97, o244_98, o244_101, Kn_v, Int32.reduceAdd, i11]
  exact hQ q f

theorem ms_P1_3 {A : Nat → Nat} {d : Int64} {h0 m : MH} {Q : MR → MH → Prop} {bc bs : Nat} {a5 a6 a7 : Value} (sm : Sm A h0 m) (R : Rl A m) (hQ : ∀ q, Fr (p_i m (A 22) 9 0) q → Ok 244 76 [.ref (A 22), .long (dg1 d (g_i h0 (A 11) 5)), mk0, .int 1, .int 4, a5, a6, a7] [] q bc bs Q) : Ok 244 76 [.ref (A 22), .long (d), mk0, .int 1, .int 3, a5, a6, a7] [] m (bc + 1) (bs + 7) Q := by
  have R0 := R
  obtain ⟨vk, vcn, v0, v1, v2, vp, vl0, vl1, vlr, vsr, vc, tx⟩ := R0
  have vk0 := vk
  have vcn0 := vcn
  (refine K_el vk0 ?_; intros hA kc0 kc1 kc2 kc3 kc4 kc5 kc6 kc7 kc8 kc9 kc10 kc11 kc12 kc13 kc14 kc15 kc16 kc17 kc18 kc19 kc20 kc21 kc22 kc23 kc24 kc25 kc26 kc27 kc28 kc29 kc30 kc31 kc32 kc33 kc34 kc35 kc36 kc37 kc38 kc39 kz kt kn3 kn4 kn18 kn21 kn23 kn24 kn25 kn26 kn27 kn29 kn30 kr0_0 kr0_1 kr0_2 kr0_3 kr0_4 kr0_5 kr0_7 kr0_8 kr0_9 kr0_10 kr1_0 kr2_0 kr5_0 kr5_1 kr6_0 kr6_1 kr7_0 kr7_1 kr8_0 kr9_0 kr10_0 kr11_0 kr12_0 kr13_0 kr14_0 kr15_0 kr16_0 kr17_0 kr19_0 kr19_1 kr22_0 kr22_1 kr22_2 kr22_3 kr22_4 kr22_5 kr22_7 kr22_8 kr25_0 kr25_1 kr25_2 kr26_0 kr26_1 kr26_2 kr29_0 kr29_1)
  (refine Cn_el vcn0 ?_; intros ki5_2 ki6_2 ki7_2 ki8_1 ki8_2 ki8_3 ki9_1 ki9_2 ki9_3 ki10_1 ki10_2 ki10_3 ki11_1 ki11_2 ki11_3 ki12_1 ki12_2 ki12_3 ki13_1 ki13_2 ki13_3 ki14_1 ki14_2 ki14_3 ki28_0 ki28_1 ki31_0 ki31_1 ki32_0 ki32_1 ki33_0 ki33_1 ki34_0 ki34_1 ki35_0 ki35_1 ki36_0 ki36_1)
  have hAe : ∀ i j, i < 40 → j < 40 → (A i = A j ↔ i = j) := hA
  have b7 : (7 : Int32) = 7 := by decide
  have c1 : (1 ≤ bc + 1) = True := eq_true (by omega)
  have c2 : (7 ≤ bs + 7) = True := eq_true (by omega)
  have c3 : bc + 1 - 1 = bc := by omega
  have c4 : bs + 7 - 7 = bs := by omega
  (refine Sm_el sm ?_; intros i0 l0 i1 l1 i2 l2 i3 l3 i4 l4 i5 l5 i6 l6 i7 l7 i8 l8 i9 l9 i10 l10 i11 l11 i12 l12 i13 l13 i14 l14 i15 l15 i16 l16 i17 l17 i18 l18 i19 l19 i23 l23 i24 l24 i25 l25 i26 l26 i27 l27 i28 l28 i29 l29 i30 l30 i31 l31 i32 l32 i33 l33 i34 l34 i35 l35 i36 l36 i37 l37 i38 l38 i39 l39 i22)
  rw [o244_76]
  simp only [o244_78, o244_80, o244_83, o244_84, o244_87, o244_88, o244_89, o244_90, o244_92, mcs_0, mcs_l, true_and, not_true_eq_false, not_false_eq_true, false_implies, forall_const, Nat.reduceLeDiff, Nat.reduceAdd, lt_le, Int32.reduceLT, kc22, Int32.reduceLT, c1, c2, c3, c4]
  refine m_plX1_3 R (fun q f => ?_)
  simp only [o244_95, o244_96, o244_97, o244_98, o244_101, Kn_v, Int32.reduceAdd, i11]
  exact hQ q f

theorem ms_P1_4 {A : Nat → Nat} {d : Int64} {h0 m : MH} {Q : MR → MH → Prop} {bc bs : Nat} {a5 a6 a7 : Value} (sm : Sm A h0 m) (R : Rl A m) (hQ : ∀ q, Fr (p_i m (A 22) 9 0) q → Ok 244 76 [.ref (A 22), .long (dg1 d (g_i h0 (A 11) 6)), mk0, .int 1, .int 5, a5, a6, a7] [] q bc bs Q) : Ok 244 76 [.ref (A 22), .long (d), mk0, .int 1, .int 4, a5, a6, a7] [] m (bc + 1) (bs + 7) Q := by
  have R0 := R
  obtain ⟨vk, vcn, v0, v1, v2, vp, vl0, vl1, vlr, vsr, vc, tx⟩ := R0
  have vk0 := vk
  have vcn0 := vcn
  (refine K_el vk0 ?_; intros hA kc0 kc1 kc2 kc3 kc4 kc5 kc6 kc7 kc8 kc9 kc10 kc11 kc12 kc13 kc14 kc15 kc16 kc17 kc18 kc19 kc20 kc21 kc22 kc23 kc24 kc25 kc26 kc27 kc28 kc29 kc30 kc31 kc32 kc33 kc34 kc35 kc36 kc37 kc38 kc39 kz kt kn3 kn4 kn18 kn21 kn23 kn24 kn25 kn26 kn27 kn29 kn30 kr0_0 kr0_1 kr0_2 kr0_3 kr0_4 kr0_5 kr0_7 kr0_8 kr0_9 kr0_10 kr1_0 kr2_0 kr5_0 kr5_1 kr6_0 kr6_1 kr7_0 kr7_1 kr8_0 kr9_0 kr10_0 kr11_0 kr12_0 kr13_0 kr14_0 kr15_0 kr16_0 kr17_0 kr19_0 kr19_1 kr22_0 kr22_1 kr22_2 kr22_3 kr22_4 kr22_5 kr22_7 kr22_8 kr25_0 kr25_1 kr25_2 kr26_0 kr26_1 kr26_2 kr29_0 kr29_1)
  (refine Cn_el vcn0 ?_; intros ki5_2 ki6_2 ki7_2 ki8_1 ki8_2 ki8_3 ki9_1 ki9_2 ki9_3 ki10_1 ki10_2 ki10_3 ki11_1 ki11_2 ki11_3 ki12_1 ki12_2 ki12_3 ki13_1 ki13_2 ki13_3 ki14_1 ki14_2 ki14_3 ki28_0 ki28_1 ki31_0 ki31_1 ki32_0 ki32_1 ki33_0 ki33_1 ki34_0 ki34_1 ki35_0 ki35_1 ki36_0 ki36_1)
  have hAe : ∀ i j, i < 40 → j < 40 → (A i = A j ↔ i = j) := hA
  have b7 : (7 : Int32) = 7 := by decide
  have c1 : (1 ≤ bc + 1) = True := eq_true (by omega)
  have c2 : (7 ≤ bs + 7) = True := eq_true (by omega)
  have c3 : bc + 1 - 1 = bc := by omega
  have c4 : bs + 7 - 7 = bs := by omega
  (refine Sm_el sm ?_; intros i0 l0 i1 l1 i2 l2 i3 l3 i4 l4 i5 l5 i6 l6 i7 l7 i8 l8 i9 l9 i10 l10 i11 l11 i12 l12 i13 l13 i14 l14 i15 l15 i16 l16 i17 l17 i18 l18 i19 l19 i23 l23 i24 l24 i25 l25 i26 l26 i27 l27 i28 l28 i29 l29 i30 l30 i31 l31 i32 l32 i33 l33 i34 l34 i35 l35 i36 l36 i37 l37 i38 l38 i39 l39 i22)
  rw [o244_76]
  simp only [o244_78, o244_80, o244_83, o244_84, o244_87, o244_88, o244_89, o244_90, o244_92, mcs_0, mcs_l, true_and, not_true_eq_false, not_false_eq_true, false_implies, forall_const, Nat.reduceLeDiff, Nat.reduceAdd, lt_le, Int32.reduceLT, kc22, Int32.reduceLT, c1, c2, c3, c4]
  refine m_plX1_4 R (fun q f => ?_)
  simp only [o244_95, o244_96, o244_97, o244_98, o244_101, Kn_v, Int32.reduceAdd, i11]
  exact hQ q f

theorem ms_P1_5 {A : Nat → Nat} {d : Int64} {h0 m : MH} {Q : MR → MH → Prop} {bc bs : Nat} {a5 a6 a7 : Value} (sm : Sm A h0 m) (R : Rl A m) (hQ : ∀ q, Fr (p_i m (A 22) 9 0) q → Ok 244 76 [.ref (A 22), .long (dg1 d (3)), mk0, .int 1, .int 6, a5, a6, a7] [] q bc bs Q) : Ok 244 76 [.ref (A 22), .long (d), mk0, .int 1, .int 5, a5, a6, a7] [] m (bc + 1) (bs + 7) Q := by
  have R0 := R
  obtain ⟨vk, vcn, v0, v1, v2, vp, vl0, vl1, vlr, vsr, vc, tx⟩ := R0
  have vk0 := vk
  have vcn0 := vcn
  (refine K_el vk0 ?_; intros hA kc0 kc1 kc2 kc3 kc4 kc5 kc6 kc7 kc8 kc9 kc10 kc11 kc12 kc13 kc14 kc15 kc16 kc17 kc18 kc19 kc20 kc21 kc22 kc23 kc24 kc25 kc26 kc27 kc28 kc29 kc30 kc31 kc32 kc33 kc34 kc35 kc36 kc37 kc38 kc39 kz kt kn3 kn4 kn18 kn21 kn23 kn24 kn25 kn26 kn27 kn29 kn30 kr0_0 kr0_1 kr0_2 kr0_3 kr0_4 kr0_5 kr0_7 kr0_8 kr0_9 kr0_10 kr1_0 kr2_0 kr5_0 kr5_1 kr6_0 kr6_1 kr7_0 kr7_1 kr8_0 kr9_0 kr10_0 kr11_0 kr12_0 kr13_0 kr14_0 kr15_0 kr16_0 kr17_0 kr19_0 kr19_1 kr22_0 kr22_1 kr22_2 kr22_3 kr22_4 kr22_5 kr22_7 kr22_8 kr25_0 kr25_1 kr25_2 kr26_0 kr26_1 kr26_2 kr29_0 kr29_1)
  (refine Cn_el vcn0 ?_; intros ki5_2 ki6_2 ki7_2 ki8_1 ki8_2 ki8_3 ki9_1 ki9_2 ki9_3 ki10_1 ki10_2 ki10_3 ki11_1 ki11_2 ki11_3 ki12_1 ki12_2 ki12_3 ki13_1 ki13_2 ki13_3 ki14_1 ki14_2 ki14_3 ki28_0 ki28_1 ki31_0 ki31_1 ki32_0 ki32_1 ki33_0 ki33_1 ki34_0 ki34_1 ki35_0 ki35_1 ki36_0 ki36_1)
  have hAe : ∀ i j, i < 40 → j < 40 → (A i = A j ↔ i = j) := hA
  have b7 : (7 : Int32) = 7 := by decide
  have c1 : (1 ≤ bc + 1) = True := eq_true (by omega)
  have c2 : (7 ≤ bs + 7) = True := eq_true (by omega)
  have c3 : bc + 1 - 1 = bc := by omega
  have c4 : bs + 7 - 7 = bs := by omega
  (refine Sm_el sm ?_; intros i0 l0 i1 l1 i2 l2 i3 l3 i4 l4 i5 l5 i6 l6 i7 l7 i8 l8 i9 l9 i10 l10 i11 l11 i12 l12 i13 l13 i14 l14 i15 l15 i16 l16 i17 l17 i18 l18 i19 l19 i23 l23 i24 l24 i25 l25 i26 l26 i27 l27 i28 l28 i29 l29 i30 l30 i31 l31 i32 l32 i33 l33 i34 l34 i35 l35 i36 l36 i37 l37 i38 l38 i39 l39 i22)
  rw [o244_76]
  simp only [o244_78, o244_80, o244_83, o244_84, o244_87, o244_88, o244_89, o244_90, o244_92, mcs_0, mcs_l, true_and, not_true_eq_false, not_false_eq_true, false_implies, forall_const, Nat.reduceLeDiff, Nat.reduceAdd, lt_le, Int32.reduceLT, kc22, Int32.reduceLT, c1, c2, c3, c4]
  refine m_plX1_5 R (fun q f => ?_)
  simp only [o244_95, o244_96, o244_97, o244_98, o244_101, Kn_v, Int32.reduceAdd]
  exact hQ q f

theorem ms_P1_6 {A : Nat → Nat} {d : Int64} {h0 m : MH} {Q : MR → MH → Prop} {bc bs : Nat} {a5 a6 a7 : Value} (sm : Sm A h0 m) (R : Rl A m) (hQ : ∀ q, Fr (p_i m (A 22) 9 0) q → Ok 244 76 [.ref (A 22), .long (dg1 d (6)), mk0, .int 1, .int 7, a5, a6, a7] [] q bc bs Q) : Ok 244 76 [.ref (A 22), .long (d), mk0, .int 1, .int 6, a5, a6, a7] [] m (bc + 1) (bs + 7) Q := by
  have R0 := R
  obtain ⟨vk, vcn, v0, v1, v2, vp, vl0, vl1, vlr, vsr, vc, tx⟩ := R0
  have vk0 := vk
  have vcn0 := vcn
  (refine K_el vk0 ?_; intros hA kc0 kc1 kc2 kc3 kc4 kc5 kc6 kc7 kc8 kc9 kc10 kc11 kc12 kc13 kc14 kc15 kc16 kc17 kc18 kc19 kc20 kc21 kc22 kc23 kc24 kc25 kc26 kc27 kc28 kc29 kc30 kc31 kc32 kc33 kc34 kc35 kc36 kc37 kc38 kc39 kz kt kn3 kn4 kn18 kn21 kn23 kn24 kn25 kn26 kn27 kn29 kn30 kr0_0 kr0_1 kr0_2 kr0_3 kr0_4 kr0_5 kr0_7 kr0_8 kr0_9 kr0_10 kr1_0 kr2_0 kr5_0 kr5_1 kr6_0 kr6_1 kr7_0 kr7_1 kr8_0 kr9_0 kr10_0 kr11_0 kr12_0 kr13_0 kr14_0 kr15_0 kr16_0 kr17_0 kr19_0 kr19_1 kr22_0 kr22_1 kr22_2 kr22_3 kr22_4 kr22_5 kr22_7 kr22_8 kr25_0 kr25_1 kr25_2 kr26_0 kr26_1 kr26_2 kr29_0 kr29_1)
  (refine Cn_el vcn0 ?_; intros ki5_2 ki6_2 ki7_2 ki8_1 ki8_2 ki8_3 ki9_1 ki9_2 ki9_3 ki10_1 ki10_2 ki10_3 ki11_1 ki11_2 ki11_3 ki12_1 ki12_2 ki12_3 ki13_1 ki13_2 ki13_3 ki14_1 ki14_2 ki14_3 ki28_0 ki28_1 ki31_0 ki31_1 ki32_0 ki32_1 ki33_0 ki33_1 ki34_0 ki34_1 ki35_0 ki35_1 ki36_0 ki36_1)
  have hAe : ∀ i j, i < 40 → j < 40 → (A i = A j ↔ i = j) := hA
  have b7 : (7 : Int32) = 7 := by decide
  have c1 : (1 ≤ bc + 1) = True := eq_true (by omega)
  have c2 : (7 ≤ bs + 7) = True := eq_true (by omega)
  have c3 : bc + 1 - 1 = bc := by omega
  have c4 : bs + 7 - 7 = bs := by omega
  (refine Sm_el sm ?_; intros i0 l0 i1 l1 i2 l2 i3 l3 i4 l4 i5 l5 i6 l6 i7 l7 i8 l8 i9 l9 i10 l10 i11 l11 i12 l12 i13 l13 i14 l14 i15 l15 i16 l16 i17 l17 i18 l18 i19 l19 i23 l23 i24 l24 i25 l25 i26 l26 i27 l27 i28 l28 i29 l29 i30 l30 i31 l31 i32 l32 i33 l33 i34 l34 i35 l35 i36 l36 i37 l37 i38 l38 i39 l39 i22)
  rw [o244_76]
  simp only [o244_78, o244_80, o244_83, o244_84, o244_87, o244_88, o244_89, o244_90, o244_92, mcs_0, mcs_l, true_and, not_true_eq_false, not_false_eq_true, false_implies, forall_const, Nat.reduceLeDiff, Nat.reduceAdd, lt_le, Int32.reduceLT, kc22, Int32.reduceLT, c1, c2, c3, c4]
  refine m_plX1_6 R (fun q f => ?_)
  simp only [o244_95, o244_96, o244_97, o244_98, o244_101, Kn_v, Int32.reduceAdd]
  exact hQ q f

theorem ms_Q1 {A : Nat → Nat} {d : Int64} {h0 m : MH} {Q : MR → MH → Prop} {bc bs : Nat} {a4 a5 a6 a7 : Value} (sm : Sm A h0 m) (R : Rl A m) (cs : Cs m) (hQ : ∀ q, Sm A h0 q → Rl A q → Cs q → Ok 244 44 [.ref (A 22), .long (dQ1 A h0 d), mk0, .int 2, .int 7, a5, a6, a7] [] q bc bs Q) : Ok 244 44 [.ref (A 22), .long (d), mk0, .int 1, a4, a5, a6, a7] [] m (bc + 23) (bs + 2023) Q := by
  have R0 := R
  obtain ⟨vk, vcn, v0, v1, v2, vp, vl0, vl1, vlr, vsr, vc, tx⟩ := R0
  have vk0 := vk
  have vcn0 := vcn
  (refine K_el vk0 ?_; intros hA kc0 kc1 kc2 kc3 kc4 kc5 kc6 kc7 kc8 kc9 kc10 kc11 kc12 kc13 kc14 kc15 kc16 kc17 kc18 kc19 kc20 kc21 kc22 kc23 kc24 kc25 kc26 kc27 kc28 kc29 kc30 kc31 kc32 kc33 kc34 kc35 kc36 kc37 kc38 kc39 kz kt kn3 kn4 kn18 kn21 kn23 kn24 kn25 kn26 kn27 kn29 kn30 kr0_0 kr0_1 kr0_2 kr0_3 kr0_4 kr0_5 kr0_7 kr0_8 kr0_9 kr0_10 kr1_0 kr2_0 kr5_0 kr5_1 kr6_0 kr6_1 kr7_0 kr7_1 kr8_0 kr9_0 kr10_0 kr11_0 kr12_0 kr13_0 kr14_0 kr15_0 kr16_0 kr17_0 kr19_0 kr19_1 kr22_0 kr22_1 kr22_2 kr22_3 kr22_4 kr22_5 kr22_7 kr22_8 kr25_0 kr25_1 kr25_2 kr26_0 kr26_1 kr26_2 kr29_0 kr29_1)
  (refine Cn_el vcn0 ?_; intros ki5_2 ki6_2 ki7_2 ki8_1 ki8_2 ki8_3 ki9_1 ki9_2 ki9_3 ki10_1 ki10_2 ki10_3 ki11_1 ki11_2 ki11_3 ki12_1 ki12_2 ki12_3 ki13_1 ki13_2 ki13_3 ki14_1 ki14_2 ki14_3 ki28_0 ki28_1 ki31_0 ki31_1 ki32_0 ki32_1 ki33_0 ki33_1 ki34_0 ki34_1 ki35_0 ki35_1 ki36_0 ki36_1)
  have hAe : ∀ i j, i < 40 → j < 40 → (A i = A j ↔ i = j) := hA
  have he := v1.1.symm
  have hc := (Sm_cT sm).2.1
  have b7 : (7 : Int32) = 7 := by decide
  rw [o244_44]
  simp only [o244_45, o244_46, o244_49, o244_50, o244_53, o244_54, o244_55, o244_56, o244_59, o244_60, o244_61, o244_64, o244_65, o244_66, o244_67, o244_70, o244_71, o244_72, o244_73, o244_74, c_X8_liesOf (x2 := A 25) (x3 := A 26) (a := A 27) (w := A 32) (r := A 35), c_X8_roomOf (x2 := A 25) (x3 := A 26) (a := A 27) (w := A 32) (r := A 35), mcs_0, mcs_l, Kn_v, true_and, not_true_eq_false, not_false_eq_true, false_implies, forall_const, if_true, Nat.reduceLeDiff, Nat.reduceAdd, lt_le, Int32.reduceLT, cl1, kc22, kc25, kc26, kc27, kc32, kc35, kn25, kn26, kn27, kr22_2, kr22_3, kr22_4, kr25_1, kr26_1, vq3, Int32.reduceLT, he, hc]
  refine ms_P1_0 (bc := bc + 22) (bs := bs + 2016) sm R (fun q0 f0 => ?_)
  obtain ⟨R0, s0⟩ := Rl_fr0 R f0
  have cs0 := Cs_fr0 R cs f0
  replace s0 := Sm_tr sm s0
  refine ms_P1_1 (bc := bc + 21) (bs := bs + 2009) s0 R0 (fun q1 f1 => ?_)
  obtain ⟨R1, s1⟩ := Rl_fr0 R0 f1
  have cs1 := Cs_fr0 R0 cs0 f1
  replace s1 := Sm_tr s0 s1
  refine ms_P1_2 (bc := bc + 20) (bs := bs + 2002) s1 R1 (fun q2 f2 => ?_)
  obtain ⟨R2, s2⟩ := Rl_fr0 R1 f2
  have cs2 := Cs_fr0 R1 cs1 f2
  replace s2 := Sm_tr s1 s2
  refine ms_P1_3 (bc := bc + 19) (bs := bs + 1995) s2 R2 (fun q3 f3 => ?_)
  obtain ⟨R3, s3⟩ := Rl_fr0 R2 f3
  have cs3 := Cs_fr0 R2 cs2 f3
  replace s3 := Sm_tr s2 s3
  refine ms_P1_4 (bc := bc + 18) (bs := bs + 1988) s3 R3 (fun q4 f4 => ?_)
  obtain ⟨R4, s4⟩ := Rl_fr0 R3 f4
  have cs4 := Cs_fr0 R3 cs3 f4
  replace s4 := Sm_tr s3 s4
  refine ms_P1_5 (bc := bc + 17) (bs := bs + 1981) s4 R4 (fun q5 f5 => ?_)
  obtain ⟨R5, s5⟩ := Rl_fr0 R4 f5
  have cs5 := Cs_fr0 R4 cs4 f5
  replace s5 := Sm_tr s4 s5
  refine ms_P1_6 (bc := bc + 16) (bs := bs + 1974) s5 R5 (fun q6 f6 => ?_)
  obtain ⟨R6, s6⟩ := Rl_fr0 R5 f6
  have cs6 := Cs_fr0 R5 cs5 f6
  replace s6 := Sm_tr s5 s6
  have c1 : (16 ≤ bc + 16) = True := eq_true (by omega)
  have c2 : (1974 ≤ bs + 1974) = True := eq_true (by omega)
  have c3 : bc + 16 - 16 = bc := by omega
  have c4 : bs + 1974 - 1974 = bs := by omega
  have R0 := R6
  obtain ⟨vk, vcn, v0, v1, v2, vp, vl0, vl1, vlr, vsr, vc, tx⟩ := R0
  have vk0 := vk
  have vcn0 := vcn
  (refine K_el vk0 ?_; intros hA kc0 kc1 kc2 kc3 kc4 kc5 kc6 kc7 kc8 kc9 kc10 kc11 kc12 kc13 kc14 kc15 kc16 kc17 kc18 kc19 kc20 kc21 kc22 kc23 kc24 kc25 kc26 kc27 kc28 kc29 kc30 kc31 kc32 kc33 kc34 kc35 kc36 kc37 kc38 kc39 kz kt kn3 kn4 kn18 kn21 kn23 kn24 kn25 kn26 kn27 kn29 kn30 kr0_0 kr0_1 kr0_2 kr0_3 kr0_4 kr0_5 kr0_7 kr0_8 kr0_9 kr0_10 kr1_0 kr2_0 kr5_0 kr5_1 kr6_0 kr6_1 kr7_0 kr7_1 kr8_0 kr9_0 kr10_0 kr11_0 kr12_0 kr13_0 kr14_0 kr15_0 kr16_0 kr17_0 kr19_0 kr19_1 kr22_0 kr22_1 kr22_2 kr22_3 kr22_4 kr22_5 kr22_7 kr22_8 kr25_0 kr25_1 kr25_2 kr26_0 kr26_1 kr26_2 kr29_0 kr29_1)
  (refine Cn_el vcn0 ?_; intros ki5_2 ki6_2 ki7_2 ki8_1 ki8_2 ki8_3 ki9_1 ki9_2 ki9_3 ki10_1 ki10_2 ki10_3 ki11_1 ki11_2 ki11_3 ki12_1 ki12_2 ki12_3 ki13_1 ki13_2 ki13_3 ki14_1 ki14_2 ki14_3 ki28_0 ki28_1 ki31_0 ki31_1 ki32_0 ki32_1 ki33_0 ki33_1 ki34_0 ki34_1 ki35_0 ki35_1 ki36_0 ki36_1)
  have hAe : ∀ i j, i < 40 → j < 40 → (A i = A j ↔ i = j) := hA
  rw [o244_76]
  simp only [o244_78, o244_80, o244_104, o244_105, o244_108, o244_109, o244_110, o244_111, mcs_0, mcs_l, true_and, and_true, not_true_eq_false, not_false_eq_true, false_implies, forall_const, Nat.reduceLeDiff, Nat.reduceAdd, lt_le, Int32.reduceLT, kc22, Int32.reduceLT, c1, c2, c3, c4]
  refine m_textOf1 R6 cs6 (fun q t sb hsb f st => ?_)
  have Rq := Rl_Fn R6 f hsb hsb
  have sq := Sm_tr s6 (Sm_Fn R6 f hsb)
  have cq := Cs_Fx cs6 f (Nat.le_trans (Rl_z R6) hsb) (Nat.le_trans (Rl_z R6) hsb)
  obtain ⟨t1, t2, t3, v, t4, t5, t6, t7⟩ := st
  rw [(Sm_qv s6).2.1, (Sm_cT s6).2.1] at t7
  simp only [o244_114, o244_117, o244_118, o244_119, o244_120, o244_123, J_slen (v := v), mcs_0, mcs_l, Kn_v, true_and, Nat.reduceLeDiff, Nat.reduceAdd, Int32.reduceAdd, t1, t3, t4, t5, t7]
  exact hQ q sq Rq cq

theorem ms_P2_0 {A : Nat → Nat} {d : Int64} {h0 m : MH} {Q : MR → MH → Prop} {bc bs : Nat} {a5 a6 a7 : Value} (sm : Sm A h0 m) (R : Rl A m) (hQ : ∀ q, Fr (p_i m (A 22) 9 0) q → Ok 244 76 [.ref (A 22), .long (dg1 d (g_i h0 (A 12) 4)), mk0, .int 2, .int 1, a5, a6, a7] [] q bc bs Q) : Ok 244 76 [.ref (A 22), .long (d), mk0, .int 2, .int 0, a5, a6, a7] [] m (bc + 1) (bs + 7) Q := by
  have R0 := R
  obtain ⟨vk, vcn, v0, v1, v2, vp, vl0, vl1, vlr, vsr, vc, tx⟩ := R0
  have vk0 := vk
  have vcn0 := vcn
  (refine K_el vk0 ?_; intros hA kc0 kc1 kc2 kc3 kc4 kc5 kc6 kc7 kc8 kc9 kc10 kc11 kc12 kc13 kc14 kc15 kc16 kc17 kc18 kc19 kc20 kc21 kc22 kc23 kc24 kc25 kc26 kc27 kc28 kc29 kc30 kc31 kc32 kc33 kc34 kc35 kc36 kc37 kc38 kc39 kz kt kn3 kn4 kn18 kn21 kn23 kn24 kn25 kn26 kn27 kn29 kn30 kr0_0 kr0_1 kr0_2 kr0_3 kr0_4 kr0_5 kr0_7 kr0_8 kr0_9 kr0_10 kr1_0 kr2_0 kr5_0 kr5_1 kr6_0 kr6_1 kr7_0 kr7_1 kr8_0 kr9_0 kr10_0 kr11_0 kr12_0 kr13_0 kr14_0 kr15_0 kr16_0 kr17_0 kr19_0 kr19_1 kr22_0 kr22_1 kr22_2 kr22_3 kr22_4 kr22_5 kr22_7 kr22_8 kr25_0 kr25_1 kr25_2 kr26_0 kr26_1 kr26_2 kr29_0 kr29_1)
  (refine Cn_el vcn0 ?_; intros ki5_2 ki6_2 ki7_2 ki8_1 ki8_2 ki8_3 ki9_1 ki9_2 ki9_3 ki10_1 ki10_2 ki10_3 ki11_1 ki11_2 ki11_3 ki12_1 ki12_2 ki12_3 ki13_1 ki13_2 ki13_3 ki14_1 ki14_2 ki14_3 ki28_0 ki28_1 ki31_0 ki31_1 ki32_0 ki32_1 ki33_0 ki33_1 ki34_0 ki34_1 ki35_0 ki35_1 ki36_0 ki36_1)
  have hAe : ∀ i j, i < 40 → j < 40 → (A i = A j ↔ i = j) := hA
  have b7 : (7 : Int32) = 7 := by decide
  have c1 : (1 ≤ bc + 1) = True := eq_true (by omega)
  have c2 : (7 ≤ bs + 7) = True := eq_true (by omega)
  have c3 : bc + 1 - 1 = bc := by omega
  have c4 : bs + 7 - 7 = bs := by omega
  (refine Sm_el sm ?_; intros i0 l0 i1 l1 i2 l2 i3 l3 i4 l4 i5 l5 i6 l6 i7 l7 i8 l8 i9 l9 i10 l10 i11 l11 i12 l12 i13 l13 i14 l14 i15 l15 i16 l16 i17 l17 i18 l18 i19 l19 i23 l23 i24 l24 i25 l25 i26 l26 i27 l27 i28 l28 i29 l29 i30 l30 i31 l31 i32 l32 i33 l33 i34 l34 i35 l35 i36 l36 i37 l37 i38 l38 i39 l39 i22)
  rw [o244_76]
  simp only [o244_78, o244_80, o244_83, o244_84, o244_87, o244_88, o244_89, o244_90, o244_92, mcs_0, mcs_l, true_and, not_true_eq_false, not_false_eq_true, false_implies, forall_const, Nat.reduceLeDiff, Nat.reduceAdd, lt_le, Int32.reduceLT, kc22, Int32.reduceLT, c1, c2, c3, c4]
  refine m_plX2_0 R (fun q f => ?_)
  simp only [o244_95, o244_96, o244_97, o244_98, o244_101, Kn_v, Int32.reduceAdd, i12]
  exact hQ q f

theorem ms_P2_1 {A : Nat → Nat} {d : Int64} {h0 m : MH} {Q : MR → MH → Prop} {bc bs : Nat} {a5 a6 a7 : Value} (sm : Sm A h0 m) (R : Rl A m) (hQ : ∀ q, Fr (p_i m (A 22) 9 0) q → Ok 244 76 [.ref (A 22), .long (dg1 d (g_i h0 (A 12) 5)), mk0, .int 2, .int 2, a5, a6, a7] [] q bc bs Q) : Ok 244 76 [.ref (A 22), .long (d), mk0, .int 2, .int 1, a5, a6, a7] [] m (bc + 1) (bs + 7) Q := by
  have R0 := R
  obtain ⟨vk, vcn, v0, v1, v2, vp, vl0, vl1, vlr, vsr, vc, tx⟩ := R0
  have vk0 := vk
  have vcn0 := vcn
  (refine K_el vk0 ?_; intros hA kc0 kc1 kc2 kc3 kc4 kc5 kc6 kc7 kc8 kc9 kc10 kc11 kc12 kc13 kc14 kc15 kc16 kc17 kc18 kc19 kc20 kc21 kc22 kc23 kc24 kc25 kc26 kc27 kc28 kc29 kc30 kc31 kc32 kc33 kc34 kc35 kc36 kc37 kc38 kc39 kz kt kn3 kn4 kn18 kn21 kn23 kn24 kn25 kn26 kn27 kn29 kn30 kr0_0 kr0_1 kr0_2 kr0_3 kr0_4 kr0_5 kr0_7 kr0_8 kr0_9 kr0_10 kr1_0 kr2_0 kr5_0 kr5_1 kr6_0 kr6_1 kr7_0 kr7_1 kr8_0 kr9_0 kr10_0 kr11_0 kr12_0 kr13_0 kr14_0 kr15_0 kr16_0 kr17_0 kr19_0 kr19_1 kr22_0 kr22_1 kr22_2 kr22_3 kr22_4 kr22_5 kr22_7 kr22_8 kr25_0 kr25_1 kr25_2 kr26_0 kr26_1 kr26_2 kr29_0 kr29_1)
  (refine Cn_el vcn0 ?_; intros ki5_2 ki6_2 ki7_2 ki8_1 ki8_2 ki8_3 ki9_1 ki9_2 ki9_3 ki10_1 ki10_2 ki10_3 ki11_1 ki11_2 ki11_3 ki12_1 ki12_2 ki12_3 ki13_1 ki13_2 ki13_3 ki14_1 ki14_2 ki14_3 ki28_0 ki28_1 ki31_0 ki31_1 ki32_0 ki32_1 ki33_0 ki33_1 ki34_0 ki34_1 ki35_0 ki35_1 ki36_0 ki36_1)
  have hAe : ∀ i j, i < 40 → j < 40 → (A i = A j ↔ i = j) := hA
  have b7 : (7 : Int32) = 7 := by decide
  have c1 : (1 ≤ bc + 1) = True := eq_true (by omega)
  have c2 : (7 ≤ bs + 7) = True := eq_true (by omega)
  have c3 : bc + 1 - 1 = bc := by omega
  have c4 : bs + 7 - 7 = bs := by omega
  (refine Sm_el sm ?_; intros i0 l0 i1 l1 i2 l2 i3 l3 i4 l4 i5 l5 i6 l6 i7 l7 i8 l8 i9 l9 i10 l10 i11 l11 i12 l12 i13 l13 i14 l14 i15 l15 i16 l16 i17 l17 i18 l18 i19 l19 i23 l23 i24 l24 i25 l25 i26 l26 i27 l27 i28 l28 i29 l29 i30 l30 i31 l31 i32 l32 i33 l33 i34 l34 i35 l35 i36 l36 i37 l37 i38 l38 i39 l39 i22)
  rw [o244_76]
  simp only [o244_78, o244_80, o244_83, o244_84, o244_87, o244_88, o244_89, o244_90, o244_92, mcs_0, mcs_l, true_and, not_true_eq_false, not_false_eq_true, false_implies, forall_const, Nat.reduceLeDiff, Nat.reduceAdd, lt_le, Int32.reduceLT, kc22, Int32.reduceLT, c1, c2, c3, c4]
  refine m_plX2_1 R (fun q f => ?_)
  simp only [o244_95, o244_96, o244_97, o244_98, o244_101, Kn_v, Int32.reduceAdd, i12]
  exact hQ q f

theorem ms_P2_2 {A : Nat → Nat} {d : Int64} {h0 m : MH} {Q : MR → MH → Prop} {bc bs : Nat} {a5 a6 a7 : Value} (sm : Sm A h0 m) (R : Rl A m) (hQ : ∀ q, Fr (p_i m (A 22) 9 0) q → Ok 244 76 [.ref (A 22), .long (dg1 d (g_i h0 (A 13) 4)), mk0, .int 2, .int 3, a5, a6, a7] [] q bc bs Q) : Ok 244 76 [.ref (A 22), .long (d), mk0, .int 2, .int 2, a5, a6, a7] [] m (bc + 1) (bs + 7) Q := by
  have R0 := R
  obtain ⟨vk, vcn, v0, v1, v2, vp, vl0, vl1, vlr, vsr, vc, tx⟩ := R0
  have vk0 := vk
  have vcn0 := vcn
  (refine K_el vk0 ?_; intros hA kc0 kc1 kc2 kc3 kc4 kc5 kc6 kc7 kc8 kc9 kc10 kc11 kc12 kc13 kc14 kc15 kc16 kc17 kc18 kc19 kc20 kc21 kc22 kc23 kc24 kc25 kc26 kc27 kc28 kc29 kc30 kc31 kc32 kc33 kc34 kc35 kc36 kc37 kc38 kc39 kz kt kn3 kn4 kn18 kn21 kn23 kn24 kn25 kn26 kn27 kn29 kn30 kr0_0 kr0_1 kr0_2 kr0_3 kr0_4 kr0_5 kr0_7 kr0_8 kr0_9 kr0_10 kr1_0 kr2_0 kr5_0 kr5_1 kr6_0 kr6_1 kr7_0 kr7_1 kr8_0 kr9_0 kr10_0 kr11_0 kr12_0 kr13_0 kr14_0 kr15_0 kr16_0 kr17_0 kr19_0 kr19_1 kr22_0 kr22_1 kr22_2 kr22_3 kr22_4 kr22_5 kr22_7 kr22_8 kr25_0 kr25_1 kr25_2 kr26_0 kr26_1 kr26_2 kr29_0 kr29_1)
  (refine Cn_el vcn0 ?_; intros ki5_2 ki6_2 ki7_2 ki8_1 ki8_2 ki8_3 ki9_1 ki9_2 ki9_3 ki10_1 ki10_2 ki10_3 ki11_1 ki11_2 ki11_3 ki12_1 ki12_2 ki12_3 ki13_1 ki13_2 ki13_3 ki14_1 ki14_2 ki14_3 ki28_0 ki28_1 ki31_0 ki31_1 ki32_0 ki32_1 ki33_0 ki33_1 ki34_0 ki34_1 ki35_0 ki35_1 ki36_0 ki36_1)
  have hAe : ∀ i j, i < 40 → j < 40 → (A i = A j ↔ i = j) := hA
  have b7 : (7 : Int32) = 7 := by decide
  have c1 : (1 ≤ bc + 1) = True := eq_true (by omega)
  have c2 : (7 ≤ bs + 7) = True := eq_true (by omega)
  have c3 : bc + 1 - 1 = bc := by omega
  have c4 : bs + 7 - 7 = bs := by omega
  (refine Sm_el sm ?_; intros i0 l0 i1 l1 i2 l2 i3 l3 i4 l4 i5 l5 i6 l6 i7 l7 i8 l8 i9 l9 i10 l10 i11 l11 i12 l12 i13 l13 i14 l14 i15 l15 i16 l16 i17 l17 i18 l18 i19 l19 i23 l23 i24 l24 i25 l25 i26 l26 i27 l27 i28 l28 i29 l29 i30 l30 i31 l31 i32 l32 i33 l33 i34 l34 i35 l35 i36 l36 i37 l37 i38 l38 i39 l39 i22)
  rw [o244_76]
  simp only [o244_78, o244_80, o244_83, o244_84, o244_87, o244_88, o244_89, o244_90, o244_92, mcs_0, mcs_l, true_and, not_true_eq_false, not_false_eq_true, false_implies, forall_const, Nat.reduceLeDiff, Nat.reduceAdd, lt_le, Int32.reduceLT, kc22, Int32.reduceLT, c1, c2, c3, c4]
  refine m_plX2_2 R (fun q f => ?_)
  simp only [o244_95, o244_96, o244_97, o244_98, o244_101, Kn_v, Int32.reduceAdd, i13]
  exact hQ q f

theorem ms_P2_3 {A : Nat → Nat} {d : Int64} {h0 m : MH} {Q : MR → MH → Prop} {bc bs : Nat} {a5 a6 a7 : Value} (sm : Sm A h0 m) (R : Rl A m) (hQ : ∀ q, Fr (p_i m (A 22) 9 0) q → Ok 244 76 [.ref (A 22), .long (dg1 d (g_i h0 (A 13) 5)), mk0, .int 2, .int 4, a5, a6, a7] [] q bc bs Q) : Ok 244 76 [.ref (A 22), .long (d), mk0, .int 2, .int 3, a5, a6, a7] [] m (bc + 1) (bs + 7) Q := by
  have R0 := R
  obtain ⟨vk, vcn, v0, v1, v2, vp, vl0, vl1, vlr, vsr, vc, tx⟩ := R0
  have vk0 := vk
  have vcn0 := vcn
  (refine K_el vk0 ?_; intros hA kc0 kc1 kc2 kc3 kc4 kc5 kc6 kc7 kc8 kc9 kc10 kc11 kc12 kc13 kc14 kc15 kc16 kc17 kc18 kc19 kc20 kc21 kc22 kc23 kc24 kc25 kc26 kc27 kc28 kc29 kc30 kc31 kc32 kc33 kc34 kc35 kc36 kc37 kc38 kc39 kz kt kn3 kn4 kn18 kn21 kn23 kn24 kn25 kn26 kn27 kn29 kn30 kr0_0 kr0_1 kr0_2 kr0_3 kr0_4 kr0_5 kr0_7 kr0_8 kr0_9 kr0_10 kr1_0 kr2_0 kr5_0 kr5_1 kr6_0 kr6_1 kr7_0 kr7_1 kr8_0 kr9_0 kr10_0 kr11_0 kr12_0 kr13_0 kr14_0 kr15_0 kr16_0 kr17_0 kr19_0 kr19_1 kr22_0 kr22_1 kr22_2 kr22_3 kr22_4 kr22_5 kr22_7 kr22_8 kr25_0 kr25_1 kr25_2 kr26_0 kr26_1 kr26_2 kr29_0 kr29_1)
  (refine Cn_el vcn0 ?_; intros ki5_2 ki6_2 ki7_2 ki8_1 ki8_2 ki8_3 ki9_1 ki9_2 ki9_3 ki10_1 ki10_2 ki10_3 ki11_1 ki11_2 ki11_3 ki12_1 ki12_2 ki12_3 ki13_1 ki13_2 ki13_3 ki14_1 ki14_2 ki14_3 ki28_0 ki28_1 ki31_0 ki31_1 ki32_0 ki32_1 ki33_0 ki33_1 ki34_0 ki34_1 ki35_0 ki35_1 ki36_0 ki36_1)
  have hAe : ∀ i j, i < 40 → j < 40 → (A i = A j ↔ i = j) := hA
  have b7 : (7 : Int32) = 7 := by decide
  have c1 : (1 ≤ bc + 1) = True := eq_true (by omega)
  have c2 : (7 ≤ bs + 7) = True := eq_true (by omega)
  have c3 : bc + 1 - 1 = bc := by omega
  have c4 : bs + 7 - 7 = bs := by omega
  (refine Sm_el sm ?_; intros i0 l0 i1 l1 i2 l2 i3 l3 i4 l4 i5 l5 i6 l6 i7 l7 i8 l8 i9 l9 i10 l10 i11 l11 i12 l12 i13 l13 i14 l14 i15 l15 i16 l16 i17 l17 i18 l18 i19 l19 i23 l23 i24 l24 i25 l25 i26 l26 i27 l27 i28 l28 i29 l29 i30 l30 i31 l31 i32 l32 i33 l33 i34 l34 i35 l35 i36 l36 i37 l37 i38 l38 i39 l39 i22)
  rw [o244_76]
  simp only [o244_78, o244_80, o244_83, o244_84, o244_87, o244_88, o244_89, o244_90, o244_92, mcs_0, mcs_l, true_and, not_true_eq_false, not_false_eq_true, false_implies, forall_const, Nat.reduceLeDiff, Nat.reduceAdd, lt_le, Int32.reduceLT, kc22, Int32.reduceLT, c1, c2, c3, c4]
  refine m_plX2_3 R (fun q f => ?_)
  simp only [o244_95, o244_96, o244_97, o244_98, o244_101, Kn_v, Int32.reduceAdd, i13]
  exact hQ q f

theorem ms_P2_4 {A : Nat → Nat} {d : Int64} {h0 m : MH} {Q : MR → MH → Prop} {bc bs : Nat} {a5 a6 a7 : Value} (sm : Sm A h0 m) (R : Rl A m) (hQ : ∀ q, Fr (p_i m (A 22) 9 0) q → Ok 244 76 [.ref (A 22), .long (dg1 d (g_i h0 (A 13) 6)), mk0, .int 2, .int 5, a5, a6, a7] [] q bc bs Q) : Ok 244 76 [.ref (A 22), .long (d), mk0, .int 2, .int 4, a5, a6, a7] [] m (bc + 1) (bs + 7) Q := by
  have R0 := R
  obtain ⟨vk, vcn, v0, v1, v2, vp, vl0, vl1, vlr, vsr, vc, tx⟩ := R0
  have vk0 := vk
  have vcn0 := vcn
  (refine K_el vk0 ?_; intros hA kc0 kc1 kc2 kc3 kc4 kc5 kc6 kc7 kc8 kc9 kc10 kc11 kc12 kc13 kc14 kc15 kc16 kc17 kc18 kc19 kc20 kc21 kc22 kc23 kc24 kc25 kc26 kc27 kc28 kc29 kc30 kc31 kc32 kc33 kc34 kc35 kc36 kc37 kc38 kc39 kz kt kn3 kn4 kn18 kn21 kn23 kn24 kn25 kn26 kn27 kn29 kn30 kr0_0 kr0_1 kr0_2 kr0_3 kr0_4 kr0_5 kr0_7 kr0_8 kr0_9 kr0_10 kr1_0 kr2_0 kr5_0 kr5_1 kr6_0 kr6_1 kr7_0 kr7_1 kr8_0 kr9_0 kr10_0 kr11_0 kr12_0 kr13_0 kr14_0 kr15_0 kr16_0 kr17_0 kr19_0 kr19_1 kr22_0 kr22_1 kr22_2 kr22_3 kr22_4 kr22_5 kr22_7 kr22_8 kr25_0 kr25_1 kr25_2 kr26_0 kr26_1 kr26_2 kr29_0 kr29_1)
  (refine Cn_el vcn0 ?_; intros ki5_2 ki6_2 ki7_2 ki8_1 ki8_2 ki8_3 ki9_1 ki9_2 ki9_3 ki10_1 ki10_2 ki10_3 ki11_1 ki11_2 ki11_3 ki12_1 ki12_2 ki12_3 ki13_1 ki13_2 ki13_3 ki14_1 ki14_2 ki14_3 ki28_0 ki28_1 ki31_0 ki31_1 ki32_0 ki32_1 ki33_0 ki33_1 ki34_0 ki34_1 ki35_0 ki35_1 ki36_0 ki36_1)
  have hAe : ∀ i j, i < 40 → j < 40 → (A i = A j ↔ i = j) := hA
  have b7 : (7 : Int32) = 7 := by decide
  have c1 : (1 ≤ bc + 1) = True := eq_true (by omega)
  have c2 : (7 ≤ bs + 7) = True := eq_true (by omega)
  have c3 : bc + 1 - 1 = bc := by omega
  have c4 : bs + 7 - 7 = bs := by omega
  (refine Sm_el sm ?_; intros i0 l0 i1 l1 i2 l2 i3 l3 i4 l4 i5 l5 i6 l6 i7 l7 i8 l8 i9 l9 i10 l10 i11 l11 i12 l12 i13 l13 i14 l14 i15 l15 i16 l16 i17 l17 i18 l18 i19 l19 i23 l23 i24 l24 i25 l25 i26 l26 i27 l27 i28 l28 i29 l29 i30 l30 i31 l31 i32 l32 i33 l33 i34 l34 i35 l35 i36 l36 i37 l37 i38 l38 i39 l39 i22)
  rw [o244_76]
  simp only [o244_78, o244_80, o244_83, o244_84, o244_87, o244_88, o244_89, o244_90, o244_92, mcs_0, mcs_l, true_and, not_true_eq_false, not_false_eq_true, false_implies, forall_const, Nat.reduceLeDiff, Nat.reduceAdd, lt_le, Int32.reduceLT, kc22, Int32.reduceLT, c1, c2, c3, c4]
  refine m_plX2_4 R (fun q f => ?_)
  simp only [o244_95, o244_96, o244_97, o244_98, o244_101, Kn_v, Int32.reduceAdd, i13]
  exact hQ q f

theorem ms_P2_5 {A : Nat → Nat} {d : Int64} {h0 m : MH} {Q : MR → MH → Prop} {bc bs : Nat} {a5 a6 a7 : Value} (sm : Sm A h0 m) (R : Rl A m) (hQ : ∀ q, Fr (p_i m (A 22) 9 0) q → Ok 244 76 [.ref (A 22), .long (dg1 d (6)), mk0, .int 2, .int 6, a5, a6, a7] [] q bc bs Q) : Ok 244 76 [.ref (A 22), .long (d), mk0, .int 2, .int 5, a5, a6, a7] [] m (bc + 1) (bs + 7) Q := by
  have R0 := R
  obtain ⟨vk, vcn, v0, v1, v2, vp, vl0, vl1, vlr, vsr, vc, tx⟩ := R0
  have vk0 := vk
  have vcn0 := vcn
  (refine K_el vk0 ?_; intros hA kc0 kc1 kc2 kc3 kc4 kc5 kc6 kc7 kc8 kc9 kc10 kc11 kc12 kc13 kc14 kc15 kc16 kc17 kc18 kc19 kc20 kc21 kc22 kc23 kc24 kc25 kc26 kc27 kc28 kc29 kc30 kc31 kc32 kc33 kc34 kc35 kc36 kc37 kc38 kc39 kz kt kn3 kn4 kn18 kn21 kn23 kn24 kn25 kn26 kn27 kn29 kn30 kr0_0 kr0_1 kr0_2 kr0_3 kr0_4 kr0_5 kr0_7 kr0_8 kr0_9 kr0_10 kr1_0 kr2_0 kr5_0 kr5_1 kr6_0 kr6_1 kr7_0 kr7_1 kr8_0 kr9_0 kr10_0 kr11_0 kr12_0 kr13_0 kr14_0 kr15_0 kr16_0 kr17_0 kr19_0 kr19_1 kr22_0 kr22_1 kr22_2 kr22_3 kr22_4 kr22_5 kr22_7 kr22_8 kr25_0 kr25_1 kr25_2 kr26_0 kr26_1 kr26_2 kr29_0 kr29_1)
  (refine Cn_el vcn0 ?_; intros ki5_2 ki6_2 ki7_2 ki8_1 ki8_2 ki8_3 ki9_1 ki9_2 ki9_3 ki10_1 ki10_2 ki10_3 ki11_1 ki11_2 ki11_3 ki12_1 ki12_2 ki12_3 ki13_1 ki13_2 ki13_3 ki14_1 ki14_2 ki14_3 ki28_0 ki28_1 ki31_0 ki31_1 ki32_0 ki32_1 ki33_0 ki33_1 ki34_0 ki34_1 ki35_0 ki35_1 ki36_0 ki36_1)
  have hAe : ∀ i j, i < 40 → j < 40 → (A i = A j ↔ i = j) := hA
  have b7 : (7 : Int32) = 7 := by decide
  have c1 : (1 ≤ bc + 1) = True := eq_true (by omega)
  have c2 : (7 ≤ bs + 7) = True := eq_true (by omega)
  have c3 : bc + 1 - 1 = bc := by omega
  have c4 : bs + 7 - 7 = bs := by omega
  (refine Sm_el sm ?_; intros i0 l0 i1 l1 i2 l2 i3 l3 i4 l4 i5 l5 i6 l6 i7 l7 i8 l8 i9 l9 i10 l10 i11 l11 i12 l12 i13 l13 i14 l14 i15 l15 i16 l16 i17 l17 i18 l18 i19 l19 i23 l23 i24 l24 i25 l25 i26 l26 i27 l27 i28 l28 i29 l29 i30 l30 i31 l31 i32 l32 i33 l33 i34 l34 i35 l35 i36 l36 i37 l37 i38 l38 i39 l39 i22)
  rw [o244_76]
  simp only [o244_78, o244_80, o244_83, o244_84, o244_87, o244_88, o244_89, o244_90, o244_92, mcs_0, mcs_l, true_and, not_true_eq_false, not_false_eq_true, false_implies, forall_const, Nat.reduceLeDiff, Nat.reduceAdd, lt_le, Int32.reduceLT, kc22, Int32.reduceLT, c1, c2, c3, c4]
  refine m_plX2_5 R (fun q f => ?_)
  simp only [o244_95, o244_96, o244_97, o244_98, o244_101, Kn_v, Int32.reduceAdd]
  exact hQ q f

theorem ms_P2_6 {A : Nat → Nat} {d : Int64} {h0 m : MH} {Q : MR → MH → Prop} {bc bs : Nat} {a5 a6 a7 : Value} (sm : Sm A h0 m) (R : Rl A m) (hQ : ∀ q, Fr (p_i m (A 22) 9 0) q → Ok 244 76 [.ref (A 22), .long (dg1 d (9)), mk0, .int 2, .int 7, a5, a6, a7] [] q bc bs Q) : Ok 244 76 [.ref (A 22), .long (d), mk0, .int 2, .int 6, a5, a6, a7] [] m (bc + 1) (bs + 7) Q := by
  have R0 := R
  obtain ⟨vk, vcn, v0, v1, v2, vp, vl0, vl1, vlr, vsr, vc, tx⟩ := R0
  have vk0 := vk
  have vcn0 := vcn
  (refine K_el vk0 ?_; intros hA kc0 kc1 kc2 kc3 kc4 kc5 kc6 kc7 kc8 kc9 kc10 kc11 kc12 kc13 kc14 kc15 kc16 kc17 kc18 kc19 kc20 kc21 kc22 kc23 kc24 kc25 kc26 kc27 kc28 kc29 kc30 kc31 kc32 kc33 kc34 kc35 kc36 kc37 kc38 kc39 kz kt kn3 kn4 kn18 kn21 kn23 kn24 kn25 kn26 kn27 kn29 kn30 kr0_0 kr0_1 kr0_2 kr0_3 kr0_4 kr0_5 kr0_7 kr0_8 kr0_9 kr0_10 kr1_0 kr2_0 kr5_0 kr5_1 kr6_0 kr6_1 kr7_0 kr7_1 kr8_0 kr9_0 kr10_0 kr11_0 kr12_0 kr13_0 kr14_0 kr15_0 kr16_0 kr17_0 kr19_0 kr19_1 kr22_0 kr22_1 kr22_2 kr22_3 kr22_4 kr22_5 kr22_7 kr22_8 kr25_0 kr25_1 kr25_2 kr26_0 kr26_1 kr26_2 kr29_0 kr29_1)
  (refine Cn_el vcn0 ?_; intros ki5_2 ki6_2 ki7_2 ki8_1 ki8_2 ki8_3 ki9_1 ki9_2 ki9_3 ki10_1 ki10_2 ki10_3 ki11_1 ki11_2 ki11_3 ki12_1 ki12_2 ki12_3 ki13_1 ki13_2 ki13_3 ki14_1 ki14_2 ki14_3 ki28_0 ki28_1 ki31_0 ki31_1 ki32_0 ki32_1 ki33_0 ki33_1 ki34_0 ki34_1 ki35_0 ki35_1 ki36_0 ki36_1)
  have hAe : ∀ i j, i < 40 → j < 40 → (A i = A j ↔ i = j) := hA
  have b7 : (7 : Int32) = 7 := by decide
  have c1 : (1 ≤ bc + 1) = True := eq_true (by omega)
  have c2 : (7 ≤ bs + 7) = True := eq_true (by omega)
  have c3 : bc + 1 - 1 = bc := by omega
  have c4 : bs + 7 - 7 = bs := by omega
  (refine Sm_el sm ?_; intros i0 l0 i1 l1 i2 l2 i3 l3 i4 l4 i5 l5 i6 l6 i7 l7 i8 l8 i9 l9 i10 l10 i11 l11 i12 l12 i13 l13 i14 l14 i15 l15 i16 l16 i17 l17 i18 l18 i19 l19 i23 l23 i24 l24 i25 l25 i26 l26 i27 l27 i28 l28 i29 l29 i30 l30 i31 l31 i32 l32 i33 l33 i34 l34 i35 l35 i36 l36 i37 l37 i38 l38 i39 l39 i22)
  rw [o244_76]
  simp only [o244_78, o244_80, o244_83, o244_84, o244_87, o244_88, o244_89, o244_90, o244_92, mcs_0, mcs_l, true_and, not_true_eq_false, not_false_eq_true, false_implies, forall_const, Nat.reduceLeDiff, Nat.reduceAdd, lt_le, Int32.reduceLT, kc22, Int32.reduceLT, c1, c2, c3, c4]
  refine m_plX2_6 R (fun q f => ?_)
  simp only [o244_95, o244_96, o244_97, o244_98, o244_101, Kn_v, Int32.reduceAdd]
  exact hQ q f

theorem ms_Q2 {A : Nat → Nat} {d : Int64} {h0 m : MH} {Q : MR → MH → Prop} {bc bs : Nat} {a4 a5 a6 a7 : Value} (sm : Sm A h0 m) (R : Rl A m) (cs : Cs m) (hQ : ∀ q, Sm A h0 q → Rl A q → Cs q → Ok 244 44 [.ref (A 22), .long (dQ2 A h0 d), mk0, .int 3, .int 7, a5, a6, a7] [] q bc bs Q) : Ok 244 44 [.ref (A 22), .long (d), mk0, .int 2, a4, a5, a6, a7] [] m (bc + 23) (bs + 2023) Q := by
  have R0 := R
  obtain ⟨vk, vcn, v0, v1, v2, vp, vl0, vl1, vlr, vsr, vc, tx⟩ := R0
  have vk0 := vk
  have vcn0 := vcn
  (refine K_el vk0 ?_; intros hA kc0 kc1 kc2 kc3 kc4 kc5 kc6 kc7 kc8 kc9 kc10 kc11 kc12 kc13 kc14 kc15 kc16 kc17 kc18 kc19 kc20 kc21 kc22 kc23 kc24 kc25 kc26 kc27 kc28 kc29 kc30 kc31 kc32 kc33 kc34 kc35 kc36 kc37 kc38 kc39 kz kt kn3 kn4 kn18 kn21 kn23 kn24 kn25 kn26 kn27 kn29 kn30 kr0_0 kr0_1 kr0_2 kr0_3 kr0_4 kr0_5 kr0_7 kr0_8 kr0_9 kr0_10 kr1_0 kr2_0 kr5_0 kr5_1 kr6_0 kr6_1 kr7_0 kr7_1 kr8_0 kr9_0 kr10_0 kr11_0 kr12_0 kr13_0 kr14_0 kr15_0 kr16_0 kr17_0 kr19_0 kr19_1 kr22_0 kr22_1 kr22_2 kr22_3 kr22_4 kr22_5 kr22_7 kr22_8 kr25_0 kr25_1 kr25_2 kr26_0 kr26_1 kr26_2 kr29_0 kr29_1)
  (refine Cn_el vcn0 ?_; intros ki5_2 ki6_2 ki7_2 ki8_1 ki8_2 ki8_3 ki9_1 ki9_2 ki9_3 ki10_1 ki10_2 ki10_3 ki11_1 ki11_2 ki11_3 ki12_1 ki12_2 ki12_3 ki13_1 ki13_2 ki13_3 ki14_1 ki14_2 ki14_3 ki28_0 ki28_1 ki31_0 ki31_1 ki32_0 ki32_1 ki33_0 ki33_1 ki34_0 ki34_1 ki35_0 ki35_1 ki36_0 ki36_1)
  have hAe : ∀ i j, i < 40 → j < 40 → (A i = A j ↔ i = j) := hA
  have he := v2.1.symm
  have hc := (Sm_cT sm).2.2
  have b7 : (7 : Int32) = 7 := by decide
  rw [o244_44]
  simp only [o244_45, o244_46, o244_49, o244_50, o244_53, o244_54, o244_55, o244_56, o244_59, o244_60, o244_61, o244_64, o244_65, o244_66, o244_67, o244_70, o244_71, o244_72, o244_73, o244_74, c_X8_liesOf (x2 := A 25) (x3 := A 26) (a := A 27) (w := A 33) (r := A 36), c_X8_roomOf (x2 := A 25) (x3 := A 26) (a := A 27) (w := A 33) (r := A 36), mcs_0, mcs_l, Kn_v, true_and, not_true_eq_false, not_false_eq_true, false_implies, forall_const, if_false, Nat.reduceLeDiff, Nat.reduceAdd, lt_le, Int32.reduceLT, cl2, kc22, kc25, kc26, kc27, kc33, kc36, kn25, kn26, kn27, kr22_2, kr22_3, kr22_4, kr25_2, kr26_2, vq3, Int32.reduceLT, he, hc]
  refine ms_P2_0 (bc := bc + 22) (bs := bs + 2016) sm R (fun q0 f0 => ?_)
  obtain ⟨R0, s0⟩ := Rl_fr0 R f0
  have cs0 := Cs_fr0 R cs f0
  replace s0 := Sm_tr sm s0
  refine ms_P2_1 (bc := bc + 21) (bs := bs + 2009) s0 R0 (fun q1 f1 => ?_)
  obtain ⟨R1, s1⟩ := Rl_fr0 R0 f1
  have cs1 := Cs_fr0 R0 cs0 f1
  replace s1 := Sm_tr s0 s1
  refine ms_P2_2 (bc := bc + 20) (bs := bs + 2002) s1 R1 (fun q2 f2 => ?_)
  obtain ⟨R2, s2⟩ := Rl_fr0 R1 f2
  have cs2 := Cs_fr0 R1 cs1 f2
  replace s2 := Sm_tr s1 s2
  refine ms_P2_3 (bc := bc + 19) (bs := bs + 1995) s2 R2 (fun q3 f3 => ?_)
  obtain ⟨R3, s3⟩ := Rl_fr0 R2 f3
  have cs3 := Cs_fr0 R2 cs2 f3
  replace s3 := Sm_tr s2 s3
  refine ms_P2_4 (bc := bc + 18) (bs := bs + 1988) s3 R3 (fun q4 f4 => ?_)
  obtain ⟨R4, s4⟩ := Rl_fr0 R3 f4
  have cs4 := Cs_fr0 R3 cs3 f4
  replace s4 := Sm_tr s3 s4
  refine ms_P2_5 (bc := bc + 17) (bs := bs + 1981) s4 R4 (fun q5 f5 => ?_)
  obtain ⟨R5, s5⟩ := Rl_fr0 R4 f5
  have cs5 := Cs_fr0 R4 cs4 f5
  replace s5 := Sm_tr s4 s5
  refine ms_P2_6 (bc := bc + 16) (bs := bs + 1974) s5 R5 (fun q6 f6 => ?_)
  obtain ⟨R6, s6⟩ := Rl_fr0 R5 f6
  have cs6 := Cs_fr0 R5 cs5 f6
  replace s6 := Sm_tr s5 s6
  have c1 : (16 ≤ bc + 16) = True := eq_true (by omega)
  have c2 : (1974 ≤ bs + 1974) = True := eq_true (by omega)
  have c3 : bc + 16 - 16 = bc := by omega
  have c4 : bs + 1974 - 1974 = bs := by omega
  have R0 := R6
  obtain ⟨vk, vcn, v0, v1, v2, vp, vl0, vl1, vlr, vsr, vc, tx⟩ := R0
  have vk0 := vk
  have vcn0 := vcn
  (refine K_el vk0 ?_; intros hA kc0 kc1 kc2 kc3 kc4 kc5 kc6 kc7 kc8 kc9 kc10 kc11 kc12 kc13 kc14 kc15 kc16 kc17 kc18 kc19 kc20 kc21 kc22 kc23 kc24 kc25 kc26 kc27 kc28 kc29 kc30 kc31 kc32 kc33 kc34 kc35 kc36 kc37 kc38 kc39 kz kt kn3 kn4 kn18 kn21 kn23 kn24 kn25 kn26 kn27 kn29 kn30 kr0_0 kr0_1 kr0_2 kr0_3 kr0_4 kr0_5 kr0_7 kr0_8 kr0_9 kr0_10 kr1_0 kr2_0 kr5_0 kr5_1 kr6_0 kr6_1 kr7_0 kr7_1 kr8_0 kr9_0 kr10_0 kr11_0 kr12_0 kr13_0 kr14_0 kr15_0 kr16_0 kr17_0 kr19_0 kr19_1 kr22_0 kr22_1 kr22_2 kr22_3 kr22_4 kr22_5 kr22_7 kr22_8 kr25_0 kr25_1 kr25_2 kr26_0 kr26_1 kr26_2 kr29_0 kr29_1)
  (refine Cn_el vcn0 ?_; intros ki5_2 ki6_2 ki7_2 ki8_1 ki8_2 ki8_3 ki9_1 ki9_2 ki9_3 ki10_1 ki10_2 ki10_3 ki11_1 ki11_2 ki11_3 ki12_1 ki12_2 ki12_3 ki13_1 ki13_2 ki13_3 ki14_1 ki14_2 ki14_3 ki28_0 ki28_1 ki31_0 ki31_1 ki32_0 ki32_1 ki33_0 ki33_1 ki34_0 ki34_1 ki35_0 ki35_1 ki36_0 ki36_1)
  have hAe : ∀ i j, i < 40 → j < 40 → (A i = A j ↔ i = j) := hA
  rw [o244_76]
  simp only [o244_78, o244_80, o244_104, o244_105, o244_108, o244_109, o244_110, o244_111, mcs_0, mcs_l, true_and, and_true, not_true_eq_false, not_false_eq_true, false_implies, forall_const, Nat.reduceLeDiff, Nat.reduceAdd, lt_le, Int32.reduceLT, kc22, Int32.reduceLT, c1, c2, c3, c4]
  refine m_textOf2 R6 cs6 (fun q t sb hsb f st => ?_)
  have Rq := Rl_Fn R6 f hsb hsb
  have sq := Sm_tr s6 (Sm_Fn R6 f hsb)
  have cq := Cs_Fx cs6 f (Nat.le_trans (Rl_z R6) hsb) (Nat.le_trans (Rl_z R6) hsb)
  obtain ⟨t1, t2, t3, v, t4, t5, t6, t7⟩ := st
  rw [(Sm_qv s6).2.2.1, (Sm_cT s6).2.2] at t7
  simp only [o244_114, o244_117, o244_118, o244_119, o244_120, o244_123, J_slen (v := v), mcs_0, mcs_l, Kn_v, true_and, Nat.reduceLeDiff, Nat.reduceAdd, Int32.reduceAdd, t1, t3, t4, t5, t7]
  exact hQ q sq Rq cq
end

section
set_option maxRecDepth 16384
theorem m_piX0 {A : Nat → Nat} {h : MH} {Q : MR → MH → Prop} (R : Rl A h) (hQ : ∀ m, Fr (p_i h (A 22) 9 0) m → Q (.inl (some (.int (g_i h (A 14) 4)))) m) : Ok 218 0 [.ref (A 22), .int 0, mk0] [] h 1 8 Q := by
  have R0 := R
  obtain ⟨vk, vcn, v0, v1, v2, vp, vl0, vl1, vlr, vsr, vc, tx⟩ := R0
  have vk0 := vk
  have vcn0 := vcn
  (refine K_el vk0 ?_; intros hA kc0 kc1 kc2 kc3 kc4 kc5 kc6 kc7 kc8 kc9 kc10 kc11 kc12 kc13 kc14 kc15 kc16 kc17 kc18 kc19 kc20 kc21 kc22 kc23 kc24 kc25 kc26 kc27 kc28 kc29 kc30 kc31 kc32 kc33 kc34 kc35 kc36 kc37 kc38 kc39 kz kt kn3 kn4 kn18 kn21 kn23 kn24 kn25 kn26 kn27 kn29 kn30 kr0_0 kr0_1 kr0_2 kr0_3 kr0_4 kr0_5 kr0_7 kr0_8 kr0_9 kr0_10 kr1_0 kr2_0 kr5_0 kr5_1 kr6_0 kr6_1 kr7_0 kr7_1 kr8_0 kr9_0 kr10_0 kr11_0 kr12_0 kr13_0 kr14_0 kr15_0 kr16_0 kr17_0 kr19_0 kr19_1 kr22_0 kr22_1 kr22_2 kr22_3 kr22_4 kr22_5 kr22_7 kr22_8 kr25_0 kr25_1 kr25_2 kr26_0 kr26_1 kr26_2 kr29_0 kr29_1)
  (refine Cn_el vcn0 ?_; intros ki5_2 ki6_2 ki7_2 ki8_1 ki8_2 ki8_3 ki9_1 ki9_2 ki9_3 ki10_1 ki10_2 ki10_3 ki11_1 ki11_2 ki11_3 ki12_1 ki12_2 ki12_3 ki13_1 ki13_2 ki13_3 ki14_1 ki14_2 ki14_3 ki28_0 ki28_1 ki31_0 ki31_1 ki32_0 ki32_1 ki33_0 ki33_1 ki34_0 ki34_1 ki35_0 ki35_1 ki36_0 ki36_1)
  have hAe : ∀ i j, i < 40 → j < 40 → (A i = A j ↔ i = j) := hA
  have hta : ∀ i, i < 40 → (A i = g_t h) = False := fun i hi => eq_false (fun z => by have := kt i hi; omega)
  have hta2 : ∀ i, i < 40 → (g_t h = A i) = False := fun i hi => eq_false (fun z => by have := kt i hi; omega)
  have hzt : g_z h ≤ g_t h := Nat.le_trans (kz 0 (by decide)) (Nat.le_of_lt (kt 0 (by decide)))
  obtain ⟨⟨p1, p2, p3, p4⟩, pm⟩ := vp
  replace p1 := p1.symm
  replace p2 := p2.symm
  replace p3 := p3.symm
  replace p4 := p4.symm
  by_cases pd : g_i h (A 0) 6 = 0
  all_goals
    simp only [o218_0, o218_1, o218_2, o218_5, o218_6, o218_8, o218_11, o218_12, o218_15, o218_16, o218_19, o218_22, o218_23, o218_24, o218_26, o218_28, o218_29, o218_30, o218_31, o218_34, o218_37, o218_38, o218_39, o218_40, o218_41, o218_44, o218_47, o218_48, o218_49, o218_50, o218_51, o218_54, o218_57, o218_58, o218_59, o218_60, o218_62, o218_63, o218_64, o218_65, o218_66, o218_69, o218_72, o218_73, o218_74, o218_75, o218_76, o218_79, o218_82, o218_83, o218_86, o218_87, o218_88, o218_89, o218_91, o218_92, o218_93, o218_94, o218_96, o218_97, o218_100, o218_101, o218_102, o218_103, o218_104, o218_105, o217_0, o217_1, o217_4, o217_7, o217_8, o217_11, o217_14, o217_17, o217_18, o217_21, o217_24, c_X8_isThrown__, c_X7_rests, mc_pi, mc_pN, mn_pi, mn_pN, mi_pi, mi_pN, mr_pi, mr_pN, mt_pi, mz_pi, mz_pN, mcs_0, mcs_i, mcs_r, Kn_v, mrf_some, true_and, and_true, and_false, not_true_eq_false, not_false_eq_true, false_implies, forall_const, if_true, if_false, and_self, Nat.reduceEqDiff, Nat.reduceLeDiff, Nat.reduceSub, Nat.reduceAdd, Nat.zero_le, Nat.le_refl, i10, lt_le, Int32.reduceLT, cl0, cl1, cl2, cl3, cl4, cl5, cl6, cl7, cl8, Nat.reduceLT, hAe, kc22, kc28, kr22_5, kz, hta, hta2, hzt, vpk, Int32.reduceLT, p1, p2, p3, p4, pd] at hQ ⊢
    exact hQ _ (show Fr (p_i h (A 22) 9 0) _ from (Fr_pi (Fr_pi (Fr_pi (Fr_pi (Fr_pi (Fr_pi (Fr_pi (Fr_pi (Fr_pN Fr_rfl) (Nat.le_refl _)) (Nat.le_refl _)) (Nat.le_refl _)) (Nat.le_refl _)) (Nat.le_refl _)) (Nat.le_refl _)) (Nat.le_refl _)) (Nat.le_refl _)))

theorem m_piX1 {A : Nat → Nat} {h : MH} {Q : MR → MH → Prop} (R : Rl A h) (hQ : ∀ m, Fr (p_i h (A 22) 9 0) m → Q (.inl (some (.int (g_i h (A 14) 5)))) m) : Ok 218 0 [.ref (A 22), .int 1, mk0] [] h 1 8 Q := by
  have R0 := R
  obtain ⟨vk, vcn, v0, v1, v2, vp, vl0, vl1, vlr, vsr, vc, tx⟩ := R0
  have vk0 := vk
  have vcn0 := vcn
  (refine K_el vk0 ?_; intros hA kc0 kc1 kc2 kc3 kc4 kc5 kc6 kc7 kc8 kc9 kc10 kc11 kc12 kc13 kc14 kc15 kc16 kc17 kc18 kc19 kc20 kc21 kc22 kc23 kc24 kc25 kc26 kc27 kc28 kc29 kc30 kc31 kc32 kc33 kc34 kc35 kc36 kc37 kc38 kc39 kz kt kn3 kn4 kn18 kn21 kn23 kn24 kn25 kn26 kn27 kn29 kn30 kr0_0 kr0_1 kr0_2 kr0_3 kr0_4 kr0_5 kr0_7 kr0_8 kr0_9 kr0_10 kr1_0 kr2_0 kr5_0 kr5_1 kr6_0 kr6_1 kr7_0 kr7_1 kr8_0 kr9_0 kr10_0 kr11_0 kr12_0 kr13_0 kr14_0 kr15_0 kr16_0 kr17_0 kr19_0 kr19_1 kr22_0 kr22_1 kr22_2 kr22_3 kr22_4 kr22_5 kr22_7 kr22_8 kr25_0 kr25_1 kr25_2 kr26_0 kr26_1 kr26_2 kr29_0 kr29_1)
  (refine Cn_el vcn0 ?_; intros ki5_2 ki6_2 ki7_2 ki8_1 ki8_2 ki8_3 ki9_1 ki9_2 ki9_3 ki10_1 ki10_2 ki10_3 ki11_1 ki11_2 ki11_3 ki12_1 ki12_2 ki12_3 ki13_1 ki13_2 ki13_3 ki14_1 ki14_2 ki14_3 ki28_0 ki28_1 ki31_0 ki31_1 ki32_0 ki32_1 ki33_0 ki33_1 ki34_0 ki34_1 ki35_0 ki35_1 ki36_0 ki36_1)
  have hAe : ∀ i j, i < 40 → j < 40 → (A i = A j ↔ i = j) := hA
  have hta : ∀ i, i < 40 → (A i = g_t h) = False := fun i hi => eq_false (fun z => by have := kt i hi; omega)
  have hta2 : ∀ i, i < 40 → (g_t h = A i) = False := fun i hi => eq_false (fun z => by have := kt i hi; omega)
  have hzt : g_z h ≤ g_t h := Nat.le_trans (kz 0 (by decide)) (Nat.le_of_lt (kt 0 (by decide)))
  obtain ⟨⟨p1, p2, p3, p4⟩, pm⟩ := vp
  replace p1 := p1.symm
  replace p2 := p2.symm
  replace p3 := p3.symm
  replace p4 := p4.symm
  by_cases pd : g_i h (A 0) 6 = 0
  all_goals
    simp only [o218_0, o218_1, o218_2, o218_5, o218_6, o218_8, o218_11, o218_12, o218_15, o218_16, o218_19, o218_22, o218_23, o218_24, o218_26, o218_28, o218_29, o218_30, o218_31, o218_34, o218_37, o218_38, o218_39, o218_40, o218_41, o218_44, o218_47, o218_48, o218_49, o218_50, o218_51, o218_54, o218_57, o218_58, o218_59, o218_60, o218_62, o218_63, o218_64, o218_65, o218_66, o218_69, o218_72, o218_73, o218_74, o218_75, o218_76, o218_79, o218_82, o218_83, o218_86, o218_87, o218_88, o218_89, o218_91, o218_92, o218_93, o218_94, o218_96, o218_97, o218_100, o218_101, o218_102, o218_103, o218_104, o218_105, o217_0, o217_1, o217_4, o217_7, o217_8, o217_11, o217_14, o217_17, o217_18, o217_21, o217_24, c_X8_isThrown__, c_X7_rests, mc_pi, mc_pN, mn_pi, mn_pN, mi_pi, mi_pN, mr_pi, mr_pN, mt_pi, mz_pi, mz_pN, mcs_0, mcs_i, mcs_r, Kn_v, mrf_some, true_and, and_true, and_false, not_true_eq_false, not_false_eq_true, false_implies, forall_const, if_true, if_false, and_self, Nat.reduceEqDiff, Nat.reduceLeDiff, Nat.reduceSub, Nat.reduceAdd, Nat.zero_le, Nat.le_refl, i10, lt_le, Int32.reduceLT, cl0, cl1, cl2, cl3, cl4, cl5, cl6, cl7, cl8, Nat.reduceLT, hAe, kc22, kc28, kr22_5, kz, hta, hta2, hzt, vpk, Int32.reduceLT, p1, p2, p3, p4, pd] at hQ ⊢
    exact hQ _ (show Fr (p_i h (A 22) 9 0) _ from (Fr_pi (Fr_pi (Fr_pi (Fr_pi (Fr_pi (Fr_pi (Fr_pi (Fr_pi (Fr_pN Fr_rfl) (Nat.le_refl _)) (Nat.le_refl _)) (Nat.le_refl _)) (Nat.le_refl _)) (Nat.le_refl _)) (Nat.le_refl _)) (Nat.le_refl _)) (Nat.le_refl _)))

theorem m_piX2 {A : Nat → Nat} {h : MH} {Q : MR → MH → Prop} (R : Rl A h) (hQ : ∀ m, Fr (p_i h (A 22) 9 0) m → Q (.inl (some (.int (g_i h (A 14) 5 - g_i h (A 14) 4)))) m) : Ok 218 0 [.ref (A 22), .int 2, mk0] [] h 1 8 Q := by
  have R0 := R
  obtain ⟨vk, vcn, v0, v1, v2, vp, vl0, vl1, vlr, vsr, vc, tx⟩ := R0
  have vk0 := vk
  have vcn0 := vcn
  (refine K_el vk0 ?_; intros hA kc0 kc1 kc2 kc3 kc4 kc5 kc6 kc7 kc8 kc9 kc10 kc11 kc12 kc13 kc14 kc15 kc16 kc17 kc18 kc19 kc20 kc21 kc22 kc23 kc24 kc25 kc26 kc27 kc28 kc29 kc30 kc31 kc32 kc33 kc34 kc35 kc36 kc37 kc38 kc39 kz kt kn3 kn4 kn18 kn21 kn23 kn24 kn25 kn26 kn27 kn29 kn30 kr0_0 kr0_1 kr0_2 kr0_3 kr0_4 kr0_5 kr0_7 kr0_8 kr0_9 kr0_10 kr1_0 kr2_0 kr5_0 kr5_1 kr6_0 kr6_1 kr7_0 kr7_1 kr8_0 kr9_0 kr10_0 kr11_0 kr12_0 kr13_0 kr14_0 kr15_0 kr16_0 kr17_0 kr19_0 kr19_1 kr22_0 kr22_1 kr22_2 kr22_3 kr22_4 kr22_5 kr22_7 kr22_8 kr25_0 kr25_1 kr25_2 kr26_0 kr26_1 kr26_2 kr29_0 kr29_1)
  (refine Cn_el vcn0 ?_; intros ki5_2 ki6_2 ki7_2 ki8_1 ki8_2 ki8_3 ki9_1 ki9_2 ki9_3 ki10_1 ki10_2 ki10_3 ki11_1 ki11_2 ki11_3 ki12_1 ki12_2 ki12_3 ki13_1 ki13_2 ki13_3 ki14_1 ki14_2 ki14_3 ki28_0 ki28_1 ki31_0 ki31_1 ki32_0 ki32_1 ki33_0 ki33_1 ki34_0 ki34_1 ki35_0 ki35_1 ki36_0 ki36_1)
  have hAe : ∀ i j, i < 40 → j < 40 → (A i = A j ↔ i = j) := hA
  have hta : ∀ i, i < 40 → (A i = g_t h) = False := fun i hi => eq_false (fun z => by have := kt i hi; omega)
  have hta2 : ∀ i, i < 40 → (g_t h = A i) = False := fun i hi => eq_false (fun z => by have := kt i hi; omega)
  have hzt : g_z h ≤ g_t h := Nat.le_trans (kz 0 (by decide)) (Nat.le_of_lt (kt 0 (by decide)))
  obtain ⟨⟨p1, p2, p3, p4⟩, pm⟩ := vp
  replace p1 := p1.symm
  replace p2 := p2.symm
  replace p3 := p3.symm
  replace p4 := p4.symm
  by_cases pd : g_i h (A 0) 6 = 0
  all_goals
    simp only [o218_0, o218_1, o218_2, o218_5, o218_6, o218_8, o218_11, o218_12, o218_15, o218_16, o218_19, o218_22, o218_23, o218_24, o218_26, o218_28, o218_29, o218_30, o218_31, o218_34, o218_37, o218_38, o218_39, o218_40, o218_41, o218_44, o218_47, o218_48, o218_49, o218_50, o218_51, o218_54, o218_57, o218_58, o218_59, o218_60, o218_62, o218_63, o218_64, o218_65, o218_66, o218_69, o218_72, o218_73, o218_74, o218_75, o218_76, o218_79, o218_82, o218_83, o218_86, o218_87, o218_88, o218_89, o218_91, o218_92, o218_93, o218_94, o218_96, o218_97, o218_100, o218_101, o218_102, o218_103, o218_104, o218_105, o217_0, o217_1, o217_4, o217_7, o217_8, o217_11, o217_14, o217_17, o217_18, o217_21, o217_24, c_X8_isThrown__, c_X7_rests, mc_pi, mc_pN, mn_pi, mn_pN, mi_pi, mi_pN, mr_pi, mr_pN, mt_pi, mz_pi, mz_pN, mcs_0, mcs_i, mcs_r, Kn_v, mrf_some, true_and, and_true, and_false, not_true_eq_false, not_false_eq_true, false_implies, forall_const, if_true, if_false, and_self, Nat.reduceEqDiff, Nat.reduceLeDiff, Nat.reduceSub, Nat.reduceAdd, Nat.zero_le, Nat.le_refl, i10, lt_le, Int32.reduceLT, cl0, cl1, cl2, cl3, cl4, cl5, cl6, cl7, cl8, Nat.reduceLT, hAe, kc22, kc28, kr22_5, kz, hta, hta2, hzt, vpk, Int32.reduceLT, p1, p2, p3, p4, pd] at hQ ⊢
    exact hQ _ (show Fr (p_i h (A 22) 9 0) _ from (Fr_pi (Fr_pi (Fr_pi (Fr_pi (Fr_pi (Fr_pi (Fr_pi (Fr_pi (Fr_pN Fr_rfl) (Nat.le_refl _)) (Nat.le_refl _)) (Nat.le_refl _)) (Nat.le_refl _)) (Nat.le_refl _)) (Nat.le_refl _)) (Nat.le_refl _)) (Nat.le_refl _)))

theorem m_piX3 {A : Nat → Nat} {h : MH} {Q : MR → MH → Prop} (R : Rl A h) (hQ : ∀ m, Fr (p_i h (A 22) 9 0) m → Q (.inl (some (.int (10)))) m) : Ok 218 0 [.ref (A 22), .int 3, mk0] [] h 1 8 Q := by
  have R0 := R
  obtain ⟨vk, vcn, v0, v1, v2, vp, vl0, vl1, vlr, vsr, vc, tx⟩ := R0
  have vk0 := vk
  have vcn0 := vcn
  (refine K_el vk0 ?_; intros hA kc0 kc1 kc2 kc3 kc4 kc5 kc6 kc7 kc8 kc9 kc10 kc11 kc12 kc13 kc14 kc15 kc16 kc17 kc18 kc19 kc20 kc21 kc22 kc23 kc24 kc25 kc26 kc27 kc28 kc29 kc30 kc31 kc32 kc33 kc34 kc35 kc36 kc37 kc38 kc39 kz kt kn3 kn4 kn18 kn21 kn23 kn24 kn25 kn26 kn27 kn29 kn30 kr0_0 kr0_1 kr0_2 kr0_3 kr0_4 kr0_5 kr0_7 kr0_8 kr0_9 kr0_10 kr1_0 kr2_0 kr5_0 kr5_1 kr6_0 kr6_1 kr7_0 kr7_1 kr8_0 kr9_0 kr10_0 kr11_0 kr12_0 kr13_0 kr14_0 kr15_0 kr16_0 kr17_0 kr19_0 kr19_1 kr22_0 kr22_1 kr22_2 kr22_3 kr22_4 kr22_5 kr22_7 kr22_8 kr25_0 kr25_1 kr25_2 kr26_0 kr26_1 kr26_2 kr29_0 kr29_1)
  (refine Cn_el vcn0 ?_; intros ki5_2 ki6_2 ki7_2 ki8_1 ki8_2 ki8_3 ki9_1 ki9_2 ki9_3 ki10_1 ki10_2 ki10_3 ki11_1 ki11_2 ki11_3 ki12_1 ki12_2 ki12_3 ki13_1 ki13_2 ki13_3 ki14_1 ki14_2 ki14_3 ki28_0 ki28_1 ki31_0 ki31_1 ki32_0 ki32_1 ki33_0 ki33_1 ki34_0 ki34_1 ki35_0 ki35_1 ki36_0 ki36_1)
  have hAe : ∀ i j, i < 40 → j < 40 → (A i = A j ↔ i = j) := hA
  have hta : ∀ i, i < 40 → (A i = g_t h) = False := fun i hi => eq_false (fun z => by have := kt i hi; omega)
  have hta2 : ∀ i, i < 40 → (g_t h = A i) = False := fun i hi => eq_false (fun z => by have := kt i hi; omega)
  have hzt : g_z h ≤ g_t h := Nat.le_trans (kz 0 (by decide)) (Nat.le_of_lt (kt 0 (by decide)))
  obtain ⟨⟨p1, p2, p3, p4⟩, pm⟩ := vp
  replace p1 := p1.symm
  replace p2 := p2.symm
  replace p3 := p3.symm
  replace p4 := p4.symm
  by_cases pd : g_i h (A 0) 6 = 0
  all_goals
    simp only [o218_0, o218_1, o218_2, o218_5, o218_6, o218_8, o218_11, o218_12, o218_15, o218_16, o218_19, o218_22, o218_23, o218_24, o218_26, o218_28, o218_29, o218_30, o218_31, o218_34, o218_37, o218_38, o218_39, o218_40, o218_41, o218_44, o218_47, o218_48, o218_49, o218_50, o218_51, o218_54, o218_57, o218_58, o218_59, o218_60, o218_62, o218_63, o218_64, o218_65, o218_66, o218_69, o218_72, o218_73, o218_74, o218_75, o218_76, o218_79, o218_82, o218_83, o218_86, o218_87, o218_88, o218_89, o218_91, o218_92, o218_93, o218_94, o218_96, o218_97, o218_100, o218_101, o218_102, o218_103, o218_104, o218_105, o217_0, o217_1, o217_4, o217_7, o217_8, o217_11, o217_14, o217_17, o217_18, o217_21, o217_24, c_X8_isThrown__, c_X7_rests, mc_pi, mc_pN, mn_pi, mn_pN, mi_pi, mi_pN, mr_pi, mr_pN, mt_pi, mz_pi, mz_pN, mcs_0, mcs_i, mcs_r, Kn_v, mrf_some, true_and, and_true, and_false, not_true_eq_false, not_false_eq_true, false_implies, forall_const, if_true, if_false, and_self, Nat.reduceEqDiff, Nat.reduceLeDiff, Nat.reduceSub, Nat.reduceAdd, Nat.zero_le, Nat.le_refl, i10, lt_le, Int32.reduceLT, cl0, cl1, cl2, cl3, cl4, cl5, cl6, cl7, cl8, Nat.reduceLT, hAe, kc22, kc28, kr22_5, kz, hta, hta2, hzt, vpk, Int32.reduceLT, p1, p2, p3, p4, pd] at hQ ⊢
    exact hQ _ (show Fr (p_i h (A 22) 9 0) _ from (Fr_pi (Fr_pi (Fr_pi (Fr_pi (Fr_pi (Fr_pi (Fr_pi (Fr_pi (Fr_pN Fr_rfl) (Nat.le_refl _)) (Nat.le_refl _)) (Nat.le_refl _)) (Nat.le_refl _)) (Nat.le_refl _)) (Nat.le_refl _)) (Nat.le_refl _)) (Nat.le_refl _)))

theorem m_piX4 {A : Nat → Nat} {h : MH} {Q : MR → MH → Prop} (R : Rl A h) (hQ : ∀ m, Fr (p_i h (A 22) 9 0) m → Q (.inl (some (.int (g_i h (A 14) 6)))) m) : Ok 218 0 [.ref (A 22), .int 4, mk0] [] h 1 8 Q := by
  have R0 := R
  obtain ⟨vk, vcn, v0, v1, v2, vp, vl0, vl1, vlr, vsr, vc, tx⟩ := R0
  have vk0 := vk
  have vcn0 := vcn
  (refine K_el vk0 ?_; intros hA kc0 kc1 kc2 kc3 kc4 kc5 kc6 kc7 kc8 kc9 kc10 kc11 kc12 kc13 kc14 kc15 kc16 kc17 kc18 kc19 kc20 kc21 kc22 kc23 kc24 kc25 kc26 kc27 kc28 kc29 kc30 kc31 kc32 kc33 kc34 kc35 kc36 kc37 kc38 kc39 kz kt kn3 kn4 kn18 kn21 kn23 kn24 kn25 kn26 kn27 kn29 kn30 kr0_0 kr0_1 kr0_2 kr0_3 kr0_4 kr0_5 kr0_7 kr0_8 kr0_9 kr0_10 kr1_0 kr2_0 kr5_0 kr5_1 kr6_0 kr6_1 kr7_0 kr7_1 kr8_0 kr9_0 kr10_0 kr11_0 kr12_0 kr13_0 kr14_0 kr15_0 kr16_0 kr17_0 kr19_0 kr19_1 kr22_0 kr22_1 kr22_2 kr22_3 kr22_4 kr22_5 kr22_7 kr22_8 kr25_0 kr25_1 kr25_2 kr26_0 kr26_1 kr26_2 kr29_0 kr29_1)
  (refine Cn_el vcn0 ?_; intros ki5_2 ki6_2 ki7_2 ki8_1 ki8_2 ki8_3 ki9_1 ki9_2 ki9_3 ki10_1 ki10_2 ki10_3 ki11_1 ki11_2 ki11_3 ki12_1 ki12_2 ki12_3 ki13_1 ki13_2 ki13_3 ki14_1 ki14_2 ki14_3 ki28_0 ki28_1 ki31_0 ki31_1 ki32_0 ki32_1 ki33_0 ki33_1 ki34_0 ki34_1 ki35_0 ki35_1 ki36_0 ki36_1)
  have hAe : ∀ i j, i < 40 → j < 40 → (A i = A j ↔ i = j) := hA
  have hta : ∀ i, i < 40 → (A i = g_t h) = False := fun i hi => eq_false (fun z => by have := kt i hi; omega)
  have hta2 : ∀ i, i < 40 → (g_t h = A i) = False := fun i hi => eq_false (fun z => by have := kt i hi; omega)
  have hzt : g_z h ≤ g_t h := Nat.le_trans (kz 0 (by decide)) (Nat.le_of_lt (kt 0 (by decide)))
  obtain ⟨⟨p1, p2, p3, p4⟩, pm⟩ := vp
  replace p1 := p1.symm
  replace p2 := p2.symm
  replace p3 := p3.symm
  replace p4 := p4.symm
  by_cases pd : g_i h (A 0) 6 = 0
  all_goals
    simp only [o218_0, o218_1, o218_2, o218_5, o218_6, o218_8, o218_11, o218_12, o218_15, o218_16, o218_19, o218_22, o218_23, o218_24, o218_26, o218_28, o218_29, o218_30, o218_31, o218_34, o218_37, o218_38, o218_39, o218_40, o218_41, o218_44, o218_47, o218_48, o218_49, o218_50, o218_51, o218_54, o218_57, o218_58, o218_59, o218_60, o218_62, o218_63, o218_64, o218_65, o218_66, o218_69, o218_72, o218_73, o218_74, o218_75, o218_76, o218_79, o218_82, o218_83, o218_86, o218_87, o218_88, o218_89, o218_91, o218_92, o218_93, o218_94, o218_96, o218_97, o218_100, o218_101, o218_102, o218_103, o218_104, o218_105, o217_0, o217_1, o217_4, o217_7, o217_8, o217_11, o217_14, o217_17, o217_18, o217_21, o217_24, c_X8_isThrown__, c_X7_rests, mc_pi, mc_pN, mn_pi, mn_pN, mi_pi, mi_pN, mr_pi, mr_pN, mt_pi, mz_pi, mz_pN, mcs_0, mcs_i, mcs_r, Kn_v, mrf_some, true_and, and_true, and_false, not_true_eq_false, not_false_eq_true, false_implies, forall_const, if_true, if_false, and_self, Nat.reduceEqDiff, Nat.reduceLeDiff, Nat.reduceSub, Nat.reduceAdd, Nat.zero_le, Nat.le_refl, i10, lt_le, Int32.reduceLT, cl0, cl1, cl2, cl3, cl4, cl5, cl6, cl7, cl8, Nat.reduceLT, hAe, kc22, kc28, kr22_5, kz, hta, hta2, hzt, vpk, Int32.reduceLT, p1, p2, p3, p4, pd] at hQ ⊢
    exact hQ _ (show Fr (p_i h (A 22) 9 0) _ from (Fr_pi (Fr_pi (Fr_pi (Fr_pi (Fr_pi (Fr_pi (Fr_pi (Fr_pi (Fr_pN Fr_rfl) (Nat.le_refl _)) (Nat.le_refl _)) (Nat.le_refl _)) (Nat.le_refl _)) (Nat.le_refl _)) (Nat.le_refl _)) (Nat.le_refl _)) (Nat.le_refl _)))

theorem m_piX5 {A : Nat → Nat} {h : MH} {Q : MR → MH → Prop} (R : Rl A h) (hQ : ∀ m, Fr (p_i h (A 22) 9 0) m → Q (.inl (some (.int (if g_i h (A 0) 6 = 0 then 0 else 1)))) m) : Ok 218 0 [.ref (A 22), .int 5, mk0] [] h 1 8 Q := by
  have R0 := R
  obtain ⟨vk, vcn, v0, v1, v2, vp, vl0, vl1, vlr, vsr, vc, tx⟩ := R0
  have vk0 := vk
  have vcn0 := vcn
  (refine K_el vk0 ?_; intros hA kc0 kc1 kc2 kc3 kc4 kc5 kc6 kc7 kc8 kc9 kc10 kc11 kc12 kc13 kc14 kc15 kc16 kc17 kc18 kc19 kc20 kc21 kc22 kc23 kc24 kc25 kc26 kc27 kc28 kc29 kc30 kc31 kc32 kc33 kc34 kc35 kc36 kc37 kc38 kc39 kz kt kn3 kn4 kn18 kn21 kn23 kn24 kn25 kn26 kn27 kn29 kn30 kr0_0 kr0_1 kr0_2 kr0_3 kr0_4 kr0_5 kr0_7 kr0_8 kr0_9 kr0_10 kr1_0 kr2_0 kr5_0 kr5_1 kr6_0 kr6_1 kr7_0 kr7_1 kr8_0 kr9_0 kr10_0 kr11_0 kr12_0 kr13_0 kr14_0 kr15_0 kr16_0 kr17_0 kr19_0 kr19_1 kr22_0 kr22_1 kr22_2 kr22_3 kr22_4 kr22_5 kr22_7 kr22_8 kr25_0 kr25_1 kr25_2 kr26_0 kr26_1 kr26_2 kr29_0 kr29_1)
  (refine Cn_el vcn0 ?_; intros ki5_2 ki6_2 ki7_2 ki8_1 ki8_2 ki8_3 ki9_1 ki9_2 ki9_3 ki10_1 ki10_2 ki10_3 ki11_1 ki11_2 ki11_3 ki12_1 ki12_2 ki12_3 ki13_1 ki13_2 ki13_3 ki14_1 ki14_2 ki14_3 ki28_0 ki28_1 ki31_0 ki31_1 ki32_0 ki32_1 ki33_0 ki33_1 ki34_0 ki34_1 ki35_0 ki35_1 ki36_0 ki36_1)
  have hAe : ∀ i j, i < 40 → j < 40 → (A i = A j ↔ i = j) := hA
  have hta : ∀ i, i < 40 → (A i = g_t h) = False := fun i hi => eq_false (fun z => by have := kt i hi; omega)
  have hta2 : ∀ i, i < 40 → (g_t h = A i) = False := fun i hi => eq_false (fun z => by have := kt i hi; omega)
  have hzt : g_z h ≤ g_t h := Nat.le_trans (kz 0 (by decide)) (Nat.le_of_lt (kt 0 (by decide)))
  obtain ⟨⟨p1, p2, p3, p4⟩, pm⟩ := vp
  replace p1 := p1.symm
  replace p2 := p2.symm
  replace p3 := p3.symm
  replace p4 := p4.symm
  by_cases pd : g_i h (A 0) 6 = 0
  all_goals
    simp only [o218_0, o218_1, o218_2, o218_5, o218_6, o218_8, o218_11, o218_12, o218_15, o218_16, o218_19, o218_22, o218_23, o218_24, o218_26, o218_28, o218_29, o218_30, o218_31, o218_34, o218_37, o218_38, o218_39, o218_40, o218_41, o218_44, o218_47, o218_48, o218_49, o218_50, o218_51, o218_54, o218_57, o218_58, o218_59, o218_60, o218_62, o218_63, o218_64, o218_65, o218_66, o218_69, o218_72, o218_73, o218_74, o218_75, o218_76, o218_79, o218_82, o218_83, o218_86, o218_87, o218_88, o218_89, o218_91, o218_92, o218_93, o218_94, o218_96, o218_97, o218_100, o218_101, o218_102, o218_103, o218_104, o218_105, o217_0, o217_1, o217_4, o217_7, o217_8, o217_11, o217_14, o217_17, o217_18, o217_21, o217_24, c_X8_isThrown__, c_X7_rests, mc_pi, mc_pN, mn_pi, mn_pN, mi_pi, mi_pN, mr_pi, mr_pN, mt_pi, mz_pi, mz_pN, mcs_0, mcs_i, mcs_r, Kn_v, mrf_some, true_and, and_true, and_false, not_true_eq_false, not_false_eq_true, false_implies, forall_const, if_true, if_false, and_self, Nat.reduceEqDiff, Nat.reduceLeDiff, Nat.reduceSub, Nat.reduceAdd, Nat.zero_le, Nat.le_refl, i10, lt_le, Int32.reduceLT, cl0, cl1, cl2, cl3, cl4, cl5, cl6, cl7, cl8, Nat.reduceLT, hAe, kc22, kc28, kr22_5, kz, hta, hta2, hzt, vpk, Int32.reduceLT, p1, p2, p3, p4, pd] at hQ ⊢
    exact hQ _ (show Fr (p_i h (A 22) 9 0) _ from (Fr_pi (Fr_pi (Fr_pi (Fr_pi (Fr_pi (Fr_pi (Fr_pi (Fr_pi (Fr_pN Fr_rfl) (Nat.le_refl _)) (Nat.le_refl _)) (Nat.le_refl _)) (Nat.le_refl _)) (Nat.le_refl _)) (Nat.le_refl _)) (Nat.le_refl _)) (Nat.le_refl _)))

theorem m_piX6 {A : Nat → Nat} {h : MH} {Q : MR → MH → Prop} (R : Rl A h) (hQ : ∀ m, Fr (p_i h (A 22) 9 0) m → Q (.inl (some (.int (1)))) m) : Ok 218 0 [.ref (A 22), .int 6, mk0] [] h 1 8 Q := by
  have R0 := R
  obtain ⟨vk, vcn, v0, v1, v2, vp, vl0, vl1, vlr, vsr, vc, tx⟩ := R0
  have vk0 := vk
  have vcn0 := vcn
  (refine K_el vk0 ?_; intros hA kc0 kc1 kc2 kc3 kc4 kc5 kc6 kc7 kc8 kc9 kc10 kc11 kc12 kc13 kc14 kc15 kc16 kc17 kc18 kc19 kc20 kc21 kc22 kc23 kc24 kc25 kc26 kc27 kc28 kc29 kc30 kc31 kc32 kc33 kc34 kc35 kc36 kc37 kc38 kc39 kz kt kn3 kn4 kn18 kn21 kn23 kn24 kn25 kn26 kn27 kn29 kn30 kr0_0 kr0_1 kr0_2 kr0_3 kr0_4 kr0_5 kr0_7 kr0_8 kr0_9 kr0_10 kr1_0 kr2_0 kr5_0 kr5_1 kr6_0 kr6_1 kr7_0 kr7_1 kr8_0 kr9_0 kr10_0 kr11_0 kr12_0 kr13_0 kr14_0 kr15_0 kr16_0 kr17_0 kr19_0 kr19_1 kr22_0 kr22_1 kr22_2 kr22_3 kr22_4 kr22_5 kr22_7 kr22_8 kr25_0 kr25_1 kr25_2 kr26_0 kr26_1 kr26_2 kr29_0 kr29_1)
  (refine Cn_el vcn0 ?_; intros ki5_2 ki6_2 ki7_2 ki8_1 ki8_2 ki8_3 ki9_1 ki9_2 ki9_3 ki10_1 ki10_2 ki10_3 ki11_1 ki11_2 ki11_3 ki12_1 ki12_2 ki12_3 ki13_1 ki13_2 ki13_3 ki14_1 ki14_2 ki14_3 ki28_0 ki28_1 ki31_0 ki31_1 ki32_0 ki32_1 ki33_0 ki33_1 ki34_0 ki34_1 ki35_0 ki35_1 ki36_0 ki36_1)
  have hAe : ∀ i j, i < 40 → j < 40 → (A i = A j ↔ i = j) := hA
  have hta : ∀ i, i < 40 → (A i = g_t h) = False := fun i hi => eq_false (fun z => by have := kt i hi; omega)
  have hta2 : ∀ i, i < 40 → (g_t h = A i) = False := fun i hi => eq_false (fun z => by have := kt i hi; omega)
  have hzt : g_z h ≤ g_t h := Nat.le_trans (kz 0 (by decide)) (Nat.le_of_lt (kt 0 (by decide)))
  obtain ⟨⟨p1, p2, p3, p4⟩, pm⟩ := vp
  replace p1 := p1.symm
  replace p2 := p2.symm
  replace p3 := p3.symm
  replace p4 := p4.symm
  by_cases pd : g_i h (A 0) 6 = 0
  all_goals
    simp only [o218_0, o218_1, o218_2, o218_5, o218_6, o218_8, o218_11, o218_12, o218_15, o218_16, o218_19, o218_22, o218_23, o218_24, o218_26, o218_28, o218_29, o218_30, o218_31, o218_34, o218_37, o218_38, o218_39, o218_40, o218_41, o218_44, o218_47, o218_48, o218_49, o218_50, o218_51, o218_54, o218_57, o218_58, o218_59, o218_60, o218_62, o218_63, o218_64, o218_65, o218_66, o218_69, o218_72, o218_73, o218_74, o218_75, o218_76, o218_79, o218_82, o218_83, o218_86, o218_87, o218_88, o218_89, o218_91, o218_92, o218_93, o218_94, o218_96, o218_97, o218_100, o218_101, o218_102, o218_103, o218_104, o218_105, o217_0, o217_1, o217_4, o217_7, o217_8, o217_11, o217_14, o217_17, o217_18, o217_21, o217_24, c_X8_isThrown__, c_X7_rests, mc_pi, mc_pN, mn_pi, mn_pN, mi_pi, mi_pN, mr_pi, mr_pN, mt_pi, mz_pi, mz_pN, mcs_0, mcs_i, mcs_r, Kn_v, mrf_some, true_and, and_true, and_false, not_true_eq_false, not_false_eq_true, false_implies, forall_const, if_true, if_false, and_self, Nat.reduceEqDiff, Nat.reduceLeDiff, Nat.reduceSub, Nat.reduceAdd, Nat.zero_le, Nat.le_refl, i10, lt_le, Int32.reduceLT, cl0, cl1, cl2, cl3, cl4, cl5, cl6, cl7, cl8, Nat.reduceLT, hAe, kc22, kc28, kr22_5, kz, hta, hta2, hzt, vpk, Int32.reduceLT, p1, p2, p3, p4, pd] at hQ ⊢
    exact hQ _ (show Fr (p_i h (A 22) 9 0) _ from (Fr_pi (Fr_pi (Fr_pi (Fr_pi (Fr_pi (Fr_pi (Fr_pi (Fr_pi (Fr_pN Fr_rfl) (Nat.le_refl _)) (Nat.le_refl _)) (Nat.le_refl _)) (Nat.le_refl _)) (Nat.le_refl _)) (Nat.le_refl _)) (Nat.le_refl _)) (Nat.le_refl _)))

theorem m_piX7 {A : Nat → Nat} {h : MH} {Q : MR → MH → Prop} (R : Rl A h) (hQ : ∀ m, Fr (p_i h (A 22) 9 0) m → Q (.inl (some (.int (if g_i h (A 0) 6 = 0 then g_i h (A 14) 4 else g_i h (A 14) 5 - g_i h (A 14) 4)))) m) : Ok 218 0 [.ref (A 22), .int 7, mk0] [] h 1 8 Q := by
  have R0 := R
  obtain ⟨vk, vcn, v0, v1, v2, vp, vl0, vl1, vlr, vsr, vc, tx⟩ := R0
  have vk0 := vk
  have vcn0 := vcn
  (refine K_el vk0 ?_; intros hA kc0 kc1 kc2 kc3 kc4 kc5 kc6 kc7 kc8 kc9 kc10 kc11 kc12 kc13 kc14 kc15 kc16 kc17 kc18 kc19 kc20 kc21 kc22 kc23 kc24 kc25 kc26 kc27 kc28 kc29 kc30 kc31 kc32 kc33 kc34 kc35 kc36 kc37 kc38 kc39 kz kt kn3 kn4 kn18 kn21 kn23 kn24 kn25 kn26 kn27 kn29 kn30 kr0_0 kr0_1 kr0_2 kr0_3 kr0_4 kr0_5 kr0_7 kr0_8 kr0_9 kr0_10 kr1_0 kr2_0 kr5_0 kr5_1 kr6_0 kr6_1 kr7_0 kr7_1 kr8_0 kr9_0 kr10_0 kr11_0 kr12_0 kr13_0 kr14_0 kr15_0 kr16_0 kr17_0 kr19_0 kr19_1 kr22_0 kr22_1 kr22_2 kr22_3 kr22_4 kr22_5 kr22_7 kr22_8 kr25_0 kr25_1 kr25_2 kr26_0 kr26_1 kr26_2 kr29_0 kr29_1)
  (refine Cn_el vcn0 ?_; intros ki5_2 ki6_2 ki7_2 ki8_1 ki8_2 ki8_3 ki9_1 ki9_2 ki9_3 ki10_1 ki10_2 ki10_3 ki11_1 ki11_2 ki11_3 ki12_1 ki12_2 ki12_3 ki13_1 ki13_2 ki13_3 ki14_1 ki14_2 ki14_3 ki28_0 ki28_1 ki31_0 ki31_1 ki32_0 ki32_1 ki33_0 ki33_1 ki34_0 ki34_1 ki35_0 ki35_1 ki36_0 ki36_1)
  have hAe : ∀ i j, i < 40 → j < 40 → (A i = A j ↔ i = j) := hA
  have hta : ∀ i, i < 40 → (A i = g_t h) = False := fun i hi => eq_false (fun z => by have := kt i hi; omega)
  have hta2 : ∀ i, i < 40 → (g_t h = A i) = False := fun i hi => eq_false (fun z => by have := kt i hi; omega)
  have hzt : g_z h ≤ g_t h := Nat.le_trans (kz 0 (by decide)) (Nat.le_of_lt (kt 0 (by decide)))
  obtain ⟨⟨p1, p2, p3, p4⟩, pm⟩ := vp
  replace p1 := p1.symm
  replace p2 := p2.symm
  replace p3 := p3.symm
  replace p4 := p4.symm
  by_cases pd : g_i h (A 0) 6 = 0
  all_goals
    simp only [o218_0, o218_1, o218_2, o218_5, o218_6, o218_8, o218_11, o218_12, o218_15, o218_16, o218_19, o218_22, o218_23, o218_24, o218_26, o218_28, o218_29, o218_30, o218_31, o218_34, o218_37, o218_38, o218_39, o218_40, o218_41, o218_44, o218_47, o218_48, o218_49, o218_50, o218_51, o218_54, o218_57, o218_58, o218_59, o218_60, o218_62, o218_63, o218_64, o218_65, o218_66, o218_69, o218_72, o218_73, o218_74, o218_75, o218_76, o218_79, o218_82, o218_83, o218_86, o218_87, o218_88, o218_89, o218_91, o218_92, o218_93, o218_94, o218_96, o218_97, o218_100, o218_101, o218_102, o218_103, o218_104, o218_105, o217_0, o217_1, o217_4, o217_7, o217_8, o217_11, o217_14, o217_17, o217_18, o217_21, o217_24, c_X8_isThrown__, c_X7_rests, mc_pi, mc_pN, mn_pi, mn_pN, mi_pi, mi_pN, mr_pi, mr_pN, mt_pi, mz_pi, mz_pN, mcs_0, mcs_i, mcs_r, Kn_v, mrf_some, true_and, and_true, and_false, not_true_eq_false, not_false_eq_true, false_implies, forall_const, if_true, if_false, and_self, Nat.reduceEqDiff, Nat.reduceLeDiff, Nat.reduceSub, Nat.reduceAdd, Nat.zero_le, Nat.le_refl, i10, lt_le, Int32.reduceLT, cl0, cl1, cl2, cl3, cl4, cl5, cl6, cl7, cl8, Nat.reduceLT, hAe, kc22, kc28, kr22_5, kz, hta, hta2, hzt, vpk, Int32.reduceLT, p1, p2, p3, p4, pd] at hQ ⊢
    exact hQ _ (show Fr (p_i h (A 22) 9 0) _ from (Fr_pi (Fr_pi (Fr_pi (Fr_pi (Fr_pi (Fr_pi (Fr_pi (Fr_pi (Fr_pN Fr_rfl) (Nat.le_refl _)) (Nat.le_refl _)) (Nat.le_refl _)) (Nat.le_refl _)) (Nat.le_refl _)) (Nat.le_refl _)) (Nat.le_refl _)) (Nat.le_refl _)))
end

section
set_option maxRecDepth 16384
theorem dv_0 : vp_in 0 2 = True := by
  apply eq_true
  unfold vp_in
  decide
theorem dv_1 : vp_in 1 2 = True := by
  apply eq_true
  unfold vp_in
  decide
theorem m_leX0_0 {A : Nat → Nat} {h : MH} {Q : MR → MH → Prop} (R : Rl A h) (hQ : ∀ m, Fr h m → Q (.inl (some (.int (g_i h (A 15) 4)))) m) : Ok 227 0 [.ref (A 22), .int 0, .int 0, mk0, mk0] [] h 1 9 Q := by
  have R0 := R
  obtain ⟨vk, vcn, v0, v1, v2, vp, vl0, vl1, vlr, vsr, vc, tx⟩ := R0
  have vk0 := vk
  have vcn0 := vcn
  (refine K_el vk0 ?_; intros hA kc0 kc1 kc2 kc3 kc4 kc5 kc6 kc7 kc8 kc9 kc10 kc11 kc12 kc13 kc14 kc15 kc16 kc17 kc18 kc19 kc20 kc21 kc22 kc23 kc24 kc25 kc26 kc27 kc28 kc29 kc30 kc31 kc32 kc33 kc34 kc35 kc36 kc37 kc38 kc39 kz kt kn3 kn4 kn18 kn21 kn23 kn24 kn25 kn26 kn27 kn29 kn30 kr0_0 kr0_1 kr0_2 kr0_3 kr0_4 kr0_5 kr0_7 kr0_8 kr0_9 kr0_10 kr1_0 kr2_0 kr5_0 kr5_1 kr6_0 kr6_1 kr7_0 kr7_1 kr8_0 kr9_0 kr10_0 kr11_0 kr12_0 kr13_0 kr14_0 kr15_0 kr16_0 kr17_0 kr19_0 kr19_1 kr22_0 kr22_1 kr22_2 kr22_3 kr22_4 kr22_5 kr22_7 kr22_8 kr25_0 kr25_1 kr25_2 kr26_0 kr26_1 kr26_2 kr29_0 kr29_1)
  (refine Cn_el vcn0 ?_; intros ki5_2 ki6_2 ki7_2 ki8_1 ki8_2 ki8_3 ki9_1 ki9_2 ki9_3 ki10_1 ki10_2 ki10_3 ki11_1 ki11_2 ki11_3 ki12_1 ki12_2 ki12_3 ki13_1 ki13_2 ki13_3 ki14_1 ki14_2 ki14_3 ki28_0 ki28_1 ki31_0 ki31_1 ki32_0 ki32_1 ki33_0 ki33_1 ki34_0 ki34_1 ki35_0 ki35_1 ki36_0 ki36_1)
  have hAe : ∀ i j, i < 40 → j < 40 → (A i = A j ↔ i = j) := hA
  have hta : ∀ i, i < 40 → (A i = g_t h) = False := fun i hi => eq_false (fun z => by have := kt i hi; omega)
  have hta2 : ∀ i, i < 40 → (g_t h = A i) = False := fun i hi => eq_false (fun z => by have := kt i hi; omega)
  have hzt : g_z h ≤ g_t h := Nat.le_trans (kz 0 (by decide)) (Nat.le_of_lt (kt 0 (by decide)))
  have hl2 := vl0
  obtain ⟨⟨b1, b2, b3, b4, b5, b6⟩, ln⟩ := hl2
  replace b1 := b1.symm
  replace b2 := b2.symm
  replace b3 := b3.symm
  replace b4 := b4.symm
  replace b5 := b5.symm
  replace b6 := b6.symm
  by_cases ps : g_i h (A 15) 3 = 0
  all_goals
    simp only [o227_0, o227_1, o227_4, o227_5, o227_6, o227_7, o227_9, o227_11, o227_12, o227_13, o227_14, o227_17, o227_18, o227_19, o227_20, o227_21, o227_24, o227_25, o227_26, o227_27, o227_28, o227_31, o227_32, o227_33, o227_34, o227_35, o227_38, o227_39, o227_40, o227_41, o227_42, o227_45, o227_46, o227_47, o227_48, o227_49, o227_52, o227_55, o227_56, o227_59, o227_60, o227_61, o227_62, o227_64, o227_65, o227_68, o227_71, o227_72, o227_75, o227_76, o227_77, o227_78, o227_80, o227_81, o227_82, o227_83, o227_85, o227_86, o227_89, o227_92, o227_93, o227_96, o227_97, o227_100, o227_101, o227_103, o227_105, o227_106, o227_107, c_X7_rests, mc_pi, mc_pN, mn_pi, mn_pN, mi_pi, mi_pN, mz_pi, mz_pN, mcs_0, mcs_i, mcs_r, Kn_v, mrf_some, true_and, and_true, and_false, not_true_eq_false, not_false_eq_true, false_implies, forall_const, if_true, if_false, and_self, Nat.reduceEqDiff, Nat.reduceLeDiff, Nat.reduceSub, Nat.reduceAdd, Nat.le_refl, Int32.reduceLT, cl0, cl1, cl2, cl3, cl4, cl5, cl6, cl7, cl8, cl9, Nat.reduceLT, kc22, kc29, kc37, kn29, kr22_7, kr29_0, hta, hzt, vpk, Int32.reduceLT, b1, b2, b3, b4, b5, b6, ps, dv_0] at hQ ⊢
    exact hQ _ (show Fr (h) _ from (Fr_pi (Fr_pi (Fr_pi (Fr_pi (Fr_pi (Fr_pi (Fr_pi (Fr_pi (Fr_pi (Fr_pN Fr_rfl) (Nat.le_refl _)) (Nat.le_refl _)) (Nat.le_refl _)) (Nat.le_refl _)) (Nat.le_refl _)) (Nat.le_refl _)) (Nat.le_refl _)) (Nat.le_refl _)) (Nat.le_refl _)))

theorem m_leX0_1 {A : Nat → Nat} {h : MH} {Q : MR → MH → Prop} (R : Rl A h) (hQ : ∀ m, Fr h m → Q (.inl (some (.int (g_i h (A 15) 5)))) m) : Ok 227 0 [.ref (A 22), .int 0, .int 1, mk0, mk0] [] h 1 9 Q := by
  have R0 := R
  obtain ⟨vk, vcn, v0, v1, v2, vp, vl0, vl1, vlr, vsr, vc, tx⟩ := R0
  have vk0 := vk
  have vcn0 := vcn
  (refine K_el vk0 ?_; intros hA kc0 kc1 kc2 kc3 kc4 kc5 kc6 kc7 kc8 kc9 kc10 kc11 kc12 kc13 kc14 kc15 kc16 kc17 kc18 kc19 kc20 kc21 kc22 kc23 kc24 kc25 kc26 kc27 kc28 kc29 kc30 kc31 kc32 kc33 kc34 kc35 kc36 kc37 kc38 kc39 kz kt kn3 kn4 kn18 kn21 kn23 kn24 kn25 kn26 kn27 kn29 kn30 kr0_0 kr0_1 kr0_2 kr0_3 kr0_4 kr0_5 kr0_7 kr0_8 kr0_9 kr0_10 kr1_0 kr2_0 kr5_0 kr5_1 kr6_0 kr6_1 kr7_0 kr7_1 kr8_0 kr9_0 kr10_0 kr11_0 kr12_0 kr13_0 kr14_0 kr15_0 kr16_0 kr17_0 kr19_0 kr19_1 kr22_0 kr22_1 kr22_2 kr22_3 kr22_4 kr22_5 kr22_7 kr22_8 kr25_0 kr25_1 kr25_2 kr26_0 kr26_1 kr26_2 kr29_0 kr29_1)
  (refine Cn_el vcn0 ?_; intros ki5_2 ki6_2 ki7_2 ki8_1 ki8_2 ki8_3 ki9_1 ki9_2 ki9_3 ki10_1 ki10_2 ki10_3 ki11_1 ki11_2 ki11_3 ki12_1 ki12_2 ki12_3 ki13_1 ki13_2 ki13_3 ki14_1 ki14_2 ki14_3 ki28_0 ki28_1 ki31_0 ki31_1 ki32_0 ki32_1 ki33_0 ki33_1 ki34_0 ki34_1 ki35_0 ki35_1 ki36_0 ki36_1)
  have hAe : ∀ i j, i < 40 → j < 40 → (A i = A j ↔ i = j) := hA
  have hta : ∀ i, i < 40 → (A i = g_t h) = False := fun i hi => eq_false (fun z => by have := kt i hi; omega)
  have hta2 : ∀ i, i < 40 → (g_t h = A i) = False := fun i hi => eq_false (fun z => by have := kt i hi; omega)
  have hzt : g_z h ≤ g_t h := Nat.le_trans (kz 0 (by decide)) (Nat.le_of_lt (kt 0 (by decide)))
  have hl2 := vl0
  obtain ⟨⟨b1, b2, b3, b4, b5, b6⟩, ln⟩ := hl2
  replace b1 := b1.symm
  replace b2 := b2.symm
  replace b3 := b3.symm
  replace b4 := b4.symm
  replace b5 := b5.symm
  replace b6 := b6.symm
  by_cases ps : g_i h (A 15) 3 = 0
  all_goals
    simp only [o227_0, o227_1, o227_4, o227_5, o227_6, o227_7, o227_9, o227_11, o227_12, o227_13, o227_14, o227_17, o227_18, o227_19, o227_20, o227_21, o227_24, o227_25, o227_26, o227_27, o227_28, o227_31, o227_32, o227_33, o227_34, o227_35, o227_38, o227_39, o227_40, o227_41, o227_42, o227_45, o227_46, o227_47, o227_48, o227_49, o227_52, o227_55, o227_56, o227_59, o227_60, o227_61, o227_62, o227_64, o227_65, o227_68, o227_71, o227_72, o227_75, o227_76, o227_77, o227_78, o227_80, o227_81, o227_82, o227_83, o227_85, o227_86, o227_89, o227_92, o227_93, o227_96, o227_97, o227_100, o227_101, o227_103, o227_105, o227_106, o227_107, c_X7_rests, mc_pi, mc_pN, mn_pi, mn_pN, mi_pi, mi_pN, mz_pi, mz_pN, mcs_0, mcs_i, mcs_r, Kn_v, mrf_some, true_and, and_true, and_false, not_true_eq_false, not_false_eq_true, false_implies, forall_const, if_true, if_false, and_self, Nat.reduceEqDiff, Nat.reduceLeDiff, Nat.reduceSub, Nat.reduceAdd, Nat.le_refl, Int32.reduceLT, cl0, cl1, cl2, cl3, cl4, cl5, cl6, cl7, cl8, cl9, Nat.reduceLT, kc22, kc29, kc37, kn29, kr22_7, kr29_0, hta, hzt, vpk, Int32.reduceLT, b1, b2, b3, b4, b5, b6, ps, dv_0] at hQ ⊢
    exact hQ _ (show Fr (h) _ from (Fr_pi (Fr_pi (Fr_pi (Fr_pi (Fr_pi (Fr_pi (Fr_pi (Fr_pi (Fr_pi (Fr_pN Fr_rfl) (Nat.le_refl _)) (Nat.le_refl _)) (Nat.le_refl _)) (Nat.le_refl _)) (Nat.le_refl _)) (Nat.le_refl _)) (Nat.le_refl _)) (Nat.le_refl _)) (Nat.le_refl _)))

theorem m_leX0_2 {A : Nat → Nat} {h : MH} {Q : MR → MH → Prop} (R : Rl A h) (hQ : ∀ m, Fr h m → Q (.inl (some (.int (g_i h (A 15) 2)))) m) : Ok 227 0 [.ref (A 22), .int 0, .int 2, mk0, mk0] [] h 1 9 Q := by
  have R0 := R
  obtain ⟨vk, vcn, v0, v1, v2, vp, vl0, vl1, vlr, vsr, vc, tx⟩ := R0
  have vk0 := vk
  have vcn0 := vcn
  (refine K_el vk0 ?_; intros hA kc0 kc1 kc2 kc3 kc4 kc5 kc6 kc7 kc8 kc9 kc10 kc11 kc12 kc13 kc14 kc15 kc16 kc17 kc18 kc19 kc20 kc21 kc22 kc23 kc24 kc25 kc26 kc27 kc28 kc29 kc30 kc31 kc32 kc33 kc34 kc35 kc36 kc37 kc38 kc39 kz kt kn3 kn4 kn18 kn21 kn23 kn24 kn25 kn26 kn27 kn29 kn30 kr0_0 kr0_1 kr0_2 kr0_3 kr0_4 kr0_5 kr0_7 kr0_8 kr0_9 kr0_10 kr1_0 kr2_0 kr5_0 kr5_1 kr6_0 kr6_1 kr7_0 kr7_1 kr8_0 kr9_0 kr10_0 kr11_0 kr12_0 kr13_0 kr14_0 kr15_0 kr16_0 kr17_0 kr19_0 kr19_1 kr22_0 kr22_1 kr22_2 kr22_3 kr22_4 kr22_5 kr22_7 kr22_8 kr25_0 kr25_1 kr25_2 kr26_0 kr26_1 kr26_2 kr29_0 kr29_1)
  (refine Cn_el vcn0 ?_; intros ki5_2 ki6_2 ki7_2 ki8_1 ki8_2 ki8_3 ki9_1 ki9_2 ki9_3 ki10_1 ki10_2 ki10_3 ki11_1 ki11_2 ki11_3 ki12_1 ki12_2 ki12_3 ki13_1 ki13_2 ki13_3 ki14_1 ki14_2 ki14_3 ki28_0 ki28_1 ki31_0 ki31_1 ki32_0 ki32_1 ki33_0 ki33_1 ki34_0 ki34_1 ki35_0 ki35_1 ki36_0 ki36_1)
  have hAe : ∀ i j, i < 40 → j < 40 → (A i = A j ↔ i = j) := hA
  have hta : ∀ i, i < 40 → (A i = g_t h) = False := fun i hi => eq_false (fun z => by have := kt i hi; omega)
  have hta2 : ∀ i, i < 40 → (g_t h = A i) = False := fun i hi => eq_false (fun z => by have := kt i hi; omega)
  have hzt : g_z h ≤ g_t h := Nat.le_trans (kz 0 (by decide)) (Nat.le_of_lt (kt 0 (by decide)))
  have hl2 := vl0
  obtain ⟨⟨b1, b2, b3, b4, b5, b6⟩, ln⟩ := hl2
  replace b1 := b1.symm
  replace b2 := b2.symm
  replace b3 := b3.symm
  replace b4 := b4.symm
  replace b5 := b5.symm
  replace b6 := b6.symm
  by_cases ps : g_i h (A 15) 3 = 0
  all_goals
    simp only [o227_0, o227_1, o227_4, o227_5, o227_6, o227_7, o227_9, o227_11, o227_12, o227_13, o227_14, o227_17, o227_18, o227_19, o227_20, o227_21, o227_24, o227_25, o227_26, o227_27, o227_28, o227_31, o227_32, o227_33, o227_34, o227_35, o227_38, o227_39, o227_40, o227_41, o227_42, o227_45, o227_46, o227_47, o227_48, o227_49, o227_52, o227_55, o227_56, o227_59, o227_60, o227_61, o227_62, o227_64, o227_65, o227_68, o227_71, o227_72, o227_75, o227_76, o227_77, o227_78, o227_80, o227_81, o227_82, o227_83, o227_85, o227_86, o227_89, o227_92, o227_93, o227_96, o227_97, o227_100, o227_101, o227_103, o227_105, o227_106, o227_107, c_X7_rests, mc_pi, mc_pN, mn_pi, mn_pN, mi_pi, mi_pN, mz_pi, mz_pN, mcs_0, mcs_i, mcs_r, Kn_v, mrf_some, true_and, and_true, and_false, not_true_eq_false, not_false_eq_true, false_implies, forall_const, if_true, if_false, and_self, Nat.reduceEqDiff, Nat.reduceLeDiff, Nat.reduceSub, Nat.reduceAdd, Nat.le_refl, Int32.reduceLT, cl0, cl1, cl2, cl3, cl4, cl5, cl6, cl7, cl8, cl9, Nat.reduceLT, kc22, kc29, kc37, kn29, kr22_7, kr29_0, hta, hzt, vpk, Int32.reduceLT, b1, b2, b3, b4, b5, b6, ps, dv_0] at hQ ⊢
    exact hQ _ (show Fr (h) _ from (Fr_pi (Fr_pi (Fr_pi (Fr_pi (Fr_pi (Fr_pi (Fr_pi (Fr_pi (Fr_pi (Fr_pN Fr_rfl) (Nat.le_refl _)) (Nat.le_refl _)) (Nat.le_refl _)) (Nat.le_refl _)) (Nat.le_refl _)) (Nat.le_refl _)) (Nat.le_refl _)) (Nat.le_refl _)) (Nat.le_refl _)))

theorem m_leX0_3 {A : Nat → Nat} {h : MH} {Q : MR → MH → Prop} (R : Rl A h) (hQ : ∀ m, Fr h m → Q (.inl (some (.int (g_i h (A 15) 5 - g_i h (A 15) 4)))) m) : Ok 227 0 [.ref (A 22), .int 0, .int 3, mk0, mk0] [] h 1 9 Q := by
  have R0 := R
  obtain ⟨vk, vcn, v0, v1, v2, vp, vl0, vl1, vlr, vsr, vc, tx⟩ := R0
  have vk0 := vk
  have vcn0 := vcn
  (refine K_el vk0 ?_; intros hA kc0 kc1 kc2 kc3 kc4 kc5 kc6 kc7 kc8 kc9 kc10 kc11 kc12 kc13 kc14 kc15 kc16 kc17 kc18 kc19 kc20 kc21 kc22 kc23 kc24 kc25 kc26 kc27 kc28 kc29 kc30 kc31 kc32 kc33 kc34 kc35 kc36 kc37 kc38 kc39 kz kt kn3 kn4 kn18 kn21 kn23 kn24 kn25 kn26 kn27 kn29 kn30 kr0_0 kr0_1 kr0_2 kr0_3 kr0_4 kr0_5 kr0_7 kr0_8 kr0_9 kr0_10 kr1_0 kr2_0 kr5_0 kr5_1 kr6_0 kr6_1 kr7_0 kr7_1 kr8_0 kr9_0 kr10_0 kr11_0 kr12_0 kr13_0 kr14_0 kr15_0 kr16_0 kr17_0 kr19_0 kr19_1 kr22_0 kr22_1 kr22_2 kr22_3 kr22_4 kr22_5 kr22_7 kr22_8 kr25_0 kr25_1 kr25_2 kr26_0 kr26_1 kr26_2 kr29_0 kr29_1)
  (refine Cn_el vcn0 ?_; intros ki5_2 ki6_2 ki7_2 ki8_1 ki8_2 ki8_3 ki9_1 ki9_2 ki9_3 ki10_1 ki10_2 ki10_3 ki11_1 ki11_2 ki11_3 ki12_1 ki12_2 ki12_3 ki13_1 ki13_2 ki13_3 ki14_1 ki14_2 ki14_3 ki28_0 ki28_1 ki31_0 ki31_1 ki32_0 ki32_1 ki33_0 ki33_1 ki34_0 ki34_1 ki35_0 ki35_1 ki36_0 ki36_1)
  have hAe : ∀ i j, i < 40 → j < 40 → (A i = A j ↔ i = j) := hA
  have hta : ∀ i, i < 40 → (A i = g_t h) = False := fun i hi => eq_false (fun z => by have := kt i hi; omega)
  have hta2 : ∀ i, i < 40 → (g_t h = A i) = False := fun i hi => eq_false (fun z => by have := kt i hi; omega)
  have hzt : g_z h ≤ g_t h := Nat.le_trans (kz 0 (by decide)) (Nat.le_of_lt (kt 0 (by decide)))
  have hl2 := vl0
  obtain ⟨⟨b1, b2, b3, b4, b5, b6⟩, ln⟩ := hl2
  replace b1 := b1.symm
  replace b2 := b2.symm
  replace b3 := b3.symm
  replace b4 := b4.symm
  replace b5 := b5.symm
  replace b6 := b6.symm
  by_cases ps : g_i h (A 15) 3 = 0
  all_goals
    simp only [o227_0, o227_1, o227_4, o227_5, o227_6, o227_7, o227_9, o227_11, o227_12, o227_13, o227_14, o227_17, o227_18, o227_19, o227_20, o227_21, o227_24, o227_25, o227_26, o227_27, o227_28, o227_31, o227_32, o227_33, o227_34, o227_35, o227_38, o227_39, o227_40, o227_41, o227_42, o227_45, o227_46, o227_47, o227_48, o227_49, o227_52, o227_55, o227_56, o227_59, o227_60, o227_61, o227_62, o227_64, o227_65, o227_68, o227_71, o227_72, o227_75, o227_76, o227_77, o227_78, o227_80, o227_81, o227_82, o227_83, o227_85, o227_86, o227_89, o227_92, o227_93, o227_96, o227_97, o227_100, o227_101, o227_103, o227_105, o227_106, o227_107, c_X7_rests, mc_pi, mc_pN, mn_pi, mn_pN, mi_pi, mi_pN, mz_pi, mz_pN, mcs_0, mcs_i, mcs_r, Kn_v, mrf_some, true_and, and_true, and_false, not_true_eq_false, not_false_eq_true, false_implies, forall_const, if_true, if_false, and_self, Nat.reduceEqDiff, Nat.reduceLeDiff, Nat.reduceSub, Nat.reduceAdd, Nat.le_refl, Int32.reduceLT, cl0, cl1, cl2, cl3, cl4, cl5, cl6, cl7, cl8, cl9, Nat.reduceLT, kc22, kc29, kc37, kn29, kr22_7, kr29_0, hta, hzt, vpk, Int32.reduceLT, b1, b2, b3, b4, b5, b6, ps, dv_0] at hQ ⊢
    exact hQ _ (show Fr (h) _ from (Fr_pi (Fr_pi (Fr_pi (Fr_pi (Fr_pi (Fr_pi (Fr_pi (Fr_pi (Fr_pi (Fr_pN Fr_rfl) (Nat.le_refl _)) (Nat.le_refl _)) (Nat.le_refl _)) (Nat.le_refl _)) (Nat.le_refl _)) (Nat.le_refl _)) (Nat.le_refl _)) (Nat.le_refl _)) (Nat.le_refl _)))

theorem m_leX0_4 {A : Nat → Nat} {h : MH} {Q : MR → MH → Prop} (R : Rl A h) (hQ : ∀ m, Fr h m → Q (.inl (some (.int (g_i h (A 15) 6)))) m) : Ok 227 0 [.ref (A 22), .int 0, .int 4, mk0, mk0] [] h 1 9 Q := by
  have R0 := R
  obtain ⟨vk, vcn, v0, v1, v2, vp, vl0, vl1, vlr, vsr, vc, tx⟩ := R0
  have vk0 := vk
  have vcn0 := vcn
  (refine K_el vk0 ?_; intros hA kc0 kc1 kc2 kc3 kc4 kc5 kc6 kc7 kc8 kc9 kc10 kc11 kc12 kc13 kc14 kc15 kc16 kc17 kc18 kc19 kc20 kc21 kc22 kc23 kc24 kc25 kc26 kc27 kc28 kc29 kc30 kc31 kc32 kc33 kc34 kc35 kc36 kc37 kc38 kc39 kz kt kn3 kn4 kn18 kn21 kn23 kn24 kn25 kn26 kn27 kn29 kn30 kr0_0 kr0_1 kr0_2 kr0_3 kr0_4 kr0_5 kr0_7 kr0_8 kr0_9 kr0_10 kr1_0 kr2_0 kr5_0 kr5_1 kr6_0 kr6_1 kr7_0 kr7_1 kr8_0 kr9_0 kr10_0 kr11_0 kr12_0 kr13_0 kr14_0 kr15_0 kr16_0 kr17_0 kr19_0 kr19_1 kr22_0 kr22_1 kr22_2 kr22_3 kr22_4 kr22_5 kr22_7 kr22_8 kr25_0 kr25_1 kr25_2 kr26_0 kr26_1 kr26_2 kr29_0 kr29_1)
  (refine Cn_el vcn0 ?_; intros ki5_2 ki6_2 ki7_2 ki8_1 ki8_2 ki8_3 ki9_1 ki9_2 ki9_3 ki10_1 ki10_2 ki10_3 ki11_1 ki11_2 ki11_3 ki12_1 ki12_2 ki12_3 ki13_1 ki13_2 ki13_3 ki14_1 ki14_2 ki14_3 ki28_0 ki28_1 ki31_0 ki31_1 ki32_0 ki32_1 ki33_0 ki33_1 ki34_0 ki34_1 ki35_0 ki35_1 ki36_0 ki36_1)
  have hAe : ∀ i j, i < 40 → j < 40 → (A i = A j ↔ i = j) := hA
  have hta : ∀ i, i < 40 → (A i = g_t h) = False := fun i hi => eq_false (fun z => by have := kt i hi; omega)
  have hta2 : ∀ i, i < 40 → (g_t h = A i) = False := fun i hi => eq_false (fun z => by have := kt i hi; omega)
  have hzt : g_z h ≤ g_t h := Nat.le_trans (kz 0 (by decide)) (Nat.le_of_lt (kt 0 (by decide)))
  have hl2 := vl0
  obtain ⟨⟨b1, b2, b3, b4, b5, b6⟩, ln⟩ := hl2
  replace b1 := b1.symm
  replace b2 := b2.symm
  replace b3 := b3.symm
  replace b4 := b4.symm
  replace b5 := b5.symm
  replace b6 := b6.symm
  by_cases ps : g_i h (A 15) 3 = 0
  all_goals
    simp only [o227_0, o227_1, o227_4, o227_5, o227_6, o227_7, o227_9, o227_11, o227_12, o227_13, o227_14, o227_17, o227_18, o227_19, o227_20, o227_21, o227_24, o227_25, o227_26, o227_27, o227_28, o227_31, o227_32, o227_33, o227_34, o227_35, o227_38, o227_39, o227_40, o227_41, o227_42, o227_45, o227_46, o227_47, o227_48, o227_49, o227_52, o227_55, o227_56, o227_59, o227_60, o227_61, o227_62, o227_64, o227_65, o227_68, o227_71, o227_72, o227_75, o227_76, o227_77, o227_78, o227_80, o227_81, o227_82, o227_83, o227_85, o227_86, o227_89, o227_92, o227_93, o227_96, o227_97, o227_100, o227_101, o227_103, o227_105, o227_106, o227_107, c_X7_rests, mc_pi, mc_pN, mn_pi, mn_pN, mi_pi, mi_pN, mz_pi, mz_pN, mcs_0, mcs_i, mcs_r, Kn_v, mrf_some, true_and, and_true, and_false, not_true_eq_false, not_false_eq_true, false_implies, forall_const, if_true, if_false, and_self, Nat.reduceEqDiff, Nat.reduceLeDiff, Nat.reduceSub, Nat.reduceAdd, Nat.le_refl, Int32.reduceLT, cl0, cl1, cl2, cl3, cl4, cl5, cl6, cl7, cl8, cl9, Nat.reduceLT, kc22, kc29, kc37, kn29, kr22_7, kr29_0, hta, hzt, vpk, Int32.reduceLT, b1, b2, b3, b4, b5, b6, ps, dv_0] at hQ ⊢
    exact hQ _ (show Fr (h) _ from (Fr_pi (Fr_pi (Fr_pi (Fr_pi (Fr_pi (Fr_pi (Fr_pi (Fr_pi (Fr_pi (Fr_pN Fr_rfl) (Nat.le_refl _)) (Nat.le_refl _)) (Nat.le_refl _)) (Nat.le_refl _)) (Nat.le_refl _)) (Nat.le_refl _)) (Nat.le_refl _)) (Nat.le_refl _)) (Nat.le_refl _)))

theorem m_leX0_5 {A : Nat → Nat} {h : MH} {Q : MR → MH → Prop} (R : Rl A h) (hQ : ∀ m, Fr h m → Q (.inl (some (.int (if g_i h (A 15) 3 = 0 then 0 else 1)))) m) : Ok 227 0 [.ref (A 22), .int 0, .int 5, mk0, mk0] [] h 1 9 Q := by
  have R0 := R
  obtain ⟨vk, vcn, v0, v1, v2, vp, vl0, vl1, vlr, vsr, vc, tx⟩ := R0
  have vk0 := vk
  have vcn0 := vcn
  (refine K_el vk0 ?_; intros hA kc0 kc1 kc2 kc3 kc4 kc5 kc6 kc7 kc8 kc9 kc10 kc11 kc12 kc13 kc14 kc15 kc16 kc17 kc18 kc19 kc20 kc21 kc22 kc23 kc24 kc25 kc26 kc27 kc28 kc29 kc30 kc31 kc32 kc33 kc34 kc35 kc36 kc37 kc38 kc39 kz kt kn3 kn4 kn18 kn21 kn23 kn24 kn25 kn26 kn27 kn29 kn30 kr0_0 kr0_1 kr0_2 kr0_3 kr0_4 kr0_5 kr0_7 kr0_8 kr0_9 kr0_10 kr1_0 kr2_0 kr5_0 kr5_1 kr6_0 kr6_1 kr7_0 kr7_1 kr8_0 kr9_0 kr10_0 kr11_0 kr12_0 kr13_0 kr14_0 kr15_0 kr16_0 kr17_0 kr19_0 kr19_1 kr22_0 kr22_1 kr22_2 kr22_3 kr22_4 kr22_5 kr22_7 kr22_8 kr25_0 kr25_1 kr25_2 kr26_0 kr26_1 kr26_2 kr29_0 kr29_1)
  (refine Cn_el vcn0 ?_; intros ki5_2 ki6_2 ki7_2 ki8_1 ki8_2 ki8_3 ki9_1 ki9_2 ki9_3 ki10_1 ki10_2 ki10_3 ki11_1 ki11_2 ki11_3 ki12_1 ki12_2 ki12_3 ki13_1 ki13_2 ki13_3 ki14_1 ki14_2 ki14_3 ki28_0 ki28_1 ki31_0 ki31_1 ki32_0 ki32_1 ki33_0 ki33_1 ki34_0 ki34_1 ki35_0 ki35_1 ki36_0 ki36_1)
  have hAe : ∀ i j, i < 40 → j < 40 → (A i = A j ↔ i = j) := hA
  have hta : ∀ i, i < 40 → (A i = g_t h) = False := fun i hi => eq_false (fun z => by have := kt i hi; omega)
  have hta2 : ∀ i, i < 40 → (g_t h = A i) = False := fun i hi => eq_false (fun z => by have := kt i hi; omega)
  have hzt : g_z h ≤ g_t h := Nat.le_trans (kz 0 (by decide)) (Nat.le_of_lt (kt 0 (by decide)))
  have hl2 := vl0
  obtain ⟨⟨b1, b2, b3, b4, b5, b6⟩, ln⟩ := hl2
  replace b1 := b1.symm
  replace b2 := b2.symm
  replace b3 := b3.symm
  replace b4 := b4.symm
  replace b5 := b5.symm
  replace b6 := b6.symm
  by_cases ps : g_i h (A 15) 3 = 0
  all_goals
    simp only [o227_0, o227_1, o227_4, o227_5, o227_6, o227_7, o227_9, o227_11, o227_12, o227_13, o227_14, o227_17, o227_18, o227_19, o227_20, o227_21, o227_24, o227_25, o227_26, o227_27, o227_28, o227_31, o227_32, o227_33, o227_34, o227_35, o227_38, o227_39, o227_40, o227_41, o227_42, o227_45, o227_46, o227_47, o227_48, o227_49, o227_52, o227_55, o227_56, o227_59, o227_60, o227_61, o227_62, o227_64, o227_65, o227_68, o227_71, o227_72, o227_75, o227_76, o227_77, o227_78, o227_80, o227_81, o227_82, o227_83, o227_85, o227_86, o227_89, o227_92, o227_93, o227_96, o227_97, o227_100, o227_101, o227_103, o227_105, o227_106, o227_107, c_X7_rests, mc_pi, mc_pN, mn_pi, mn_pN, mi_pi, mi_pN, mz_pi, mz_pN, mcs_0, mcs_i, mcs_r, Kn_v, mrf_some, true_and, and_true, and_false, not_true_eq_false, not_false_eq_true, false_implies, forall_const, if_true, if_false, and_self, Nat.reduceEqDiff, Nat.reduceLeDiff, Nat.reduceSub, Nat.reduceAdd, Nat.le_refl, Int32.reduceLT, cl0, cl1, cl2, cl3, cl4, cl5, cl6, cl7, cl8, cl9, Nat.reduceLT, kc22, kc29, kc37, kn29, kr22_7, kr29_0, hta, hzt, vpk, Int32.reduceLT, b1, b2, b3, b4, b5, b6, ps, dv_0] at hQ ⊢
    exact hQ _ (show Fr (h) _ from (Fr_pi (Fr_pi (Fr_pi (Fr_pi (Fr_pi (Fr_pi (Fr_pi (Fr_pi (Fr_pi (Fr_pN Fr_rfl) (Nat.le_refl _)) (Nat.le_refl _)) (Nat.le_refl _)) (Nat.le_refl _)) (Nat.le_refl _)) (Nat.le_refl _)) (Nat.le_refl _)) (Nat.le_refl _)) (Nat.le_refl _)))

theorem m_leX0_6 {A : Nat → Nat} {h : MH} {Q : MR → MH → Prop} (R : Rl A h) (hQ : ∀ m, Fr h m → Q (.inl (some (.int (if g_i h (A 15) 3 = 0 then 1 else 0)))) m) : Ok 227 0 [.ref (A 22), .int 0, .int 6, mk0, mk0] [] h 1 9 Q := by
  have R0 := R
  obtain ⟨vk, vcn, v0, v1, v2, vp, vl0, vl1, vlr, vsr, vc, tx⟩ := R0
  have vk0 := vk
  have vcn0 := vcn
  (refine K_el vk0 ?_; intros hA kc0 kc1 kc2 kc3 kc4 kc5 kc6 kc7 kc8 kc9 kc10 kc11 kc12 kc13 kc14 kc15 kc16 kc17 kc18 kc19 kc20 kc21 kc22 kc23 kc24 kc25 kc26 kc27 kc28 kc29 kc30 kc31 kc32 kc33 kc34 kc35 kc36 kc37 kc38 kc39 kz kt kn3 kn4 kn18 kn21 kn23 kn24 kn25 kn26 kn27 kn29 kn30 kr0_0 kr0_1 kr0_2 kr0_3 kr0_4 kr0_5 kr0_7 kr0_8 kr0_9 kr0_10 kr1_0 kr2_0 kr5_0 kr5_1 kr6_0 kr6_1 kr7_0 kr7_1 kr8_0 kr9_0 kr10_0 kr11_0 kr12_0 kr13_0 kr14_0 kr15_0 kr16_0 kr17_0 kr19_0 kr19_1 kr22_0 kr22_1 kr22_2 kr22_3 kr22_4 kr22_5 kr22_7 kr22_8 kr25_0 kr25_1 kr25_2 kr26_0 kr26_1 kr26_2 kr29_0 kr29_1)
  (refine Cn_el vcn0 ?_; intros ki5_2 ki6_2 ki7_2 ki8_1 ki8_2 ki8_3 ki9_1 ki9_2 ki9_3 ki10_1 ki10_2 ki10_3 ki11_1 ki11_2 ki11_3 ki12_1 ki12_2 ki12_3 ki13_1 ki13_2 ki13_3 ki14_1 ki14_2 ki14_3 ki28_0 ki28_1 ki31_0 ki31_1 ki32_0 ki32_1 ki33_0 ki33_1 ki34_0 ki34_1 ki35_0 ki35_1 ki36_0 ki36_1)
  have hAe : ∀ i j, i < 40 → j < 40 → (A i = A j ↔ i = j) := hA
  have hta : ∀ i, i < 40 → (A i = g_t h) = False := fun i hi => eq_false (fun z => by have := kt i hi; omega)
  have hta2 : ∀ i, i < 40 → (g_t h = A i) = False := fun i hi => eq_false (fun z => by have := kt i hi; omega)
  have hzt : g_z h ≤ g_t h := Nat.le_trans (kz 0 (by decide)) (Nat.le_of_lt (kt 0 (by decide)))
  have hl2 := vl0
  obtain ⟨⟨b1, b2, b3, b4, b5, b6⟩, ln⟩ := hl2
  replace b1 := b1.symm
  replace b2 := b2.symm
  replace b3 := b3.symm
  replace b4 := b4.symm
  replace b5 := b5.symm
  replace b6 := b6.symm
  by_cases ps : g_i h (A 15) 3 = 0
  all_goals
    simp only [o227_0, o227_1, o227_4, o227_5, o227_6, o227_7, o227_9, o227_11, o227_12, o227_13, o227_14, o227_17, o227_18, o227_19, o227_20, o227_21, o227_24, o227_25, o227_26, o227_27, o227_28, o227_31, o227_32, o227_33, o227_34, o227_35, o227_38, o227_39, o227_40, o227_41, o227_42, o227_45, o227_46, o227_47, o227_48, o227_49, o227_52, o227_55, o227_56, o227_59, o227_60, o227_61, o227_62, o227_64, o227_65, o227_68, o227_71, o227_72, o227_75, o227_76, o227_77, o227_78, o227_80, o227_81, o227_82, o227_83, o227_85, o227_86, o227_89, o227_92, o227_93, o227_96, o227_97, o227_100, o227_101, o227_103, o227_105, o227_106, o227_107, c_X7_rests, mc_pi, mc_pN, mn_pi, mn_pN, mi_pi, mi_pN, mz_pi, mz_pN, mcs_0, mcs_i, mcs_r, Kn_v, mrf_some, true_and, and_true, and_false, not_true_eq_false, not_false_eq_true, false_implies, forall_const, if_true, if_false, and_self, Nat.reduceEqDiff, Nat.reduceLeDiff, Nat.reduceSub, Nat.reduceAdd, Nat.le_refl, Int32.reduceLT, cl0, cl1, cl2, cl3, cl4, cl5, cl6, cl7, cl8, cl9, Nat.reduceLT, kc22, kc29, kc37, kn29, kr22_7, kr29_0, hta, hzt, vpk, Int32.reduceLT, b1, b2, b3, b4, b5, b6, ps, dv_0] at hQ ⊢
    exact hQ _ (show Fr (h) _ from (Fr_pi (Fr_pi (Fr_pi (Fr_pi (Fr_pi (Fr_pi (Fr_pi (Fr_pi (Fr_pi (Fr_pN Fr_rfl) (Nat.le_refl _)) (Nat.le_refl _)) (Nat.le_refl _)) (Nat.le_refl _)) (Nat.le_refl _)) (Nat.le_refl _)) (Nat.le_refl _)) (Nat.le_refl _)) (Nat.le_refl _)))

theorem m_leX0_7 {A : Nat → Nat} {h : MH} {Q : MR → MH → Prop} (R : Rl A h) (hQ : ∀ m, Fr h m → Q (.inl (some (.int (0)))) m) : Ok 227 0 [.ref (A 22), .int 0, .int 7, mk0, mk0] [] h 1 9 Q := by
  have R0 := R
  obtain ⟨vk, vcn, v0, v1, v2, vp, vl0, vl1, vlr, vsr, vc, tx⟩ := R0
  have vk0 := vk
  have vcn0 := vcn
  (refine K_el vk0 ?_; intros hA kc0 kc1 kc2 kc3 kc4 kc5 kc6 kc7 kc8 kc9 kc10 kc11 kc12 kc13 kc14 kc15 kc16 kc17 kc18 kc19 kc20 kc21 kc22 kc23 kc24 kc25 kc26 kc27 kc28 kc29 kc30 kc31 kc32 kc33 kc34 kc35 kc36 kc37 kc38 kc39 kz kt kn3 kn4 kn18 kn21 kn23 kn24 kn25 kn26 kn27 kn29 kn30 kr0_0 kr0_1 kr0_2 kr0_3 kr0_4 kr0_5 kr0_7 kr0_8 kr0_9 kr0_10 kr1_0 kr2_0 kr5_0 kr5_1 kr6_0 kr6_1 kr7_0 kr7_1 kr8_0 kr9_0 kr10_0 kr11_0 kr12_0 kr13_0 kr14_0 kr15_0 kr16_0 kr17_0 kr19_0 kr19_1 kr22_0 kr22_1 kr22_2 kr22_3 kr22_4 kr22_5 kr22_7 kr22_8 kr25_0 kr25_1 kr25_2 kr26_0 kr26_1 kr26_2 kr29_0 kr29_1)
  (refine Cn_el vcn0 ?_; intros ki5_2 ki6_2 ki7_2 ki8_1 ki8_2 ki8_3 ki9_1 ki9_2 ki9_3 ki10_1 ki10_2 ki10_3 ki11_1 ki11_2 ki11_3 ki12_1 ki12_2 ki12_3 ki13_1 ki13_2 ki13_3 ki14_1 ki14_2 ki14_3 ki28_0 ki28_1 ki31_0 ki31_1 ki32_0 ki32_1 ki33_0 ki33_1 ki34_0 ki34_1 ki35_0 ki35_1 ki36_0 ki36_1)
  have hAe : ∀ i j, i < 40 → j < 40 → (A i = A j ↔ i = j) := hA
  have hta : ∀ i, i < 40 → (A i = g_t h) = False := fun i hi => eq_false (fun z => by have := kt i hi; omega)
  have hta2 : ∀ i, i < 40 → (g_t h = A i) = False := fun i hi => eq_false (fun z => by have := kt i hi; omega)
  have hzt : g_z h ≤ g_t h := Nat.le_trans (kz 0 (by decide)) (Nat.le_of_lt (kt 0 (by decide)))
  have hl2 := vl0
  obtain ⟨⟨b1, b2, b3, b4, b5, b6⟩, ln⟩ := hl2
  replace b1 := b1.symm
  replace b2 := b2.symm
  replace b3 := b3.symm
  replace b4 := b4.symm
  replace b5 := b5.symm
  replace b6 := b6.symm
  by_cases ps : g_i h (A 15) 3 = 0
  all_goals
    simp only [o227_0, o227_1, o227_4, o227_5, o227_6, o227_7, o227_9, o227_11, o227_12, o227_13, o227_14, o227_17, o227_18, o227_19, o227_20, o227_21, o227_24, o227_25, o227_26, o227_27, o227_28, o227_31, o227_32, o227_33, o227_34, o227_35, o227_38, o227_39, o227_40, o227_41, o227_42, o227_45, o227_46, o227_47, o227_48, o227_49, o227_52, o227_55, o227_56, o227_59, o227_60, o227_61, o227_62, o227_64, o227_65, o227_68, o227_71, o227_72, o227_75, o227_76, o227_77, o227_78, o227_80, o227_81, o227_82, o227_83, o227_85, o227_86, o227_89, o227_92, o227_93, o227_96, o227_97, o227_100, o227_101, o227_103, o227_105, o227_106, o227_107, c_X7_rests, mc_pi, mc_pN, mn_pi, mn_pN, mi_pi, mi_pN, mz_pi, mz_pN, mcs_0, mcs_i, mcs_r, Kn_v, mrf_some, true_and, and_true, and_false, not_true_eq_false, not_false_eq_true, false_implies, forall_const, if_true, if_false, and_self, Nat.reduceEqDiff, Nat.reduceLeDiff, Nat.reduceSub, Nat.reduceAdd, Nat.le_refl, Int32.reduceLT, cl0, cl1, cl2, cl3, cl4, cl5, cl6, cl7, cl8, cl9, Nat.reduceLT, kc22, kc29, kc37, kn29, kr22_7, kr29_0, hta, hzt, vpk, Int32.reduceLT, b1, b2, b3, b4, b5, b6, ps, dv_0] at hQ ⊢
    exact hQ _ (show Fr (h) _ from (Fr_pi (Fr_pi (Fr_pi (Fr_pi (Fr_pi (Fr_pi (Fr_pi (Fr_pi (Fr_pi (Fr_pN Fr_rfl) (Nat.le_refl _)) (Nat.le_refl _)) (Nat.le_refl _)) (Nat.le_refl _)) (Nat.le_refl _)) (Nat.le_refl _)) (Nat.le_refl _)) (Nat.le_refl _)) (Nat.le_refl _)))

theorem m_leX0_8 {A : Nat → Nat} {h : MH} {Q : MR → MH → Prop} (R : Rl A h) (hQ : ∀ m, Fr h m → Q (.inl (some (.int (if g_i h (A 15) 3 = 0 then g_i h (A 15) 1 else -1)))) m) : Ok 227 0 [.ref (A 22), .int 0, .int 8, mk0, mk0] [] h 1 9 Q := by
  have R0 := R
  obtain ⟨vk, vcn, v0, v1, v2, vp, vl0, vl1, vlr, vsr, vc, tx⟩ := R0
  have vk0 := vk
  have vcn0 := vcn
  (refine K_el vk0 ?_; intros hA kc0 kc1 kc2 kc3 kc4 kc5 kc6 kc7 kc8 kc9 kc10 kc11 kc12 kc13 kc14 kc15 kc16 kc17 kc18 kc19 kc20 kc21 kc22 kc23 kc24 kc25 kc26 kc27 kc28 kc29 kc30 kc31 kc32 kc33 kc34 kc35 kc36 kc37 kc38 kc39 kz kt kn3 kn4 kn18 kn21 kn23 kn24 kn25 kn26 kn27 kn29 kn30 kr0_0 kr0_1 kr0_2 kr0_3 kr0_4 kr0_5 kr0_7 kr0_8 kr0_9 kr0_10 kr1_0 kr2_0 kr5_0 kr5_1 kr6_0 kr6_1 kr7_0 kr7_1 kr8_0 kr9_0 kr10_0 kr11_0 kr12_0 kr13_0 kr14_0 kr15_0 kr16_0 kr17_0 kr19_0 kr19_1 kr22_0 kr22_1 kr22_2 kr22_3 kr22_4 kr22_5 kr22_7 kr22_8 kr25_0 kr25_1 kr25_2 kr26_0 kr26_1 kr26_2 kr29_0 kr29_1)
  (refine Cn_el vcn0 ?_; intros ki5_2 ki6_2 ki7_2 ki8_1 ki8_2 ki8_3 ki9_1 ki9_2 ki9_3 ki10_1 ki10_2 ki10_3 ki11_1 ki11_2 ki11_3 ki12_1 ki12_2 ki12_3 ki13_1 ki13_2 ki13_3 ki14_1 ki14_2 ki14_3 ki28_0 ki28_1 ki31_0 ki31_1 ki32_0 ki32_1 ki33_0 ki33_1 ki34_0 ki34_1 ki35_0 ki35_1 ki36_0 ki36_1)
  have hAe : ∀ i j, i < 40 → j < 40 → (A i = A j ↔ i = j) := hA
  have hta : ∀ i, i < 40 → (A i = g_t h) = False := fun i hi => eq_false (fun z => by have := kt i hi; omega)
  have hta2 : ∀ i, i < 40 → (g_t h = A i) = False := fun i hi => eq_false (fun z => by have := kt i hi; omega)
  have hzt : g_z h ≤ g_t h := Nat.le_trans (kz 0 (by decide)) (Nat.le_of_lt (kt 0 (by decide)))
  have hl2 := vl0
  obtain ⟨⟨b1, b2, b3, b4, b5, b6⟩, ln⟩ := hl2
  replace b1 := b1.symm
  replace b2 := b2.symm
  replace b3 := b3.symm
  replace b4 := b4.symm
  replace b5 := b5.symm
  replace b6 := b6.symm
  by_cases ps : g_i h (A 15) 3 = 0
  all_goals
    simp only [o227_0, o227_1, o227_4, o227_5, o227_6, o227_7, o227_9, o227_11, o227_12, o227_13, o227_14, o227_17, o227_18, o227_19, o227_20, o227_21, o227_24, o227_25, o227_26, o227_27, o227_28, o227_31, o227_32, o227_33, o227_34, o227_35, o227_38, o227_39, o227_40, o227_41, o227_42, o227_45, o227_46, o227_47, o227_48, o227_49, o227_52, o227_55, o227_56, o227_59, o227_60, o227_61, o227_62, o227_64, o227_65, o227_68, o227_71, o227_72, o227_75, o227_76, o227_77, o227_78, o227_80, o227_81, o227_82, o227_83, o227_85, o227_86, o227_89, o227_92, o227_93, o227_96, o227_97, o227_100, o227_101, o227_103, o227_105, o227_106, o227_107, c_X7_rests, mc_pi, mc_pN, mn_pi, mn_pN, mi_pi, mi_pN, mz_pi, mz_pN, mcs_0, mcs_i, mcs_r, Kn_v, mrf_some, true_and, and_true, and_false, not_true_eq_false, not_false_eq_true, false_implies, forall_const, if_true, if_false, and_self, Nat.reduceEqDiff, Nat.reduceLeDiff, Nat.reduceSub, Nat.reduceAdd, Nat.le_refl, Int32.reduceLT, cl0, cl1, cl2, cl3, cl4, cl5, cl6, cl7, cl8, cl9, Nat.reduceLT, kc22, kc29, kc37, kn29, kr22_7, kr29_0, hta, hzt, vpk, Int32.reduceLT, b1, b2, b3, b4, b5, b6, ps, dv_0] at hQ ⊢
    exact hQ _ (show Fr (h) _ from (Fr_pi (Fr_pi (Fr_pi (Fr_pi (Fr_pi (Fr_pi (Fr_pi (Fr_pi (Fr_pi (Fr_pN Fr_rfl) (Nat.le_refl _)) (Nat.le_refl _)) (Nat.le_refl _)) (Nat.le_refl _)) (Nat.le_refl _)) (Nat.le_refl _)) (Nat.le_refl _)) (Nat.le_refl _)) (Nat.le_refl _)))

theorem m_leX1_0 {A : Nat → Nat} {h : MH} {Q : MR → MH → Prop} (R : Rl A h) (hQ : ∀ m, Fr h m → Q (.inl (some (.int (g_i h (A 16) 4)))) m) : Ok 227 0 [.ref (A 22), .int 1, .int 0, mk0, mk0] [] h 1 9 Q := by
  have R0 := R
  obtain ⟨vk, vcn, v0, v1, v2, vp, vl0, vl1, vlr, vsr, vc, tx⟩ := R0
  have vk0 := vk
  have vcn0 := vcn
  (refine K_el vk0 ?_; intros hA kc0 kc1 kc2 kc3 kc4 kc5 kc6 kc7 kc8 kc9 kc10 kc11 kc12 kc13 kc14 kc15 kc16 kc17 kc18 kc19 kc20 kc21 kc22 kc23 kc24 kc25 kc26 kc27 kc28 kc29 kc30 kc31 kc32 kc33 kc34 kc35 kc36 kc37 kc38 kc39 kz kt kn3 kn4 kn18 kn21 kn23 kn24 kn25 kn26 kn27 kn29 kn30 kr0_0 kr0_1 kr0_2 kr0_3 kr0_4 kr0_5 kr0_7 kr0_8 kr0_9 kr0_10 kr1_0 kr2_0 kr5_0 kr5_1 kr6_0 kr6_1 kr7_0 kr7_1 kr8_0 kr9_0 kr10_0 kr11_0 kr12_0 kr13_0 kr14_0 kr15_0 kr16_0 kr17_0 kr19_0 kr19_1 kr22_0 kr22_1 kr22_2 kr22_3 kr22_4 kr22_5 kr22_7 kr22_8 kr25_0 kr25_1 kr25_2 kr26_0 kr26_1 kr26_2 kr29_0 kr29_1)
  (refine Cn_el vcn0 ?_; intros ki5_2 ki6_2 ki7_2 ki8_1 ki8_2 ki8_3 ki9_1 ki9_2 ki9_3 ki10_1 ki10_2 ki10_3 ki11_1 ki11_2 ki11_3 ki12_1 ki12_2 ki12_3 ki13_1 ki13_2 ki13_3 ki14_1 ki14_2 ki14_3 ki28_0 ki28_1 ki31_0 ki31_1 ki32_0 ki32_1 ki33_0 ki33_1 ki34_0 ki34_1 ki35_0 ki35_1 ki36_0 ki36_1)
  have hAe : ∀ i j, i < 40 → j < 40 → (A i = A j ↔ i = j) := hA
  have hta : ∀ i, i < 40 → (A i = g_t h) = False := fun i hi => eq_false (fun z => by have := kt i hi; omega)
  have hta2 : ∀ i, i < 40 → (g_t h = A i) = False := fun i hi => eq_false (fun z => by have := kt i hi; omega)
  have hzt : g_z h ≤ g_t h := Nat.le_trans (kz 0 (by decide)) (Nat.le_of_lt (kt 0 (by decide)))
  have hl2 := vl1
  obtain ⟨⟨b1, b2, b3, b4, b5, b6⟩, ln⟩ := hl2
  replace b1 := b1.symm
  replace b2 := b2.symm
  replace b3 := b3.symm
  replace b4 := b4.symm
  replace b5 := b5.symm
  replace b6 := b6.symm
  by_cases ps : g_i h (A 16) 3 = 0
  all_goals
    simp only [o227_0, o227_1, o227_4, o227_5, o227_6, o227_7, o227_9, o227_11, o227_12, o227_13, o227_14, o227_17, o227_18, o227_19, o227_20, o227_21, o227_24, o227_25, o227_26, o227_27, o227_28, o227_31, o227_32, o227_33, o227_34, o227_35, o227_38, o227_39, o227_40, o227_41, o227_42, o227_45, o227_46, o227_47, o227_48, o227_49, o227_52, o227_55, o227_56, o227_59, o227_60, o227_61, o227_62, o227_64, o227_65, o227_68, o227_71, o227_72, o227_75, o227_76, o227_77, o227_78, o227_80, o227_81, o227_82, o227_83, o227_85, o227_86, o227_89, o227_92, o227_93, o227_96, o227_97, o227_100, o227_101, o227_103, o227_105, o227_106, o227_107, c_X7_rests, mc_pi, mc_pN, mn_pi, mn_pN, mi_pi, mi_pN, mz_pi, mz_pN, mcs_0, mcs_i, mcs_r, Kn_v, mrf_some, true_and, and_true, and_false, not_true_eq_false, not_false_eq_true, false_implies, forall_const, if_true, if_false, and_self, Nat.reduceEqDiff, Nat.reduceLeDiff, Nat.reduceSub, Nat.reduceAdd, Nat.le_refl, Int32.reduceLT, cl0, cl1, cl2, cl3, cl4, cl5, cl6, cl7, cl8, cl9, Nat.reduceLT, kc22, kc29, kc38, kn29, kr22_7, kr29_1, hta, hzt, vpk, Int32.reduceLT, b1, b2, b3, b4, b5, b6, ps, dv_1] at hQ ⊢
    exact hQ _ (show Fr (h) _ from (Fr_pi (Fr_pi (Fr_pi (Fr_pi (Fr_pi (Fr_pi (Fr_pi (Fr_pi (Fr_pi (Fr_pN Fr_rfl) (Nat.le_refl _)) (Nat.le_refl _)) (Nat.le_refl _)) (Nat.le_refl _)) (Nat.le_refl _)) (Nat.le_refl _)) (Nat.le_refl _)) (Nat.le_refl _)) (Nat.le_refl _)))

theorem m_leX1_1 {A : Nat → Nat} {h : MH} {Q : MR → MH → Prop} (R : Rl A h) (hQ : ∀ m, Fr h m → Q (.inl (some (.int (g_i h (A 16) 5)))) m) : Ok 227 0 [.ref (A 22), .int 1, .int 1, mk0, mk0] [] h 1 9 Q := by
  have R0 := R
  obtain ⟨vk, vcn, v0, v1, v2, vp, vl0, vl1, vlr, vsr, vc, tx⟩ := R0
  have vk0 := vk
  have vcn0 := vcn
  (refine K_el vk0 ?_; intros hA kc0 kc1 kc2 kc3 kc4 kc5 kc6 kc7 kc8 kc9 kc10 kc11 kc12 kc13 kc14 kc15 kc16 kc17 kc18 kc19 kc20 kc21 kc22 kc23 kc24 kc25 kc26 kc27 kc28 kc29 kc30 kc31 kc32 kc33 kc34 kc35 kc36 kc37 kc38 kc39 kz kt kn3 kn4 kn18 kn21 kn23 kn24 kn25 kn26 kn27 kn29 kn30 kr0_0 kr0_1 kr0_2 kr0_3 kr0_4 kr0_5 kr0_7 kr0_8 kr0_9 kr0_10 kr1_0 kr2_0 kr5_0 kr5_1 kr6_0 kr6_1 kr7_0 kr7_1 kr8_0 kr9_0 kr10_0 kr11_0 kr12_0 kr13_0 kr14_0 kr15_0 kr16_0 kr17_0 kr19_0 kr19_1 kr22_0 kr22_1 kr22_2 kr22_3 kr22_4 kr22_5 kr22_7 kr22_8 kr25_0 kr25_1 kr25_2 kr26_0 kr26_1 kr26_2 kr29_0 kr29_1)
  (refine Cn_el vcn0 ?_; intros ki5_2 ki6_2 ki7_2 ki8_1 ki8_2 ki8_3 ki9_1 ki9_2 ki9_3 ki10_1 ki10_2 ki10_3 ki11_1 ki11_2 ki11_3 ki12_1 ki12_2 ki12_3 ki13_1 ki13_2 ki13_3 ki14_1 ki14_2 ki14_3 ki28_0 ki28_1 ki31_0 ki31_1 ki32_0 ki32_1 ki33_0 ki33_1 ki34_0 ki34_1 ki35_0 ki35_1 ki36_0 ki36_1)
  have hAe : ∀ i j, i < 40 → j < 40 → (A i = A j ↔ i = j) := hA
  have hta : ∀ i, i < 40 → (A i = g_t h) = False := fun i hi => eq_false (fun z => by have := kt i hi; omega)
  have hta2 : ∀ i, i < 40 → (g_t h = A i) = False := fun i hi => eq_false (fun z => by have := kt i hi; omega)
  have hzt : g_z h ≤ g_t h := Nat.le_trans (kz 0 (by decide)) (Nat.le_of_lt (kt 0 (by decide)))
  have hl2 := vl1
  obtain ⟨⟨b1, b2, b3, b4, b5, b6⟩, ln⟩ := hl2
  replace b1 := b1.symm
  replace b2 := b2.symm
  replace b3 := b3.symm
  replace b4 := b4.symm
  replace b5 := b5.symm
  replace b6 := b6.symm
  by_cases ps : g_i h (A 16) 3 = 0
  all_goals
    simp only [o227_0, o227_1, o227_4, o227_5, o227_6, o227_7, o227_9, o227_11, o227_12, o227_13, o227_14, o227_17, o227_18, o227_19, o227_20, o227_21, o227_24, o227_25, o227_26, o227_27, o227_28, o227_31, o227_32, o227_33, o227_34, o227_35, o227_38, o227_39, o227_40, o227_41, o227_42, o227_45, o227_46, o227_47, o227_48, o227_49, o227_52, o227_55, o227_56, o227_59, o227_60, o227_61, o227_62, o227_64, o227_65, o227_68, o227_71, o227_72, o227_75, o227_76, o227_77, o227_78, o227_80, o227_81, o227_82, o227_83, o227_85, o227_86, o227_89, o227_92, o227_93, o227_96, o227_97, o227_100, o227_101, o227_103, o227_105, o227_106, o227_107, c_X7_rests, mc_pi, mc_pN, mn_pi, mn_pN, mi_pi, mi_pN, mz_pi, mz_pN, mcs_0, mcs_i, mcs_r, Kn_v, mrf_some, true_and, and_true, and_false, not_true_eq_false, not_false_eq_true, false_implies, forall_const, if_true, if_false, and_self, Nat.reduceEqDiff, Nat.reduceLeDiff, Nat.reduceSub, Nat.reduceAdd, Nat.le_refl, Int32.reduceLT, cl0, cl1, cl2, cl3, cl4, cl5, cl6, cl7, cl8, cl9, Nat.reduceLT, kc22, kc29, kc38, kn29, kr22_7, kr29_1, hta, hzt, vpk, Int32.reduceLT, b1, b2, b3, b4, b5, b6, ps, dv_1] at hQ ⊢
    exact hQ _ (show Fr (h) _ from (Fr_pi (Fr_pi (Fr_pi (Fr_pi (Fr_pi (Fr_pi (Fr_pi (Fr_pi (Fr_pi (Fr_pN Fr_rfl) (Nat.le_refl _)) (Nat.le_refl _)) (Nat.le_refl _)) (Nat.le_refl _)) (Nat.le_refl _)) (Nat.le_refl _)) (Nat.le_refl _)) (Nat.le_refl _)) (Nat.le_refl _)))

theorem m_leX1_2 {A : Nat → Nat} {h : MH} {Q : MR → MH → Prop} (R : Rl A h) (hQ : ∀ m, Fr h m → Q (.inl (some (.int (g_i h (A 16) 2)))) m) : Ok 227 0 [.ref (A 22), .int 1, .int 2, mk0, mk0] [] h 1 9 Q := by
  have R0 := R
  obtain ⟨vk, vcn, v0, v1, v2, vp, vl0, vl1, vlr, vsr, vc, tx⟩ := R0
  have vk0 := vk
  have vcn0 := vcn
  (refine K_el vk0 ?_; intros hA kc0 kc1 kc2 kc3 kc4 kc5 kc6 kc7 kc8 kc9 kc10 kc11 kc12 kc13 kc14 kc15 kc16 kc17 kc18 kc19 kc20 kc21 kc22 kc23 kc24 kc25 kc26 kc27 kc28 kc29 kc30 kc31 kc32 kc33 kc34 kc35 kc36 kc37 kc38 kc39 kz kt kn3 kn4 kn18 kn21 kn23 kn24 kn25 kn26 kn27 kn29 kn30 kr0_0 kr0_1 kr0_2 kr0_3 kr0_4 kr0_5 kr0_7 kr0_8 kr0_9 kr0_10 kr1_0 kr2_0 kr5_0 kr5_1 kr6_0 kr6_1 kr7_0 kr7_1 kr8_0 kr9_0 kr10_0 kr11_0 kr12_0 kr13_0 kr14_0 kr15_0 kr16_0 kr17_0 kr19_0 kr19_1 kr22_0 kr22_1 kr22_2 kr22_3 kr22_4 kr22_5 kr22_7 kr22_8 kr25_0 kr25_1 kr25_2 kr26_0 kr26_1 kr26_2 kr29_0 kr29_1)
  (refine Cn_el vcn0 ?_; intros ki5_2 ki6_2 ki7_2 ki8_1 ki8_2 ki8_3 ki9_1 ki9_2 ki9_3 ki10_1 ki10_2 ki10_3 ki11_1 ki11_2 ki11_3 ki12_1 ki12_2 ki12_3 ki13_1 ki13_2 ki13_3 ki14_1 ki14_2 ki14_3 ki28_0 ki28_1 ki31_0 ki31_1 ki32_0 ki32_1 ki33_0 ki33_1 ki34_0 ki34_1 ki35_0 ki35_1 ki36_0 ki36_1)
  have hAe : ∀ i j, i < 40 → j < 40 → (A i = A j ↔ i = j) := hA
  have hta : ∀ i, i < 40 → (A i = g_t h) = False := fun i hi => eq_false (fun z => by have := kt i hi; omega)
  have hta2 : ∀ i, i < 40 → (g_t h = A i) = False := fun i hi => eq_false (fun z => by have := kt i hi; omega)
  have hzt : g_z h ≤ g_t h := Nat.le_trans (kz 0 (by decide)) (Nat.le_of_lt (kt 0 (by decide)))
  have hl2 := vl1
  obtain ⟨⟨b1, b2, b3, b4, b5, b6⟩, ln⟩ := hl2
  replace b1 := b1.symm
  replace b2 := b2.symm
  replace b3 := b3.symm
  replace b4 := b4.symm
  replace b5 := b5.symm
  replace b6 := b6.symm
  by_cases ps : g_i h (A 16) 3 = 0
  all_goals
    simp only [o227_0, o227_1, o227_4, o227_5, o227_6, o227_7, o227_9, o227_11, o227_12, o227_13, o227_14, o227_17, o227_18, o227_19, o227_20, o227_21, o227_24, o227_25, o227_26, o227_27, o227_28, o227_31, o227_32, o227_33, o227_34, o227_35, o227_38, o227_39, o227_40, o227_41, o227_42, o227_45, o227_46, o227_47, o227_48, o227_49, o227_52, o227_55, o227_56, o227_59, o227_60, o227_61, o227_62, o227_64, o227_65, o227_68, o227_71, o227_72, o227_75, o227_76, o227_77, o227_78, o227_80, o227_81, o227_82, o227_83, o227_85, o227_86, o227_89, o227_92, o227_93, o227_96, o227_97, o227_100, o227_101, o227_103, o227_105, o227_106, o227_107, c_X7_rests, mc_pi, mc_pN, mn_pi, mn_pN, mi_pi, mi_pN, mz_pi, mz_pN, mcs_0, mcs_i, mcs_r, Kn_v, mrf_some, true_and, and_true, and_false, not_true_eq_false, not_false_eq_true, false_implies, forall_const, if_true, if_false, and_self, Nat.reduceEqDiff, Nat.reduceLeDiff, Nat.reduceSub, Nat.reduceAdd, Nat.le_refl, Int32.reduceLT, cl0, cl1, cl2, cl3, cl4, cl5, cl6, cl7, cl8, cl9, Nat.reduceLT, kc22, kc29, kc38, kn29, kr22_7, kr29_1, hta, hzt, vpk, Int32.reduceLT, b1, b2, b3, b4, b5, b6, ps, dv_1] at hQ ⊢
    exact hQ _ (show Fr (h) _ from (Fr_pi (Fr_pi (Fr_pi (Fr_pi (Fr_pi (Fr_pi (Fr_pi (Fr_pi (Fr_pi (Fr_pN Fr_rfl) (Nat.le_refl _)) (Nat.le_refl _)) (Nat.le_refl _)) (Nat.le_refl _)) (Nat.le_refl _)) (Nat.le_refl _)) (Nat.le_refl _)) (Nat.le_refl _)) (Nat.le_refl _)))

theorem m_leX1_3 {A : Nat → Nat} {h : MH} {Q : MR → MH → Prop} (R : Rl A h) (hQ : ∀ m, Fr h m → Q (.inl (some (.int (g_i h (A 16) 5 - g_i h (A 16) 4)))) m) : Ok 227 0 [.ref (A 22), .int 1, .int 3, mk0, mk0] [] h 1 9 Q := by
  have R0 := R
  obtain ⟨vk, vcn, v0, v1, v2, vp, vl0, vl1, vlr, vsr, vc, tx⟩ := R0
  have vk0 := vk
  have vcn0 := vcn
  (refine K_el vk0 ?_; intros hA kc0 kc1 kc2 kc3 kc4 kc5 kc6 kc7 kc8 kc9 kc10 kc11 kc12 kc13 kc14 kc15 kc16 kc17 kc18 kc19 kc20 kc21 kc22 kc23 kc24 kc25 kc26 kc27 kc28 kc29 kc30 kc31 kc32 kc33 kc34 kc35 kc36 kc37 kc38 kc39 kz kt kn3 kn4 kn18 kn21 kn23 kn24 kn25 kn26 kn27 kn29 kn30 kr0_0 kr0_1 kr0_2 kr0_3 kr0_4 kr0_5 kr0_7 kr0_8 kr0_9 kr0_10 kr1_0 kr2_0 kr5_0 kr5_1 kr6_0 kr6_1 kr7_0 kr7_1 kr8_0 kr9_0 kr10_0 kr11_0 kr12_0 kr13_0 kr14_0 kr15_0 kr16_0 kr17_0 kr19_0 kr19_1 kr22_0 kr22_1 kr22_2 kr22_3 kr22_4 kr22_5 kr22_7 kr22_8 kr25_0 kr25_1 kr25_2 kr26_0 kr26_1 kr26_2 kr29_0 kr29_1)
  (refine Cn_el vcn0 ?_; intros ki5_2 ki6_2 ki7_2 ki8_1 ki8_2 ki8_3 ki9_1 ki9_2 ki9_3 ki10_1 ki10_2 ki10_3 ki11_1 ki11_2 ki11_3 ki12_1 ki12_2 ki12_3 ki13_1 ki13_2 ki13_3 ki14_1 ki14_2 ki14_3 ki28_0 ki28_1 ki31_0 ki31_1 ki32_0 ki32_1 ki33_0 ki33_1 ki34_0 ki34_1 ki35_0 ki35_1 ki36_0 ki36_1)
  have hAe : ∀ i j, i < 40 → j < 40 → (A i = A j ↔ i = j) := hA
  have hta : ∀ i, i < 40 → (A i = g_t h) = False := fun i hi => eq_false (fun z => by have := kt i hi; omega)
  have hta2 : ∀ i, i < 40 → (g_t h = A i) = False := fun i hi => eq_false (fun z => by have := kt i hi; omega)
  have hzt : g_z h ≤ g_t h := Nat.le_trans (kz 0 (by decide)) (Nat.le_of_lt (kt 0 (by decide)))
  have hl2 := vl1
  obtain ⟨⟨b1, b2, b3, b4, b5, b6⟩, ln⟩ := hl2
  replace b1 := b1.symm
  replace b2 := b2.symm
  replace b3 := b3.symm
  replace b4 := b4.symm
  replace b5 := b5.symm
  replace b6 := b6.symm
  by_cases ps : g_i h (A 16) 3 = 0
  all_goals
    simp only [o227_0, o227_1, o227_4, o227_5, o227_6, o227_7, o227_9, o227_11, o227_12, o227_13, o227_14, o227_17, o227_18, o227_19, o227_20, o227_21, o227_24, o227_25, o227_26, o227_27, o227_28, o227_31, o227_32, o227_33, o227_34, o227_35, o227_38, o227_39, o227_40, o227_41, o227_42, o227_45, o227_46, o227_47, o227_48, o227_49, o227_52, o227_55, o227_56, o227_59, o227_60, o227_61, o227_62, o227_64, o227_65, o227_68, o227_71, o227_72, o227_75, o227_76, o227_77, o227_78, o227_80, o227_81, o227_82, o227_83, o227_85, o227_86, o227_89, o227_92, o227_93, o227_96, o227_97, o227_100, o227_101, o227_103, o227_105, o227_106, o227_107, c_X7_rests, mc_pi, mc_pN, mn_pi, mn_pN, mi_pi, mi_pN, mz_pi, mz_pN, mcs_0, mcs_i, mcs_r, Kn_v, mrf_some, true_and, and_true, and_false, not_true_eq_false, not_false_eq_true, false_implies, forall_const, if_true, if_false, and_self, Nat.reduceEqDiff, Nat.reduceLeDiff, Nat.reduceSub, Nat.reduceAdd, Nat.le_refl, Int32.reduceLT, cl0, cl1, cl2, cl3, cl4, cl5, cl6, cl7, cl8, cl9, Nat.reduceLT, kc22, kc29, kc38, kn29, kr22_7, kr29_1, hta, hzt, vpk, Int32.reduceLT, b1, b2, b3, b4, b5, b6, ps, dv_1] at hQ ⊢
    exact hQ _ (show Fr (h) _ from (Fr_pi (Fr_pi (Fr_pi (Fr_pi (Fr_pi (Fr_pi (Fr_pi (Fr_pi (Fr_pi (Fr_pN Fr_rfl) (Nat.le_refl _)) (Nat.le_refl _)) (Nat.le_refl _)) (Nat.le_refl _)) (Nat.le_refl _)) (Nat.le_refl _)) (Nat.le_refl _)) (Nat.le_refl _)) (Nat.le_refl _)))

theorem m_leX1_4 {A : Nat → Nat} {h : MH} {Q : MR → MH → Prop} (R : Rl A h) (hQ : ∀ m, Fr h m → Q (.inl (some (.int (g_i h (A 16) 6)))) m) : Ok 227 0 [.ref (A 22), .int 1, .int 4, mk0, mk0] [] h 1 9 Q := by
  have R0 := R
  obtain ⟨vk, vcn, v0, v1, v2, vp, vl0, vl1, vlr, vsr, vc, tx⟩ := R0
  have vk0 := vk
  have vcn0 := vcn
  (refine K_el vk0 ?_; intros hA kc0 kc1 kc2 kc3 kc4 kc5 kc6 kc7 kc8 kc9 kc10 kc11 kc12 kc13 kc14 kc15 kc16 kc17 kc18 kc19 kc20 kc21 kc22 kc23 kc24 kc25 kc26 kc27 kc28 kc29 kc30 kc31 kc32 kc33 kc34 kc35 kc36 kc37 kc38 kc39 kz kt kn3 kn4 kn18 kn21 kn23 kn24 kn25 kn26 kn27 kn29 kn30 kr0_0 kr0_1 kr0_2 kr0_3 kr0_4 kr0_5 kr0_7 kr0_8 kr0_9 kr0_10 kr1_0 kr2_0 kr5_0 kr5_1 kr6_0 kr6_1 kr7_0 kr7_1 kr8_0 kr9_0 kr10_0 kr11_0 kr12_0 kr13_0 kr14_0 kr15_0 kr16_0 kr17_0 kr19_0 kr19_1 kr22_0 kr22_1 kr22_2 kr22_3 kr22_4 kr22_5 kr22_7 kr22_8 kr25_0 kr25_1 kr25_2 kr26_0 kr26_1 kr26_2 kr29_0 kr29_1)
  (refine Cn_el vcn0 ?_; intros ki5_2 ki6_2 ki7_2 ki8_1 ki8_2 ki8_3 ki9_1 ki9_2 ki9_3 ki10_1 ki10_2 ki10_3 ki11_1 ki11_2 ki11_3 ki12_1 ki12_2 ki12_3 ki13_1 ki13_2 ki13_3 ki14_1 ki14_2 ki14_3 ki28_0 ki28_1 ki31_0 ki31_1 ki32_0 ki32_1 ki33_0 ki33_1 ki34_0 ki34_1 ki35_0 ki35_1 ki36_0 ki36_1)
  have hAe : ∀ i j, i < 40 → j < 40 → (A i = A j ↔ i = j) := hA
  have hta : ∀ i, i < 40 → (A i = g_t h) = False := fun i hi => eq_false (fun z => by have := kt i hi; omega)
  have hta2 : ∀ i, i < 40 → (g_t h = A i) = False := fun i hi => eq_false (fun z => by have := kt i hi; omega)
  have hzt : g_z h ≤ g_t h := Nat.le_trans (kz 0 (by decide)) (Nat.le_of_lt (kt 0 (by decide)))
  have hl2 := vl1
  obtain ⟨⟨b1, b2, b3, b4, b5, b6⟩, ln⟩ := hl2
  replace b1 := b1.symm
  replace b2 := b2.symm
  replace b3 := b3.symm
  replace b4 := b4.symm
  replace b5 := b5.symm
  replace b6 := b6.symm
  by_cases ps : g_i h (A 16) 3 = 0
  all_goals
    simp only [o227_0, o227_1, o227_4, o227_5, o227_6, o227_7, o227_9, o227_11, o227_12, o227_13, o227_14, o227_17, o227_18, o227_19, o227_20, o227_21, o227_24, o227_25, o227_26, o227_27, o227_28, o227_31, o227_32, o227_33, o227_34, o227_35, o227_38, o227_39, o227_40, o227_41, o227_42, o227_45, o227_46, o227_47, o227_48, o227_49, o227_52, o227_55, o227_56, o227_59, o227_60, o227_61, o227_62, o227_64, o227_65, o227_68, o227_71, o227_72, o227_75, o227_76, o227_77, o227_78, o227_80, o227_81, o227_82, o227_83, o227_85, o227_86, o227_89, o227_92, o227_93, o227_96, o227_97, o227_100, o227_101, o227_103, o227_105, o227_106, o227_107, c_X7_rests, mc_pi, mc_pN, mn_pi, mn_pN, mi_pi, mi_pN, mz_pi, mz_pN, mcs_0, mcs_i, mcs_r, Kn_v, mrf_some, true_and, and_true, and_false, not_true_eq_false, not_false_eq_true, false_implies, forall_const, if_true, if_false, and_self, Nat.reduceEqDiff, Nat.reduceLeDiff, Nat.reduceSub, Nat.reduceAdd, Nat.le_refl, Int32.reduceLT, cl0, cl1, cl2, cl3, cl4, cl5, cl6, cl7, cl8, cl9, Nat.reduceLT, kc22, kc29, kc38, kn29, kr22_7, kr29_1, hta, hzt, vpk, Int32.reduceLT, b1, b2, b3, b4, b5, b6, ps, dv_1] at hQ ⊢
    exact hQ _ (show Fr (h) _ from (Fr_pi (Fr_pi (Fr_pi (Fr_pi (Fr_pi (Fr_pi (Fr_pi (Fr_pi (Fr_pi (Fr_pN Fr_rfl) (Nat.le_refl _)) (Nat.le_refl _)) (Nat.le_refl _)) (Nat.le_refl _)) (Nat.le_refl _)) (Nat.le_refl _)) (Nat.le_refl _)) (Nat.le_refl _)) (Nat.le_refl _)))

theorem m_leX1_5 {A : Nat → Nat} {h : MH} {Q : MR → MH → Prop} (R : Rl A h) (hQ : ∀ m, Fr h m → Q (.inl (some (.int (if g_i h (A 16) 3 = 0 then 0 else 1)))) m) : Ok 227 0 [.ref (A 22), .int 1, .int 5, mk0, mk0] [] h 1 9 Q := by
  have R0 := R
  obtain ⟨vk, vcn, v0, v1, v2, vp, vl0, vl1, vlr, vsr, vc, tx⟩ := R0
  have vk0 := vk
  have vcn0 := vcn
  (refine K_el vk0 ?_; intros hA kc0 kc1 kc2 kc3 kc4 kc5 kc6 kc7 kc8 kc9 kc10 kc11 kc12 kc13 kc14 kc15 kc16 kc17 kc18 kc19 kc20 kc21 kc22 kc23 kc24 kc25 kc26 kc27 kc28 kc29 kc30 kc31 kc32 kc33 kc34 kc35 kc36 kc37 kc38 kc39 kz kt kn3 kn4 kn18 kn21 kn23 kn24 kn25 kn26 kn27 kn29 kn30 kr0_0 kr0_1 kr0_2 kr0_3 kr0_4 kr0_5 kr0_7 kr0_8 kr0_9 kr0_10 kr1_0 kr2_0 kr5_0 kr5_1 kr6_0 kr6_1 kr7_0 kr7_1 kr8_0 kr9_0 kr10_0 kr11_0 kr12_0 kr13_0 kr14_0 kr15_0 kr16_0 kr17_0 kr19_0 kr19_1 kr22_0 kr22_1 kr22_2 kr22_3 kr22_4 kr22_5 kr22_7 kr22_8 kr25_0 kr25_1 kr25_2 kr26_0 kr26_1 kr26_2 kr29_0 kr29_1)
  (refine Cn_el vcn0 ?_; intros ki5_2 ki6_2 ki7_2 ki8_1 ki8_2 ki8_3 ki9_1 ki9_2 ki9_3 ki10_1 ki10_2 ki10_3 ki11_1 ki11_2 ki11_3 ki12_1 ki12_2 ki12_3 ki13_1 ki13_2 ki13_3 ki14_1 ki14_2 ki14_3 ki28_0 ki28_1 ki31_0 ki31_1 ki32_0 ki32_1 ki33_0 ki33_1 ki34_0 ki34_1 ki35_0 ki35_1 ki36_0 ki36_1)
  have hAe : ∀ i j, i < 40 → j < 40 → (A i = A j ↔ i = j) := hA
  have hta : ∀ i, i < 40 → (A i = g_t h) = False := fun i hi => eq_false (fun z => by have := kt i hi; omega)
  have hta2 : ∀ i, i < 40 → (g_t h = A i) = False := fun i hi => eq_false (fun z => by have := kt i hi; omega)
  have hzt : g_z h ≤ g_t h := Nat.le_trans (kz 0 (by decide)) (Nat.le_of_lt (kt 0 (by decide)))
  have hl2 := vl1
  obtain ⟨⟨b1, b2, b3, b4, b5, b6⟩, ln⟩ := hl2
  replace b1 := b1.symm
  replace b2 := b2.symm
  replace b3 := b3.symm
  replace b4 := b4.symm
  replace b5 := b5.symm
  replace b6 := b6.symm
  by_cases ps : g_i h (A 16) 3 = 0
  all_goals
    simp only [o227_0, o227_1, o227_4, o227_5, o227_6, o227_7, o227_9, o227_11, o227_12, o227_13, o227_14, o227_17, o227_18, o227_19, o227_20, o227_21, o227_24, o227_25, o227_26, o227_27, o227_28, o227_31, o227_32, o227_33, o227_34, o227_35, o227_38, o227_39, o227_40, o227_41, o227_42, o227_45, o227_46, o227_47, o227_48, o227_49, o227_52, o227_55, o227_56, o227_59, o227_60, o227_61, o227_62, o227_64, o227_65, o227_68, o227_71, o227_72, o227_75, o227_76, o227_77, o227_78, o227_80, o227_81, o227_82, o227_83, o227_85, o227_86, o227_89, o227_92, o227_93, o227_96, o227_97, o227_100, o227_101, o227_103, o227_105, o227_106, o227_107, c_X7_rests, mc_pi, mc_pN, mn_pi, mn_pN, mi_pi, mi_pN, mz_pi, mz_pN, mcs_0, mcs_i, mcs_r, Kn_v, mrf_some, true_and, and_true, and_false, not_true_eq_false, not_false_eq_true, false_implies, forall_const, if_true, if_false, and_self, Nat.reduceEqDiff, Nat.reduceLeDiff, Nat.reduceSub, Nat.reduceAdd, Nat.le_refl, Int32.reduceLT, cl0, cl1, cl2, cl3, cl4, cl5, cl6, cl7, cl8, cl9, Nat.reduceLT, kc22, kc29, kc38, kn29, kr22_7, kr29_1, hta, hzt, vpk, Int32.reduceLT, b1, b2, b3, b4, b5, b6, ps, dv_1] at hQ ⊢
    exact hQ _ (show Fr (h) _ from (Fr_pi (Fr_pi (Fr_pi (Fr_pi (Fr_pi (Fr_pi (Fr_pi (Fr_pi (Fr_pi (Fr_pN Fr_rfl) (Nat.le_refl _)) (Nat.le_refl _)) (Nat.le_refl _)) (Nat.le_refl _)) (Nat.le_refl _)) (Nat.le_refl _)) (Nat.le_refl _)) (Nat.le_refl _)) (Nat.le_refl _)))

theorem m_leX1_6 {A : Nat → Nat} {h : MH} {Q : MR → MH → Prop} (R : Rl A h) (hQ : ∀ m, Fr h m → Q (.inl (some (.int (if g_i h (A 16) 3 = 0 then 1 else 0)))) m) : Ok 227 0 [.ref (A 22), .int 1, .int 6, mk0, mk0] [] h 1 9 Q := by
  have R0 := R
  obtain ⟨vk, vcn, v0, v1, v2, vp, vl0, vl1, vlr, vsr, vc, tx⟩ := R0
  have vk0 := vk
  have vcn0 := vcn
  (refine K_el vk0 ?_; intros hA kc0 kc1 kc2 kc3 kc4 kc5 kc6 kc7 kc8 kc9 kc10 kc11 kc12 kc13 kc14 kc15 kc16 kc17 kc18 kc19 kc20 kc21 kc22 kc23 kc24 kc25 kc26 kc27 kc28 kc29 kc30 kc31 kc32 kc33 kc34 kc35 kc36 kc37 kc38 kc39 kz kt kn3 kn4 kn18 kn21 kn23 kn24 kn25 kn26 kn27 kn29 kn30 kr0_0 kr0_1 kr0_2 kr0_3 kr0_4 kr0_5 kr0_7 kr0_8 kr0_9 kr0_10 kr1_0 kr2_0 kr5_0 kr5_1 kr6_0 kr6_1 kr7_0 kr7_1 kr8_0 kr9_0 kr10_0 kr11_0 kr12_0 kr13_0 kr14_0 kr15_0 kr16_0 kr17_0 kr19_0 kr19_1 kr22_0 kr22_1 kr22_2 kr22_3 kr22_4 kr22_5 kr22_7 kr22_8 kr25_0 kr25_1 kr25_2 kr26_0 kr26_1 kr26_2 kr29_0 kr29_1)
  (refine Cn_el vcn0 ?_; intros ki5_2 ki6_2 ki7_2 ki8_1 ki8_2 ki8_3 ki9_1 ki9_2 ki9_3 ki10_1 ki10_2 ki10_3 ki11_1 ki11_2 ki11_3 ki12_1 ki12_2 ki12_3 ki13_1 ki13_2 ki13_3 ki14_1 ki14_2 ki14_3 ki28_0 ki28_1 ki31_0 ki31_1 ki32_0 ki32_1 ki33_0 ki33_1 ki34_0 ki34_1 ki35_0 ki35_1 ki36_0 ki36_1)
  have hAe : ∀ i j, i < 40 → j < 40 → (A i = A j ↔ i = j) := hA
  have hta : ∀ i, i < 40 → (A i = g_t h) = False := fun i hi => eq_false (fun z => by have := kt i hi; omega)
  have hta2 : ∀ i, i < 40 → (g_t h = A i) = False := fun i hi => eq_false (fun z => by have := kt i hi; omega)
  have hzt : g_z h ≤ g_t h := Nat.le_trans (kz 0 (by decide)) (Nat.le_of_lt (kt 0 (by decide)))
  have hl2 := vl1
  obtain ⟨⟨b1, b2, b3, b4, b5, b6⟩, ln⟩ := hl2
  replace b1 := b1.symm
  replace b2 := b2.symm
  replace b3 := b3.symm
  replace b4 := b4.symm
  replace b5 := b5.symm
  replace b6 := b6.symm
  by_cases ps : g_i h (A 16) 3 = 0
  all_goals
    simp only [o227_0, o227_1, o227_4, o227_5, o227_6, o227_7, o227_9, o227_11, o227_12, o227_13, o227_14, o227_17, o227_18, o227_19, o227_20, o227_21, o227_24, o227_25, o227_26, o227_27, o227_28, o227_31, o227_32, o227_33, o227_34, o227_35, o227_38, o227_39, o227_40, o227_41, o227_42, o227_45, o227_46, o227_47, o227_48, o227_49, o227_52, o227_55, o227_56, o227_59, o227_60, o227_61, o227_62, o227_64, o227_65, o227_68, o227_71, o227_72, o227_75, o227_76, o227_77, o227_78, o227_80, o227_81, o227_82, o227_83, o227_85, o227_86, o227_89, o227_92, o227_93, o227_96, o227_97, o227_100, o227_101, o227_103, o227_105, o227_106, o227_107, c_X7_rests, mc_pi, mc_pN, mn_pi, mn_pN, mi_pi, mi_pN, mz_pi, mz_pN, mcs_0, mcs_i, mcs_r, Kn_v, mrf_some, true_and, and_true, and_false, not_true_eq_false, not_false_eq_true, false_implies, forall_const, if_true, if_false, and_self, Nat.reduceEqDiff, Nat.reduceLeDiff, Nat.reduceSub, Nat.reduceAdd, Nat.le_refl, Int32.reduceLT, cl0, cl1, cl2, cl3, cl4, cl5, cl6, cl7, cl8, cl9, Nat.reduceLT, kc22, kc29, kc38, kn29, kr22_7, kr29_1, hta, hzt, vpk, Int32.reduceLT, b1, b2, b3, b4, b5, b6, ps, dv_1] at hQ ⊢
    exact hQ _ (show Fr (h) _ from (Fr_pi (Fr_pi (Fr_pi (Fr_pi (Fr_pi (Fr_pi (Fr_pi (Fr_pi (Fr_pi (Fr_pN Fr_rfl) (Nat.le_refl _)) (Nat.le_refl _)) (Nat.le_refl _)) (Nat.le_refl _)) (Nat.le_refl _)) (Nat.le_refl _)) (Nat.le_refl _)) (Nat.le_refl _)) (Nat.le_refl _)))

theorem m_leX1_7 {A : Nat → Nat} {h : MH} {Q : MR → MH → Prop} (R : Rl A h) (hQ : ∀ m, Fr h m → Q (.inl (some (.int (0)))) m) : Ok 227 0 [.ref (A 22), .int 1, .int 7, mk0, mk0] [] h 1 9 Q := by
  have R0 := R
  obtain ⟨vk, vcn, v0, v1, v2, vp, vl0, vl1, vlr, vsr, vc, tx⟩ := R0
  have vk0 := vk
  have vcn0 := vcn
  (refine K_el vk0 ?_; intros hA kc0 kc1 kc2 kc3 kc4 kc5 kc6 kc7 kc8 kc9 kc10 kc11 kc12 kc13 kc14 kc15 kc16 kc17 kc18 kc19 kc20 kc21 kc22 kc23 kc24 kc25 kc26 kc27 kc28 kc29 kc30 kc31 kc32 kc33 kc34 kc35 kc36 kc37 kc38 kc39 kz kt kn3 kn4 kn18 kn21 kn23 kn24 kn25 kn26 kn27 kn29 kn30 kr0_0 kr0_1 kr0_2 kr0_3 kr0_4 kr0_5 kr0_7 kr0_8 kr0_9 kr0_10 kr1_0 kr2_0 kr5_0 kr5_1 kr6_0 kr6_1 kr7_0 kr7_1 kr8_0 kr9_0 kr10_0 kr11_0 kr12_0 kr13_0 kr14_0 kr15_0 kr16_0 kr17_0 kr19_0 kr19_1 kr22_0 kr22_1 kr22_2 kr22_3 kr22_4 kr22_5 kr22_7 kr22_8 kr25_0 kr25_1 kr25_2 kr26_0 kr26_1 kr26_2 kr29_0 kr29_1)
  (refine Cn_el vcn0 ?_; intros ki5_2 ki6_2 ki7_2 ki8_1 ki8_2 ki8_3 ki9_1 ki9_2 ki9_3 ki10_1 ki10_2 ki10_3 ki11_1 ki11_2 ki11_3 ki12_1 ki12_2 ki12_3 ki13_1 ki13_2 ki13_3 ki14_1 ki14_2 ki14_3 ki28_0 ki28_1 ki31_0 ki31_1 ki32_0 ki32_1 ki33_0 ki33_1 ki34_0 ki34_1 ki35_0 ki35_1 ki36_0 ki36_1)
  have hAe : ∀ i j, i < 40 → j < 40 → (A i = A j ↔ i = j) := hA
  have hta : ∀ i, i < 40 → (A i = g_t h) = False := fun i hi => eq_false (fun z => by have := kt i hi; omega)
  have hta2 : ∀ i, i < 40 → (g_t h = A i) = False := fun i hi => eq_false (fun z => by have := kt i hi; omega)
  have hzt : g_z h ≤ g_t h := Nat.le_trans (kz 0 (by decide)) (Nat.le_of_lt (kt 0 (by decide)))
  have hl2 := vl1
  obtain ⟨⟨b1, b2, b3, b4, b5, b6⟩, ln⟩ := hl2
  replace b1 := b1.symm
  replace b2 := b2.symm
  replace b3 := b3.symm
  replace b4 := b4.symm
  replace b5 := b5.symm
  replace b6 := b6.symm
  by_cases ps : g_i h (A 16) 3 = 0
  all_goals
    simp only [o227_0, o227_1, o227_4, o227_5, o227_6, o227_7, o227_9, o227_11, o227_12, o227_13, o227_14, o227_17, o227_18, o227_19, o227_20, o227_21, o227_24, o227_25, o227_26, o227_27, o227_28, o227_31, o227_32, o227_33, o227_34, o227_35, o227_38, o227_39, o227_40, o227_41, o227_42, o227_45, o227_46, o227_47, o227_48, o227_49, o227_52, o227_55, o227_56, o227_59, o227_60, o227_61, o227_62, o227_64, o227_65, o227_68, o227_71, o227_72, o227_75, o227_76, o227_77, o227_78, o227_80, o227_81, o227_82, o227_83, o227_85, o227_86, o227_89, o227_92, o227_93, o227_96, o227_97, o227_100, o227_101, o227_103, o227_105, o227_106, o227_107, c_X7_rests, mc_pi, mc_pN, mn_pi, mn_pN, mi_pi, mi_pN, mz_pi, mz_pN, mcs_0, mcs_i, mcs_r, Kn_v, mrf_some, true_and, and_true, and_false, not_true_eq_false, not_false_eq_true, false_implies, forall_const, if_true, if_false, and_self, Nat.reduceEqDiff, Nat.reduceLeDiff, Nat.reduceSub, Nat.reduceAdd, Nat.le_refl, Int32.reduceLT, cl0, cl1, cl2, cl3, cl4, cl5, cl6, cl7, cl8, cl9, Nat.reduceLT, kc22, kc29, kc38, kn29, kr22_7, kr29_1, hta, hzt, vpk, Int32.reduceLT, b1, b2, b3, b4, b5, b6, ps, dv_1] at hQ ⊢
    exact hQ _ (show Fr (h) _ from (Fr_pi (Fr_pi (Fr_pi (Fr_pi (Fr_pi (Fr_pi (Fr_pi (Fr_pi (Fr_pi (Fr_pN Fr_rfl) (Nat.le_refl _)) (Nat.le_refl _)) (Nat.le_refl _)) (Nat.le_refl _)) (Nat.le_refl _)) (Nat.le_refl _)) (Nat.le_refl _)) (Nat.le_refl _)) (Nat.le_refl _)))

theorem m_leX1_8 {A : Nat → Nat} {h : MH} {Q : MR → MH → Prop} (R : Rl A h) (hQ : ∀ m, Fr h m → Q (.inl (some (.int (if g_i h (A 16) 3 = 0 then g_i h (A 16) 1 else -1)))) m) : Ok 227 0 [.ref (A 22), .int 1, .int 8, mk0, mk0] [] h 1 9 Q := by
  have R0 := R
  obtain ⟨vk, vcn, v0, v1, v2, vp, vl0, vl1, vlr, vsr, vc, tx⟩ := R0
  have vk0 := vk
  have vcn0 := vcn
  (refine K_el vk0 ?_; intros hA kc0 kc1 kc2 kc3 kc4 kc5 kc6 kc7 kc8 kc9 kc10 kc11 kc12 kc13 kc14 kc15 kc16 kc17 kc18 kc19 kc20 kc21 kc22 kc23 kc24 kc25 kc26 kc27 kc28 kc29 kc30 kc31 kc32 kc33 kc34 kc35 kc36 kc37 kc38 kc39 kz kt kn3 kn4 kn18 kn21 kn23 kn24 kn25 kn26 kn27 kn29 kn30 kr0_0 kr0_1 kr0_2 kr0_3 kr0_4 kr0_5 kr0_7 kr0_8 kr0_9 kr0_10 kr1_0 kr2_0 kr5_0 kr5_1 kr6_0 kr6_1 kr7_0 kr7_1 kr8_0 kr9_0 kr10_0 kr11_0 kr12_0 kr13_0 kr14_0 kr15_0 kr16_0 kr17_0 kr19_0 kr19_1 kr22_0 kr22_1 kr22_2 kr22_3 kr22_4 kr22_5 kr22_7 kr22_8 kr25_0 kr25_1 kr25_2 kr26_0 kr26_1 kr26_2 kr29_0 kr29_1)
  (refine Cn_el vcn0 ?_; intros ki5_2 ki6_2 ki7_2 ki8_1 ki8_2 ki8_3 ki9_1 ki9_2 ki9_3 ki10_1 ki10_2 ki10_3 ki11_1 ki11_2 ki11_3 ki12_1 ki12_2 ki12_3 ki13_1 ki13_2 ki13_3 ki14_1 ki14_2 ki14_3 ki28_0 ki28_1 ki31_0 ki31_1 ki32_0 ki32_1 ki33_0 ki33_1 ki34_0 ki34_1 ki35_0 ki35_1 ki36_0 ki36_1)
  have hAe : ∀ i j, i < 40 → j < 40 → (A i = A j ↔ i = j) := hA
  have hta : ∀ i, i < 40 → (A i = g_t h) = False := fun i hi => eq_false (fun z => by have := kt i hi; omega)
  have hta2 : ∀ i, i < 40 → (g_t h = A i) = False := fun i hi => eq_false (fun z => by have := kt i hi; omega)
  have hzt : g_z h ≤ g_t h := Nat.le_trans (kz 0 (by decide)) (Nat.le_of_lt (kt 0 (by decide)))
  have hl2 := vl1
  obtain ⟨⟨b1, b2, b3, b4, b5, b6⟩, ln⟩ := hl2
  replace b1 := b1.symm
  replace b2 := b2.symm
  replace b3 := b3.symm
  replace b4 := b4.symm
  replace b5 := b5.symm
  replace b6 := b6.symm
  by_cases ps : g_i h (A 16) 3 = 0
  all_goals
    simp only [o227_0, o227_1, o227_4, o227_5, o227_6, o227_7, o227_9, o227_11, o227_12, o227_13, o227_14, o227_17, o227_18, o227_19, o227_20, o227_21, o227_24, o227_25, o227_26, o227_27, o227_28, o227_31, o227_32, o227_33, o227_34, o227_35, o227_38, o227_39, o227_40, o227_41, o227_42, o227_45, o227_46, o227_47, o227_48, o227_49, o227_52, o227_55, o227_56, o227_59, o227_60, o227_61, o227_62, o227_64, o227_65, o227_68, o227_71, o227_72, o227_75, o227_76, o227_77, o227_78, o227_80, o227_81, o227_82, o227_83, o227_85, o227_86, o227_89, o227_92, o227_93, o227_96, o227_97, o227_100, o227_101, o227_103, o227_105, o227_106, o227_107, c_X7_rests, mc_pi, mc_pN, mn_pi, mn_pN, mi_pi, mi_pN, mz_pi, mz_pN, mcs_0, mcs_i, mcs_r, Kn_v, mrf_some, true_and, and_true, and_false, not_true_eq_false, not_false_eq_true, false_implies, forall_const, if_true, if_false, and_self, Nat.reduceEqDiff, Nat.reduceLeDiff, Nat.reduceSub, Nat.reduceAdd, Nat.le_refl, Int32.reduceLT, cl0, cl1, cl2, cl3, cl4, cl5, cl6, cl7, cl8, cl9, Nat.reduceLT, kc22, kc29, kc38, kn29, kr22_7, kr29_1, hta, hzt, vpk, Int32.reduceLT, b1, b2, b3, b4, b5, b6, ps, dv_1] at hQ ⊢
    exact hQ _ (show Fr (h) _ from (Fr_pi (Fr_pi (Fr_pi (Fr_pi (Fr_pi (Fr_pi (Fr_pi (Fr_pi (Fr_pi (Fr_pN Fr_rfl) (Nat.le_refl _)) (Nat.le_refl _)) (Nat.le_refl _)) (Nat.le_refl _)) (Nat.le_refl _)) (Nat.le_refl _)) (Nat.le_refl _)) (Nat.le_refl _)) (Nat.le_refl _)))
end

section
set_option maxRecDepth 16384
theorem Rl_fr0 {A : Nat → Nat} {h m : MH} (R : Rl A h) (f : Fr (p_i h (A 22) 9 0) m) : Rl A m ∧ Sm A h m := ⟨Rl_Fr (Rl_thr R) f, Sm_tr (Sm_thr R) (Sm_Fr (Rl_thr R) f)⟩
theorem Cs_fr0 {A : Nat → Nat} {h m : MH} (R : Rl A h) (c : Cs h) (f : Fr (p_i h (A 22) 9 0) m) : Cs m :=
  have hz : g_z h ≤ g_t h := Rl_z R
  Cs_Fx (sb := g_t h) (dg := g_t h) (Cs_Lw c (Lw_pi (R.1.2.2.1.1 22 (by decide)))) (Fx_Fr f) hz hz
theorem ms_S {A : Nat → Nat} {d0 : Int64} {h0 : MH} {Q : MR → MH → Prop} {bc bs : Nat} {a4 a5 a6 a7 : Value} (hQ : ∀ m, Sm A h0 m → Rl A m → Cs m → Ok 243 42 [.ref (A 22), .long (dS A h0 d0 6), mk0, .int (Int32.ofNat 6), a4, a5, a6, a7] [] m bc bs Q) : ∀ (k s : Nat) (m : MH), s + k = 6 → Sm A h0 m → Rl A m → Cs m → Ok 243 6 [.ref (A 22), .long (dS A h0 d0 s), mk0, .int (Int32.ofNat s), a4, a5, a6, a7] [] m bc bs Q
  | 0, s, m, hs, sm, R, cs => by
    have : s = 6 := by omega
    subst this
    have c1 : (Int32.ofNat 6 < (6 : Int32)) = False := by decide
    rw [o243_6]
    simp only [o243_7, o243_9, and_true, not_true_eq_false, not_false_eq_true, false_implies, forall_const, lt_le, c1]
    exact hQ m sm R cs
  | k + 1, s, m, hs, sm, R, cs => by
    have ih := ms_S hQ k (s + 1)
    have R1 : Rl A (p_i m (A 22) 9 0) := Rl_thr R
    have R2 : Rl A (p_i (p_i m (A 22) 9 0) (A 22) 9 0) := Rl_thr R1
    have s1 := Sm_tr sm (Sm_thr (v := 0) R)
    have s2 := Sm_tr s1 (Sm_thr (v := 0) R1)
    have cs2 : Cs (p_i (p_i m (A 22) 9 0) (A 22) 9 0) := Cs_Lw (Cs_Lw cs (Lw_pi (R.1.2.2.1.1 22 (by decide)))) (Lw_pi (R.1.2.2.1.1 22 (by decide)))
    (refine Sm_el sm ?_; intros i0 l0 i1 l1 i2 l2 i3 l3 i4 l4 i5 l5 i6 l6 i7 l7 i8 l8 i9 l9 i10 l10 i11 l11 i12 l12 i13 l13 i14 l14 i15 l15 i16 l16 i17 l17 i18 l18 i19 l19 i23 l23 i24 l24 i25 l25 i26 l26 i27 l27 i28 l28 i29 l29 i30 l30 i31 l31 i32 l32 i33 l33 i34 l34 i35 l35 i36 l36 i37 l37 i38 l38 i39 l39 i22)
    (refine Sm_el s1 ?_; intros i0' l0' i1' l1' i2' l2' i3' l3' i4' l4' i5' l5' i6' l6' i7' l7' i8' l8' i9' l9' i10' l10' i11' l11' i12' l12' i13' l13' i14' l14' i15' l15' i16' l16' i17' l17' i18' l18' i19' l19' i23' l23' i24' l24' i25' l25' i26' l26' i27' l27' i28' l28' i29' l29' i30' l30' i31' l31' i32' l32' i33' l33' i34' l34' i35' l35' i36' l36' i37' l37' i38' l38' i39' l39' i22')
    have R0 := R
    obtain ⟨vk, vcn, v0, v1, v2, vp, vl0, vl1, vlr, vsr, vc, tx⟩ := R0
    have vk0 := vk
    have vcn0 := vcn
    (refine K_el vk0 ?_; intros hA kc0 kc1 kc2 kc3 kc4 kc5 kc6 kc7 kc8 kc9 kc10 kc11 kc12 kc13 kc14 kc15 kc16 kc17 kc18 kc19 kc20 kc21 kc22 kc23 kc24 kc25 kc26 kc27 kc28 kc29 kc30 kc31 kc32 kc33 kc34 kc35 kc36 kc37 kc38 kc39 kz kt kn3 kn4 kn18 kn21 kn23 kn24 kn25 kn26 kn27 kn29 kn30 kr0_0 kr0_1 kr0_2 kr0_3 kr0_4 kr0_5 kr0_7 kr0_8 kr0_9 kr0_10 kr1_0 kr2_0 kr5_0 kr5_1 kr6_0 kr6_1 kr7_0 kr7_1 kr8_0 kr9_0 kr10_0 kr11_0 kr12_0 kr13_0 kr14_0 kr15_0 kr16_0 kr17_0 kr19_0 kr19_1 kr22_0 kr22_1 kr22_2 kr22_3 kr22_4 kr22_5 kr22_7 kr22_8 kr25_0 kr25_1 kr25_2 kr26_0 kr26_1 kr26_2 kr29_0 kr29_1)
    (refine Cn_el vcn0 ?_; intros ki5_2 ki6_2 ki7_2 ki8_1 ki8_2 ki8_3 ki9_1 ki9_2 ki9_3 ki10_1 ki10_2 ki10_3 ki11_1 ki11_2 ki11_3 ki12_1 ki12_2 ki12_3 ki13_1 ki13_2 ki13_3 ki14_1 ki14_2 ki14_3 ki28_0 ki28_1 ki31_0 ki31_1 ki32_0 ki32_1 ki33_0 ki33_1 ki34_0 ki34_1 ki35_0 ki35_1 ki36_0 ki36_1)
    have hAe : ∀ i j, i < 40 → j < 40 → (A i = A j ↔ i = j) := hA
    have c1 : (Int32.ofNat s < (6 : Int32)) = True := by
      rw [show (6 : Int32) = Int32.ofNat 6 by decide, n_lt (by omega) (by omega)]
      exact eq_true (by omega)
    have c6 : Int32.ofNat s + 1 = Int32.ofNat (s + 1) := n_add s 1
    have u1 : upv A m s = upv A h0 s := by simp only [upv, l4]
    have u2 : lov A (p_i m (A 22) 9 0) s = lov A h0 s := by simp only [lov, l4']
    have z := ih _ (by omega) s2 R2 cs2
    rw [o243_6]
    simp only [o243_7, o243_9, o243_12, o243_13, o243_16, o243_17, o243_18, o243_19, o243_22, o243_23, o243_24, o243_27, o243_28, o243_29, o243_30, o243_33, o243_34, o243_35, o243_36, o243_39, m_upperN R (s := s) (by omega), m_lowerN R1 (s := s) (by omega), mc_pi, mcs_0, mcs_l, Kn_v, true_and, not_true_eq_false, not_false_eq_true, false_implies, forall_const, Nat.reduceLeDiff, Nat.reduceAdd, lt_le, kc22, c1, c6, u1, u2]
    exact z

theorem ms_P0_0 {A : Nat → Nat} {d : Int64} {h0 m : MH} {Q : MR → MH → Prop} {bc bs : Nat} {a5 a6 a7 : Value} (sm : Sm A h0 m) (R : Rl A m) (hQ : ∀ q, Fr (p_i m (A 22) 9 0) q → Ok 243 76 [.ref (A 22), .long (dg1 d (g_i h0 (A 8) 4)), mk0, .int 0, .int 1, a5, a6, a7] [] q bc bs Q) : Ok 243 76 [.ref (A 22), .long (d), mk0, .int 0, .int 0, a5, a6, a7] [] m (bc + 1) (bs + 7) Q := by
  have R0 := R
  obtain ⟨vk, vcn, v0, v1, v2, vp, vl0, vl1, vlr, vsr, vc, tx⟩ := R0
  have vk0 := vk
  have vcn0 := vcn
  (refine K_el vk0 ?_; intros hA kc0 kc1 kc2 kc3 kc4 kc5 kc6 kc7 kc8 kc9 kc10 kc11 kc12 kc13 kc14 kc15 kc16 kc17 kc18 kc19 kc20 kc21 kc22 kc23 kc24 kc25 kc26 kc27 kc28 kc29 kc30 kc31 kc32 kc33 kc34 kc35 kc36 kc37 kc38 kc39 kz kt kn3 kn4 kn18 kn21 kn23 kn24 kn25 kn26 kn27 kn29 kn30 kr0_0 kr0_1 kr0_2 kr0_3 kr0_4 kr0_5 kr0_7 kr0_8 kr0_9 kr0_10 kr1_0 kr2_0 kr5_0 kr5_1 kr6_0 kr6_1 kr7_0 kr7_1 kr8_0 kr9_0 kr10_0 kr11_0 kr12_0 kr13_0 kr14_0 kr15_0 kr16_0 kr17_0 kr19_0 kr19_1 kr22_0 kr22_1 kr22_2 kr22_3 kr22_4 kr22_5 kr22_7 kr22_8 kr25_0 kr25_1 kr25_2 kr26_0 kr26_1 kr26_2 kr29_0 kr29_1)
  (refine Cn_el vcn0 ?_; intros ki5_2 ki6_2 ki7_2 ki8_1 ki8_2 ki8_3 ki9_1 ki9_2 ki9_3 ki10_1 ki10_2 ki10_3 ki11_1 ki11_2 ki11_3 ki12_1 ki12_2 ki12_3 ki13_1 ki13_2 ki13_3 ki14_1 ki14_2 ki14_3 ki28_0 ki28_1 ki31_0 ki31_1 ki32_0 ki32_1 ki33_0 ki33_1 ki34_0 ki34_1 ki35_0 ki35_1 ki36_0 ki36_1)
  have hAe : ∀ i j, i < 40 → j < 40 → (A i = A j ↔ i = j) := hA
  have b7 : (7 : Int32) = 7 := by decide
  have c1 : (1 ≤ bc + 1) = True := eq_true (by omega)
  have c2 : (7 ≤ bs + 7) = True := eq_true (by omega)
  have c3 : bc + 1 - 1 = bc := by omega
  have c4 : bs + 7 - 7 = bs := by omega
  (refine Sm_el sm ?_; intros i0 l0 i1 l1 i2 l2 i3 l3 i4 l4 i5 l5 i6 l6 i7 l7 i8 l8 i9 l9 i10 l10 i11 l11 i12 l12 i13 l13 i14 l14 i15 l15 i16 l16 i17 l17 i18 l18 i19 l19 i23 l23 i24 l24 i25 l25 i26 l26 i27 l27 i28 l28 i29 l29 i30 l30 i31 l31 i32 l32 i33 l33 i34 l34 i35 l35 i36 l36 i37 l37 i38 l38 i39 l39 i22)
  rw [o243_76]
  simp only [o243_78, o243_80, o243_83, o243_84, o243_87, o243_88, o243_89, o243_90, o243_92, mcs_0, mcs_l, true_and, not_true_eq_false, not_false_eq_true, false_implies, forall_const, Nat.reduceLeDiff, Nat.reduceAdd, lt_le, Int32.reduceLT, kc22, Int32.reduceLT, c1, c2, c3, c4]
  refine m_plX0_0 R (fun q f => ?_)
  simp only [o243_95, o243_96, o243_97, o243_98, o243_101, Kn_v, Int32.reduceAdd, i8]
  exact hQ q f

theorem ms_P0_1 {A : Nat → Nat} {d : Int64} {h0 m : MH} {Q : MR → MH → Prop} {bc bs : Nat} {a5 a6 a7 : Value} (sm : Sm A h0 m) (R : Rl A m) (hQ : ∀ q, Fr (p_i m (A 22) 9 0) q → Ok 243 76 [.ref (A 22), .long (dg1 d (g_i h0 (A 8) 5)), mk0, .int 0, .int 2, a5, a6, a7] [] q bc bs Q) : Ok 243 76 [.ref (A 22), .long (d), mk0, .int 0, .int 1, a5, a6, a7] [] m (bc + 1) (bs + 7) Q := by
  have R0 := R
  obtain ⟨vk, vcn, v0, v1, v2, vp, vl0, vl1, vlr, vsr, vc, tx⟩ := R0
  have vk0 := vk
  have vcn0 := vcn
  (refine K_el vk0 ?_; intros hA kc0 kc1 kc2 kc3 kc4 kc5 kc6 kc7 kc8 kc9 kc10 kc11 kc12 kc13 kc14 kc15 kc16 kc17 kc18 kc19 kc20 kc21 kc22 kc23 kc24 kc25 kc26 kc27 kc28 kc29 kc30 kc31 kc32 kc33 kc34 kc35 kc36 kc37 kc38 kc39 kz kt kn3 kn4 kn18 kn21 kn23 kn24 kn25 kn26 kn27 kn29 kn30 kr0_0 kr0_1 kr0_2 kr0_3 kr0_4 kr0_5 kr0_7 kr0_8 kr0_9 kr0_10 kr1_0 kr2_0 kr5_0 kr5_1 kr6_0 kr6_1 kr7_0 kr7_1 kr8_0 kr9_0 kr10_0 kr11_0 kr12_0 kr13_0 kr14_0 kr15_0 kr16_0 kr17_0 kr19_0 kr19_1 kr22_0 kr22_1 kr22_2 kr22_3 kr22_4 kr22_5 kr22_7 kr22_8 kr25_0 kr25_1 kr25_2 kr26_0 kr26_1 kr26_2 kr29_0 kr29_1)
  (refine Cn_el vcn0 ?_; intros ki5_2 ki6_2 ki7_2 ki8_1 ki8_2 ki8_3 ki9_1 ki9_2 ki9_3 ki10_1 ki10_2 ki10_3 ki11_1 ki11_2 ki11_3 ki12_1 ki12_2 ki12_3 ki13_1 ki13_2 ki13_3 ki14_1 ki14_2 ki14_3 ki28_0 ki28_1 ki31_0 ki31_1 ki32_0 ki32_1 ki33_0 ki33_1 ki34_0 ki34_1 ki35_0 ki35_1 ki36_0 ki36_1)
  have hAe : ∀ i j, i < 40 → j < 40 → (A i = A j ↔ i = j) := hA
  have b7 : (7 : Int32) = 7 := by decide
  have c1 : (1 ≤ bc + 1) = True := eq_true (by omega)
  have c2 : (7 ≤ bs + 7) = True := eq_true (by omega)
  have c3 : bc + 1 - 1 = bc := by omega
  have c4 : bs + 7 - 7 = bs := by omega
  (refine Sm_el sm ?_; intros i0 l0 i1 l1 i2 l2 i3 l3 i4 l4 i5 l5 i6 l6 i7 l7 i8 l8 i9 l9 i10 l10 i11 l11 i12 l12 i13 l13 i14 l14 i15 l15 i16 l16 i17 l17 i18 l18 i19 l19 i23 l23 i24 l24 i25 l25 i26 l26 i27 l27 i28 l28 i29 l29 i30 l30 i31 l31 i32 l32 i33 l33 i34 l34 i35 l35 i36 l36 i37 l37 i38 l38 i39 l39 i22)
  rw [o243_76]
  simp only [o243_78, o243_80, o243_83, o243_84, o243_87, o243_88, o243_89, o243_90, o243_92, mcs_0, mcs_l, true_and, not_true_eq_false, not_false_eq_true, false_implies, forall_const, Nat.reduceLeDiff, Nat.reduceAdd, lt_le, Int32.reduceLT, kc22, Int32.reduceLT, c1, c2, c3, c4]
  refine m_plX0_1 R (fun q f => ?_)
  simp only [o243_95, o243_96, o243_97, o243_98, o243_101, Kn_v, Int32.reduceAdd, i8]
  exact hQ q f

theorem ms_P0_2 {A : Nat → Nat} {d : Int64} {h0 m : MH} {Q : MR → MH → Prop} {bc bs : Nat} {a5 a6 a7 : Value} (sm : Sm A h0 m) (R : Rl A m) (hQ : ∀ q, Fr (p_i m (A 22) 9 0) q → Ok 243 76 [.ref (A 22), .long (dg1 d (g_i h0 (A 9) 4)), mk0, .int 0, .int 3, a5, a6, a7] [] q bc bs Q) : Ok 243 76 [.ref (A 22), .long (d), mk0, .int 0, .int 2, a5, a6, a7] [] m (bc + 1) (bs + 7) Q := by
  have R0 := R
  obtain ⟨vk, vcn, v0, v1, v2, vp, vl0, vl1, vlr, vsr, vc, tx⟩ := R0
  have vk0 := vk
  have vcn0 := vcn
  (refine K_el vk0 ?_; intros hA kc0 kc1 kc2 kc3 kc4 kc5 kc6 kc7 kc8 kc9 kc10 kc11 kc12 kc13 kc14 kc15 kc16 kc17 kc18 kc19 kc20 kc21 kc22 kc23 kc24 kc25 kc26 kc27 kc28 kc29 kc30 kc31 kc32 kc33 kc34 kc35 kc36 kc37 kc38 kc39 kz kt kn3 kn4 kn18 kn21 kn23 kn24 kn25 kn26 kn27 kn29 kn30 kr0_0 kr0_1 kr0_2 kr0_3 kr0_4 kr0_5 kr0_7 kr0_8 kr0_9 kr0_10 kr1_0 kr2_0 kr5_0 kr5_1 kr6_0 kr6_1 kr7_0 kr7_1 kr8_0 kr9_0 kr10_0 kr11_0 kr12_0 kr13_0 kr14_0 kr15_0 kr16_0 kr17_0 kr19_0 kr19_1 kr22_0 kr22_1 kr22_2 kr22_3 kr22_4 kr22_5 kr22_7 kr22_8 kr25_0 kr25_1 kr25_2 kr26_0 kr26_1 kr26_2 kr29_0 kr29_1)
  (refine Cn_el vcn0 ?_; intros ki5_2 ki6_2 ki7_2 ki8_1 ki8_2 ki8_3 ki9_1 ki9_2 ki9_3 ki10_1 ki10_2 ki10_3 ki11_1 ki11_2 ki11_3 ki12_1 ki12_2 ki12_3 ki13_1 ki13_2 ki13_3 ki14_1 ki14_2 ki14_3 ki28_0 ki28_1 ki31_0 ki31_1 ki32_0 ki32_1 ki33_0 ki33_1 ki34_0 ki34_1 ki35_0 ki35_1 ki36_0 ki36_1)
  have hAe : ∀ i j, i < 40 → j < 40 → (A i = A j ↔ i = j) := hA
  have b7 : (7 : Int32) = 7 := by decide
  have c1 : (1 ≤ bc + 1) = True := eq_true (by omega)
  have c2 : (7 ≤ bs + 7) = True := eq_true (by omega)
  have c3 : bc + 1 - 1 = bc := by omega
  have c4 : bs + 7 - 7 = bs := by omega
  (refine Sm_el sm ?_; intros i0 l0 i1 l1 i2 l2 i3 l3 i4 l4 i5 l5 i6 l6 i7 l7 i8 l8 i9 l9 i10 l10 i11 l11 i12 l12 i13 l13 i14 l14 i15 l15 i16 l16 i17 l17 i18 l18 i19 l19 i23 l23 i24 l24 i25 l25 i26 l26 i27 l27 i28 l28 i29 l29 i30 l30 i31 l31 i32 l32 i33 l33 i34 l34 i35 l35 i36 l36 i37 l37 i38 l38 i39 l39 i22)
  rw [o243_76]
  simp only [o243_78, o243_80, o243_83, o243_84, o243_87, o243_88, o243_89, o243_90, o243_92, mcs_0, mcs_l, true_and, not_true_eq_false, not_false_eq_true, false_implies, forall_const, Nat.reduceLeDiff, Nat.reduceAdd, lt_le, Int32.reduceLT, kc22, Int32.reduceLT, c1, c2, c3, c4]
  refine m_plX0_2 R (fun q f => ?_)
  simp only [o243_95, o243_96, o243_97, o243_98, o243_101, Kn_v, Int32.reduceAdd, i9]
  exact hQ q f

theorem ms_P0_3 {A : Nat → Nat} {d : Int64} {h0 m : MH} {Q : MR → MH → Prop} {bc bs : Nat} {a5 a6 a7 : Value} (sm : Sm A h0 m) (R : Rl A m) (hQ : ∀ q, Fr (p_i m (A 22) 9 0) q → Ok 243 76 [.ref (A 22), .long (dg1 d (g_i h0 (A 9) 5)), mk0, .int 0, .int 4, a5, a6, a7] [] q bc bs Q) : Ok 243 76 [.ref (A 22), .long (d), mk0, .int 0, .int 3, a5, a6, a7] [] m (bc + 1) (bs + 7) Q := by
  have R0 := R
  obtain ⟨vk, vcn, v0, v1, v2, vp, vl0, vl1, vlr, vsr, vc, tx⟩ := R0
  have vk0 := vk
  have vcn0 := vcn
  (refine K_el vk0 ?_; intros hA kc0 kc1 kc2 kc3 kc4 kc5 kc6 kc7 kc8 kc9 kc10 kc11 kc12 kc13 kc14 kc15 kc16 kc17 kc18 kc19 kc20 kc21 kc22 kc23 kc24 kc25 kc26 kc27 kc28 kc29 kc30 kc31 kc32 kc33 kc34 kc35 kc36 kc37 kc38 kc39 kz kt kn3 kn4 kn18 kn21 kn23 kn24 kn25 kn26 kn27 kn29 kn30 kr0_0 kr0_1 kr0_2 kr0_3 kr0_4 kr0_5 kr0_7 kr0_8 kr0_9 kr0_10 kr1_0 kr2_0 kr5_0 kr5_1 kr6_0 kr6_1 kr7_0 kr7_1 kr8_0 kr9_0 kr10_0 kr11_0 kr12_0 kr13_0 kr14_0 kr15_0 kr16_0 kr17_0 kr19_0 kr19_1 kr22_0 kr22_1 kr22_2 kr22_3 kr22_4 kr22_5 kr22_7 kr22_8 kr25_0 kr25_1 kr25_2 kr26_0 kr26_1 kr26_2 kr29_0 kr29_1)
  (refine Cn_el vcn0 ?_; intros ki5_2 ki6_2 ki7_2 ki8_1 ki8_2 ki8_3 ki9_1 ki9_2 ki9_3 ki10_1 ki10_2 ki10_3 ki11_1 ki11_2 ki11_3 ki12_1 ki12_2 ki12_3 ki13_1 ki13_2 ki13_3 ki14_1 ki14_2 ki14_3 ki28_0 ki28_1 ki31_0 ki31_1 ki32_0 ki32_1 ki33_0 ki33_1 ki34_0 ki34_1 ki35_0 ki35_1 ki36_0 ki36_1)
  have hAe : ∀ i j, i < 40 → j < 40 → (A i = A j ↔ i = j) := hA
  have b7 : (7 : Int32) = 7 := by decide
  have c1 : (1 ≤ bc + 1) = True := eq_true (by omega)
  have c2 : (7 ≤ bs + 7) = True := eq_true (by omega)
  have c3 : bc + 1 - 1 = bc := by omega
  have c4 : bs + 7 - 7 = bs := by omega
  (refine Sm_el sm ?_; intros i0 l0 i1 l1 i2 l2 i3 l3 i4 l4 i5 l5 i6 l6 i7 l7 i8 l8 i9 l9 i10 l10 i11 l11 i12 l12 i13 l13 i14 l14 i15 l15 i16 l16 i17 l17 i18 l18 i19 l19 i23 l23 i24 l24 i25 l25 i26 l26 i27 l27 i28 l28 i29 l29 i30 l30 i31 l31 i32 l32 i33 l33 i34 l34 i35 l35 i36 l36 i37 l37 i38 l38 i39 l39 i22)
  rw [o243_76]
  simp only [o243_78, o243_80, o243_83, o243_84, o243_87, o243_88, o243_89, o243_90, o243_92, mcs_0, mcs_l, true_and, not_true_eq_false, not_false_eq_true, false_implies, forall_const, Nat.reduceLeDiff, Nat.reduceAdd, lt_le, Int32.reduceLT, kc22, Int32.reduceLT, c1, c2, c3, c4]
  refine m_plX0_3 R (fun q f => ?_)
  simp only [o243_95, o243_96, o243_97, o243_98, o243_101, Kn_v, Int32.reduceAdd, i9]
  exact hQ q f

theorem ms_P0_4 {A : Nat → Nat} {d : Int64} {h0 m : MH} {Q : MR → MH → Prop} {bc bs : Nat} {a5 a6 a7 : Value} (sm : Sm A h0 m) (R : Rl A m) (hQ : ∀ q, Fr (p_i m (A 22) 9 0) q → Ok 243 76 [.ref (A 22), .long (dg1 d (g_i h0 (A 9) 6)), mk0, .int 0, .int 5, a5, a6, a7] [] q bc bs Q) : Ok 243 76 [.ref (A 22), .long (d), mk0, .int 0, .int 4, a5, a6, a7] [] m (bc + 1) (bs + 7) Q := by
  have R0 := R
  obtain ⟨vk, vcn, v0, v1, v2, vp, vl0, vl1, vlr, vsr, vc, tx⟩ := R0
  have vk0 := vk
  have vcn0 := vcn
  (refine K_el vk0 ?_; intros hA kc0 kc1 kc2 kc3 kc4 kc5 kc6 kc7 kc8 kc9 kc10 kc11 kc12 kc13 kc14 kc15 kc16 kc17 kc18 kc19 kc20 kc21 kc22 kc23 kc24 kc25 kc26 kc27 kc28 kc29 kc30 kc31 kc32 kc33 kc34 kc35 kc36 kc37 kc38 kc39 kz kt kn3 kn4 kn18 kn21 kn23 kn24 kn25 kn26 kn27 kn29 kn30 kr0_0 kr0_1 kr0_2 kr0_3 kr0_4 kr0_5 kr0_7 kr0_8 kr0_9 kr0_10 kr1_0 kr2_0 kr5_0 kr5_1 kr6_0 kr6_1 kr7_0 kr7_1 kr8_0 kr9_0 kr10_0 kr11_0 kr12_0 kr13_0 kr14_0 kr15_0 kr16_0 kr17_0 kr19_0 kr19_1 kr22_0 kr22_1 kr22_2 kr22_3 kr22_4 kr22_5 kr22_7 kr22_8 kr25_0 kr25_1 kr25_2 kr26_0 kr26_1 kr26_2 kr29_0 kr29_1)
  (refine Cn_el vcn0 ?_; intros ki5_2 ki6_2 ki7_2 ki8_1 ki8_2 ki8_3 ki9_1 ki9_2 ki9_3 ki10_1 ki10_2 ki10_3 ki11_1 ki11_2 ki11_3 ki12_1 ki12_2 ki12_3 ki13_1 ki13_2 ki13_3 ki14_1 ki14_2 ki14_3 ki28_0 ki28_1 ki31_0 ki31_1 ki32_0 ki32_1 ki33_0 ki33_1 ki34_0 ki34_1 ki35_0 ki35_1 ki36_0 ki36_1)
  have hAe : ∀ i j, i < 40 → j < 40 → (A i = A j ↔ i = j) := hA
  have b7 : (7 : Int32) = 7 := by decide
  have c1 : (1 ≤ bc + 1) = True := eq_true (by omega)
  have c2 : (7 ≤ bs + 7) = True := eq_true (by omega)
  have c3 : bc + 1 - 1 = bc := by omega
  have c4 : bs + 7 - 7 = bs := by omega
  (refine Sm_el sm ?_; intros i0 l0 i1 l1 i2 l2 i3 l3 i4 l4 i5 l5 i6 l6 i7 l7 i8 l8 i9 l9 i10 l10 i11 l11 i12 l12 i13 l13 i14 l14 i15 l15 i16 l16 i17 l17 i18 l18 i19 l19 i23 l23 i24 l24 i25 l25 i26 l26 i27 l27 i28 l28 i29 l29 i30 l30 i31 l31 i32 l32 i33 l33 i34 l34 i35 l35 i36 l36 i37 l37 i38 l38 i39 l39 i22)
  rw [o243_76]
  simp only [o243_78, o243_80, o243_83, o243_84, o243_87, o243_88, o243_89, o243_90, o243_92, mcs_0, mcs_l, true_and, not_true_eq_false, not_false_eq_true, false_implies, forall_const, Nat.reduceLeDiff, Nat.reduceAdd, lt_le, Int32.reduceLT, kc22, Int32.reduceLT, c1, c2, c3, c4]
  refine m_plX0_4 R (fun q f => ?_)
  simp only [o243_95, o243_96, o243_97, o243_98, o243_101, Kn_v, Int32.reduceAdd, i9]
  exact hQ q f

theorem ms_P0_5 {A : Nat → Nat} {d : Int64} {h0 m : MH} {Q : MR → MH → Prop} {bc bs : Nat} {a5 a6 a7 : Value} (sm : Sm A h0 m) (R : Rl A m) (hQ : ∀ q, Fr (p_i m (A 22) 9 0) q → Ok 243 76 [.ref (A 22), .long (dg1 d (5)), mk0, .int 0, .int 6, a5, a6, a7] [] q bc bs Q) : Ok 243 76 [.ref (A 22), .long (d), mk0, .int 0, .int 5, a5, a6, a7] [] m (bc + 1) (bs + 7) Q := by
  have R0 := R
  obtain ⟨vk, vcn, v0, v1, v2, vp, vl0, vl1, vlr, vsr, vc, tx⟩ := R0
  have vk0 := vk
  have vcn0 := vcn
  (refine K_el vk0 ?_; intros hA kc0 kc1 kc2 kc3 kc4 kc5 kc6 kc7 kc8 kc9 kc10 kc11 kc12 kc13 kc14 kc15 kc16 kc17 kc18 kc19 kc20 kc21 kc22 kc23 kc24 kc25 kc26 kc27 kc28 kc29 kc30 kc31 kc32 kc33 kc34 kc35 kc36 kc37 kc38 kc39 kz kt kn3 kn4 kn18 kn21 kn23 kn24 kn25 kn26 kn27 kn29 kn30 kr0_0 kr0_1 kr0_2 kr0_3 kr0_4 kr0_5 kr0_7 kr0_8 kr0_9 kr0_10 kr1_0 kr2_0 kr5_0 kr5_1 kr6_0 kr6_1 kr7_0 kr7_1 kr8_0 kr9_0 kr10_0 kr11_0 kr12_0 kr13_0 kr14_0 kr15_0 kr16_0 kr17_0 kr19_0 kr19_1 kr22_0 kr22_1 kr22_2 kr22_3 kr22_4 kr22_5 kr22_7 kr22_8 kr25_0 kr25_1 kr25_2 kr26_0 kr26_1 kr26_2 kr29_0 kr29_1)
  (refine Cn_el vcn0 ?_; intros ki5_2 ki6_2 ki7_2 ki8_1 ki8_2 ki8_3 ki9_1 ki9_2 ki9_3 ki10_1 ki10_2 ki10_3 ki11_1 ki11_2 ki11_3 ki12_1 ki12_2 ki12_3 ki13_1 ki13_2 ki13_3 ki14_1 ki14_2 ki14_3 ki28_0 ki28_1 ki31_0 ki31_1 ki32_0 ki32_1 ki33_0 ki33_1 ki34_0 ki34_1 ki35_0 ki35_1 ki36_0 ki36_1)
  have hAe : ∀ i j, i < 40 → j < 40 → (A i = A j ↔ i = j) := hA
  have b7 : (7 : Int32) = 7 := by decide
  have c1 : (1 ≤ bc + 1) = True := eq_true (by omega)
  have c2 : (7 ≤ bs + 7) = True := eq_true (by omega)
  have c3 : bc + 1 - 1 = bc := by omega
  have c4 : bs + 7 - 7 = bs := by omega
  (refine Sm_el sm ?_; intros i0 l0 i1 l1 i2 l2 i3 l3 i4 l4 i5 l5 i6 l6 i7 l7 i8 l8 i9 l9 i10 l10 i11 l11 i12 l12 i13 l13 i14 l14 i15 l15 i16 l16 i17 l17 i18 l18 i19 l19 i23 l23 i24 l24 i25 l25 i26 l26 i27 l27 i28 l28 i29 l29 i30 l30 i31 l31 i32 l32 i33 l33 i34 l34 i35 l35 i36 l36 i37 l37 i38 l38 i39 l39 i22)
  rw [o243_76]
  simp only [o243_78, o243_80, o243_83, o243_84, o243_87, o243_88, o243_89, o243_90, o243_92, mcs_0, mcs_l, true_and, not_true_eq_false, not_false_eq_true, false_implies, forall_const, Nat.reduceLeDiff, Nat.reduceAdd, lt_le, Int32.reduceLT, kc22, Int32.reduceLT, c1, c2, c3, c4]
  refine m_plX0_5 R (fun q f => ?_)
  simp only [o243_95, o243_96, o243_97, o243_98, o243_101, Kn_v, Int32.reduceAdd]
  exact hQ q f

theorem ms_P0_6 {A : Nat → Nat} {d : Int64} {h0 m : MH} {Q : MR → MH → Prop} {bc bs : Nat} {a5 a6 a7 : Value} (sm : Sm A h0 m) (R : Rl A m) (hQ : ∀ q, Fr (p_i m (A 22) 9 0) q → Ok 243 76 [.ref (A 22), .long (dg1 d (1)), mk0, .int 0, .int 7, a5, a6, a7] [] q bc bs Q) : Ok 243 76 [.ref (A 22), .long (d), mk0, .int 0, .int 6, a5, a6, a7] [] m (bc + 1) (bs + 7) Q := by
  have R0 := R
  obtain ⟨vk, vcn, v0, v1, v2, vp, vl0, vl1, vlr, vsr, vc, tx⟩ := R0
  have vk0 := vk
  have vcn0 := vcn
  (refine K_el vk0 ?_; intros hA kc0 kc1 kc2 kc3 kc4 kc5 kc6 kc7 kc8 kc9 kc10 kc11 kc12 kc13 kc14 kc15 kc16 kc17 kc18 kc19 kc20 kc21 kc22 kc23 kc24 kc25 kc26 kc27 kc28 kc29 kc30 kc31 kc32 kc33 kc34 kc35 kc36 kc37 kc38 kc39 kz kt kn3 kn4 kn18 kn21 kn23 kn24 kn25 kn26 kn27 kn29 kn30 kr0_0 kr0_1 kr0_2 kr0_3 kr0_4 kr0_5 kr0_7 kr0_8 kr0_9 kr0_10 kr1_0 kr2_0 kr5_0 kr5_1 kr6_0 kr6_1 kr7_0 kr7_1 kr8_0 kr9_0 kr10_0 kr11_0 kr12_0 kr13_0 kr14_0 kr15_0 kr16_0 kr17_0 kr19_0 kr19_1 kr22_0 kr22_1 kr22_2 kr22_3 kr22_4 kr22_5 kr22_7 kr22_8 kr25_0 kr25_1 kr25_2 kr26_0 kr26_1 kr26_2 kr29_0 kr29_1)
  (refine Cn_el vcn0 ?_; intros ki5_2 ki6_2 ki7_2 ki8_1 ki8_2 ki8_3 ki9_1 ki9_2 ki9_3 ki10_1 ki10_2 ki10_3 ki11_1 ki11_2 ki11_3 ki12_1 ki12_2 ki12_3 ki13_1 ki13_2 ki13_3 ki14_1 ki14_2 ki14_3 ki28_0 ki28_1 ki31_0 ki31_1 ki32_0 ki32_1 ki33_0 ki33_1 ki34_0 ki34_1 ki35_0 ki35_1 ki36_0 ki36_1)
  have hAe : ∀ i j, i < 40 → j < 40 → (A i = A j ↔ i = j) := hA
  have b7 : (7 : Int32) = 7 := by decide
  have c1 : (1 ≤ bc + 1) = True := eq_true (by omega)
  have c2 : (7 ≤ bs + 7) = True := eq_true (by omega)
  have c3 : bc + 1 - 1 = bc := by omega
  have c4 : bs + 7 - 7 = bs := by omega
  (refine Sm_el sm ?_; intros i0 l0 i1 l1 i2 l2 i3 l3 i4 l4 i5 l5 i6 l6 i7 l7 i8 l8 i9 l9 i10 l10 i11 l11 i12 l12 i13 l13 i14 l14 i15 l15 i16 l16 i17 l17 i18 l18 i19 l19 i23 l23 i24 l24 i25 l25 i26 l26 i27 l27 i28 l28 i29 l29 i30 l30 i31 l31 i32 l32 i33 l33 i34 l34 i35 l35 i36 l36 i37 l37 i38 l38 i39 l39 i22)
  rw [o243_76]
  simp only [o243_78, o243_80, o243_83, o243_84, o243_87, o243_88, o243_89, o243_90, o243_92, mcs_0, mcs_l, true_and, not_true_eq_false, not_false_eq_true, false_implies, forall_const, Nat.reduceLeDiff, Nat.reduceAdd, lt_le, Int32.reduceLT, kc22, Int32.reduceLT, c1, c2, c3, c4]
  refine m_plX0_6 R (fun q f => ?_)
  simp only [o243_95, o243_96, o243_97, o243_98, o243_101, Kn_v, Int32.reduceAdd]
  exact hQ q f

theorem ms_Q0 {A : Nat → Nat} {d : Int64} {h0 m : MH} {Q : MR → MH → Prop} {bc bs : Nat} {a4 a5 a6 a7 : Value} (sm : Sm A h0 m) (R : Rl A m) (cs : Cs m) (hQ : ∀ q, Sm A h0 q → Rl A q → Cs q → Ok 243 44 [.ref (A 22), .long (dQ0 A h0 d), mk0, .int 1, .int 7, a5, a6, a7] [] q bc bs Q) : Ok 243 44 [.ref (A 22), .long (d), mk0, .int 0, a4, a5, a6, a7] [] m (bc + 23) (bs + 2023) Q := by
  have R0 := R
  obtain ⟨vk, vcn, v0, v1, v2, vp, vl0, vl1, vlr, vsr, vc, tx⟩ := R0
  have vk0 := vk
  have vcn0 := vcn
  (refine K_el vk0 ?_; intros hA kc0 kc1 kc2 kc3 kc4 kc5 kc6 kc7 kc8 kc9 kc10 kc11 kc12 kc13 kc14 kc15 kc16 kc17 kc18 kc19 kc20 kc21 kc22 kc23 kc24 kc25 kc26 kc27 kc28 kc29 kc30 kc31 kc32 kc33 kc34 kc35 kc36 kc37 kc38 kc39 kz kt kn3 kn4 kn18 kn21 kn23 kn24 kn25 kn26 kn27 kn29 kn30 kr0_0 kr0_1 kr0_2 kr0_3 kr0_4 kr0_5 kr0_7 kr0_8 kr0_9 kr0_10 kr1_0 kr2_0 kr5_0 kr5_1 kr6_0 kr6_1 kr7_0 kr7_1 kr8_0 kr9_0 kr10_0 kr11_0 kr12_0 kr13_0 kr14_0 kr15_0 kr16_0 kr17_0 kr19_0 kr19_1 kr22_0 kr22_1 kr22_2 kr22_3 kr22_4 kr22_5 kr22_7 kr22_8 kr25_0 kr25_1 kr25_2 kr26_0 kr26_1 kr26_2 kr29_0 kr29_1)
  (refine Cn_el vcn0 ?_; intros ki5_2 ki6_2 ki7_2 ki8_1 ki8_2 ki8_3 ki9_1 ki9_2 ki9_3 ki10_1 ki10_2 ki10_3 ki11_1 ki11_2 ki11_3 ki12_1 ki12_2 ki12_3 ki13_1 ki13_2 ki13_3 ki14_1 ki14_2 ki14_3 ki28_0 ki28_1 ki31_0 ki31_1 ki32_0 ki32_1 ki33_0 ki33_1 ki34_0 ki34_1 ki35_0 ki35_1 ki36_0 ki36_1)
  have hAe : ∀ i j, i < 40 → j < 40 → (A i = A j ↔ i = j) := hA
  have he := v0.1.symm
  have hc := (Sm_cT sm).1
  have b7 : (7 : Int32) = 7 := by decide
  rw [o243_44]
  simp only [o243_45, o243_46, o243_49, o243_50, o243_53, o243_54, o243_55, o243_56, o243_59, o243_60, o243_61, o243_64, o243_65, o243_66, o243_67, o243_70, o243_71, o243_72, o243_73, o243_74, c_X8_liesOf (x2 := A 25) (x3 := A 26) (a := A 27) (w := A 31) (r := A 34), c_X8_roomOf (x2 := A 25) (x3 := A 26) (a := A 27) (w := A 31) (r := A 34), mcs_0, mcs_l, Kn_v, true_and, not_true_eq_false, not_false_eq_true, false_implies, forall_const, if_true, Nat.reduceLeDiff, Nat.reduceAdd, lt_le, Int32.reduceLT, cl0, kc22, kc25, kc26, kc27, kc31, kc34, kn25, kn26, kn27, kr22_2, kr22_3, kr22_4, kr25_0, kr26_0, vq3, Int32.reduceLT, he, hc]
  refine ms_P0_0 (bc := bc + 22) (bs := bs + 2016) sm R (fun q0 f0 => ?_)
  obtain ⟨R0, s0⟩ := Rl_fr0 R f0
  have cs0 := Cs_fr0 R cs f0
  replace s0 := Sm_tr sm s0
  refine ms_P0_1 (bc := bc + 21) (bs := bs + 2009) s0 R0 (fun q1 f1 => ?_)
  obtain ⟨R1, s1⟩ := Rl_fr0 R0 f1
  have cs1 := Cs_fr0 R0 cs0 f1
  replace s1 := Sm_tr s0 s1
  refine ms_P0_2 (bc := bc + 20) (bs := bs + 2002) s1 R1 (fun q2 f2 => ?_)
  obtain ⟨R2, s2⟩ := Rl_fr0 R1 f2
  have cs2 := Cs_fr0 R1 cs1 f2
  replace s2 := Sm_tr s1 s2
  refine ms_P0_3 (bc := bc + 19) (bs := bs + 1995) s2 R2 (fun q3 f3 => ?_)
  obtain ⟨R3, s3⟩ := Rl_fr0 R2 f3
  have cs3 := Cs_fr0 R2 cs2 f3
  replace s3 := Sm_tr s2 s3
  refine ms_P0_4 (bc := bc + 18) (bs := bs + 1988) s3 R3 (fun q4 f4 => ?_)
  obtain ⟨R4, s4⟩ := Rl_fr0 R3 f4
  have cs4 := Cs_fr0 R3 cs3 f4
  replace s4 := Sm_tr s3 s4
  refine ms_P0_5 (bc := bc + 17) (bs := bs + 1981) s4 R4 (fun q5 f5 => ?_)
  obtain ⟨R5, s5⟩ := Rl_fr0 R4 f5
  have cs5 := Cs_fr0 R4 cs4 f5
  replace s5 := Sm_tr s4 s5
  refine ms_P0_6 (bc := bc + 16) (bs := bs + 1974) s5 R5 (fun q6 f6 => ?_)
  obtain ⟨R6, s6⟩ := Rl_fr0 R5 f6
  have cs6 := Cs_fr0 R5 cs5 f6
  replace s6 := Sm_tr s5 s6
  have c1 : (16 ≤ bc + 16) = True := eq_true (by omega)
  have c2 : (1974 ≤ bs + 1974) = True := eq_true (by omega)
  have c3 : bc + 16 - 16 = bc := by omega
  have c4 : bs + 1974 - 1974 = bs := by omega
  have R0 := R6
  obtain ⟨vk, vcn, v0, v1, v2, vp, vl0, vl1, vlr, vsr, vc, tx⟩ := R0
  have vk0 := vk
  have vcn0 := vcn
  (refine K_el vk0 ?_; intros hA kc0 kc1 kc2 kc3 kc4 kc5 kc6 kc7 kc8 kc9 kc10 kc11 kc12 kc13 kc14 kc15 kc16 kc17 kc18 kc19 kc20 kc21 kc22 kc23 kc24 kc25 kc26 kc27 kc28 kc29 kc30 kc31 kc32 kc33 kc34 kc35 kc36 kc37 kc38 kc39 kz kt kn3 kn4 kn18 kn21 kn23 kn24 kn25 kn26 kn27 kn29 kn30 kr0_0 kr0_1 kr0_2 kr0_3 kr0_4 kr0_5 kr0_7 kr0_8 kr0_9 kr0_10 kr1_0 kr2_0 kr5_0 kr5_1 kr6_0 kr6_1 kr7_0 kr7_1 kr8_0 kr9_0 kr10_0 kr11_0 kr12_0 kr13_0 kr14_0 kr15_0 kr16_0 kr17_0 kr19_0 kr19_1 kr22_0 kr22_1 kr22_2 kr22_3 kr22_4 kr22_5 kr22_7 kr22_8 kr25_0 kr25_1 kr25_2 kr26_0 kr26_1 kr26_2 kr29_0 kr29_1)
  (refine Cn_el vcn0 ?_; intros ki5_2 ki6_2 ki7_2 ki8_1 ki8_2 ki8_3 ki9_1 ki9_2 ki9_3 ki10_1 ki10_2 ki10_3 ki11_1 ki11_2 ki11_3 ki12_1 ki12_2 ki12_3 ki13_1 ki13_2 ki13_3 ki14_1 ki14_2 ki14_3 ki28_0 ki28_1 ki31_0 ki31_1 ki32_0 ki32_1 ki33_0 ki33_1 ki34_0 ki34_1 ki35_0 ki35_1 ki36_0 ki36_1)
  have hAe : ∀ i j, i < 40 → j < 40 → (A i = A j ↔ i = j) := hA
  rw [o243_76]
  simp only [o243_78, o243_80, o243_104, o243_105, o243_108, o243_109, o243_110, o243_111, mcs_0, mcs_l, true_and, and_true, not_true_eq_false, not_false_eq_true, false_implies, forall_const, Nat.reduceLeDiff, Nat.reduceAdd, lt_le, Int32.reduceLT, kc22, Int32.reduceLT, c1, c2, c3, c4]
  refine m_textOf0 R6 cs6 (fun q t sb hsb f st => ?_)
  have Rq := Rl_Fn R6 f hsb hsb
  have sq := Sm_tr s6 (Sm_Fn R6 f hsb)
  have cq := Cs_Fx cs6 f (Nat.le_trans (Rl_z R6) hsb) (Nat.le_trans (Rl_z R6) hsb)
  obtain ⟨t1, t2, t3, v, t4, t5, t6, t7⟩ := st
  rw [(Sm_qv s6).1, (Sm_cT s6).1] at t7
  simp only [o243_114, o243_117, o243_118, o243_119, o243_120, o243_123, J_slen (v := v), mcs_0, mcs_l, Kn_v, true_and, Nat.reduceLeDiff, Nat.reduceAdd, Int32.reduceAdd, t1, t3, t4, t5, t7]
  exact hQ q sq Rq cq

theorem ms_P1_0 {A : Nat → Nat} {d : Int64} {h0 m : MH} {Q : MR → MH → Prop} {bc bs : Nat} {a5 a6 a7 : Value} (sm : Sm A h0 m) (R : Rl A m) (hQ : ∀ q, Fr (p_i m (A 22) 9 0) q → Ok 243 76 [.ref (A 22), .long (dg1 d (g_i h0 (A 10) 4)), mk0, .int 1, .int 1, a5, a6, a7] [] q bc bs Q) : Ok 243 76 [.ref (A 22), .long (d), mk0, .int 1, .int 0, a5, a6, a7] [] m (bc + 1) (bs + 7) Q := by
  have R0 := R
  obtain ⟨vk, vcn, v0, v1, v2, vp, vl0, vl1, vlr, vsr, vc, tx⟩ := R0
  have vk0 := vk
  have vcn0 := vcn
  (refine K_el vk0 ?_; intros hA kc0 kc1 kc2 kc3 kc4 kc5 kc6 kc7 kc8 kc9 kc10 kc11 kc12 kc13 kc14 kc15 kc16 kc17 kc18 kc19 kc20 kc21 kc22 kc23 kc24 kc25 kc26 kc27 kc28 kc29 kc30 kc31 kc32 kc33 kc34 kc35 kc36 kc37 kc38 kc39 kz kt kn3 kn4 kn18 kn21 kn23 kn24 kn25 kn26 kn27 kn29 kn30 kr0_0 kr0_1 kr0_2 kr0_3 kr0_4 kr0_5 kr0_7 kr0_8 kr0_9 kr0_10 kr1_0 kr2_0 kr5_0 kr5_1 kr6_0 kr6_1 kr7_0 kr7_1 kr8_0 kr9_0 kr10_0 kr11_0 kr12_0 kr13_0 kr14_0 kr15_0 kr16_0 kr17_0 kr19_0 kr19_1 kr22_0 kr22_1 kr22_2 kr22_3 kr22_4 kr22_5 kr22_7 kr22_8 kr25_0 kr25_1 kr25_2 kr26_0 kr26_1 kr26_2 kr29_0 kr29_1)
  (refine Cn_el vcn0 ?_; intros ki5_2 ki6_2 ki7_2 ki8_1 ki8_2 ki8_3 ki9_1 ki9_2 ki9_3 ki10_1 ki10_2 ki10_3 ki11_1 ki11_2 ki11_3 ki12_1 ki12_2 ki12_3 ki13_1 ki13_2 ki13_3 ki14_1 ki14_2 ki14_3 ki28_0 ki28_1 ki31_0 ki31_1 ki32_0 ki32_1 ki33_0 ki33_1 ki34_0 ki34_1 ki35_0 ki35_1 ki36_0 ki36_1)
  have hAe : ∀ i j, i < 40 → j < 40 → (A i = A j ↔ i = j) := hA
  have b7 : (7 : Int32) = 7 := by decide
  have c1 : (1 ≤ bc + 1) = True := eq_true (by omega)
  have c2 : (7 ≤ bs + 7) = True := eq_true (by omega)
  have c3 : bc + 1 - 1 = bc := by omega
  have c4 : bs + 7 - 7 = bs := by omega
  (refine Sm_el sm ?_; intros i0 l0 i1 l1 i2 l2 i3 l3 i4 l4 i5 l5 i6 l6 i7 l7 i8 l8 i9 l9 i10 l10 i11 l11 i12 l12 i13 l13 i14 l14 i15 l15 i16 l16 i17 l17 i18 l18 i19 l19 i23 l23 i24 l24 i25 l25 i26 l26 i27 l27 i28 l28 i29 l29 i30 l30 i31 l31 i32 l32 i33 l33 i34 l34 i35 l35 i36 l36 i37 l37 i38 l38 i39 l39 i22)
  rw [o243_76]
  simp only [o243_78, o243_80, o243_83, o243_84, o243_87, o243_88, o243_89, o243_90, o243_92, mcs_0, mcs_l, true_and, not_true_eq_false, not_false_eq_true, false_implies, forall_const, Nat.reduceLeDiff, Nat.reduceAdd, lt_le, Int32.reduceLT, kc22, Int32.reduceLT, c1, c2, c3, c4]
  refine m_plX1_0 R (fun q f => ?_)
  simp only [o243_95, o243_96, o243_97, o243_98, o243_101, Kn_v, i10, Int32.reduceAdd, i10]
  exact hQ q f

theorem ms_P1_1 {A : Nat → Nat} {d : Int64} {h0 m : MH} {Q : MR → MH → Prop} {bc bs : Nat} {a5 a6 a7 : Value} (sm : Sm A h0 m) (R : Rl A m) (hQ : ∀ q, Fr (p_i m (A 22) 9 0) q → Ok 243 76 [.ref (A 22), .long (dg1 d (g_i h0 (A 10) 5)), mk0, .int 1, .int 2, a5, a6, a7] [] q bc bs Q) : Ok 243 76 [.ref (A 22), .long (d), mk0, .int 1, .int 1, a5, a6, a7] [] m (bc + 1) (bs + 7) Q := by
  have R0 := R
  obtain ⟨vk, vcn, v0, v1, v2, vp, vl0, vl1, vlr, vsr, vc, tx⟩ := R0
  have vk0 := vk
  have vcn0 := vcn
  (refine K_el vk0 ?_; intros hA kc0 kc1 kc2 kc3 kc4 kc5 kc6 kc7 kc8 kc9 kc10 kc11 kc12 kc13 kc14 kc15 kc16 kc17 kc18 kc19 kc20 kc21 kc22 kc23 kc24 kc25 kc26 kc27 kc28 kc29 kc30 kc31 kc32 kc33 kc34 kc35 kc36 kc37 kc38 kc39 kz kt kn3 kn4 kn18 kn21 kn23 kn24 kn25 kn26 kn27 kn29 kn30 kr0_0 kr0_1 kr0_2 kr0_3 kr0_4 kr0_5 kr0_7 kr0_8 kr0_9 kr0_10 kr1_0 kr2_0 kr5_0 kr5_1 kr6_0 kr6_1 kr7_0 kr7_1 kr8_0 kr9_0 kr10_0 kr11_0 kr12_0 kr13_0 kr14_0 kr15_0 kr16_0 kr17_0 kr19_0 kr19_1 kr22_0 kr22_1 kr22_2 kr22_3 kr22_4 kr22_5 kr22_7 kr22_8 kr25_0 kr25_1 kr25_2 kr26_0 kr26_1 kr26_2 kr29_0 kr29_1)
  (refine Cn_el vcn0 ?_; intros ki5_2 ki6_2 ki7_2 ki8_1 ki8_2 ki8_3 ki9_1 ki9_2 ki9_3 ki10_1 ki10_2 ki10_3 ki11_1 ki11_2 ki11_3 ki12_1 ki12_2 ki12_3 ki13_1 ki13_2 ki13_3 ki14_1 ki14_2 ki14_3 ki28_0 ki28_1 ki31_0 ki31_1 ki32_0 ki32_1 ki33_0 ki33_1 ki34_0 ki34_1 ki35_0 ki35_1 ki36_0 ki36_1)
  have hAe : ∀ i j, i < 40 → j < 40 → (A i = A j ↔ i = j) := hA
  have b7 : (7 : Int32) = 7 := by decide
  have c1 : (1 ≤ bc + 1) = True := eq_true (by omega)
  have c2 : (7 ≤ bs + 7) = True := eq_true (by omega)
  have c3 : bc + 1 - 1 = bc := by omega
  have c4 : bs + 7 - 7 = bs := by omega
  (refine Sm_el sm ?_; intros i0 l0 i1 l1 i2 l2 i3 l3 i4 l4 i5 l5 i6 l6 i7 l7 i8 l8 i9 l9 i10 l10 i11 l11 i12 l12 i13 l13 i14 l14 i15 l15 i16 l16 i17 l17 i18 l18 i19 l19 i23 l23 i24 l24 i25 l25 i26 l26 i27 l27 i28 l28 i29 l29 i30 l30 i31 l31 i32 l32 i33 l33 i34 l34 i35 l35 i36 l36 i37 l37 i38 l38 i39 l39 i22)
  rw [o243_76]
  simp only [o243_78, o243_80, o243_83, o243_84, o243_87, o243_88, o243_89, o243_90, o243_92, mcs_0, mcs_l, true_and, not_true_eq_false, not_false_eq_true, false_implies, forall_const, Nat.reduceLeDiff, Nat.reduceAdd, lt_le, Int32.reduceLT, kc22, Int32.reduceLT, c1, c2, c3, c4]
  refine m_plX1_1 R (fun q f => ?_)
  simp only [o243_95, o243_96, o243_97, o243_98, o243_101, Kn_v, i10, Int32.reduceAdd, i10]
  exact hQ q f

theorem ms_P1_2 {A : Nat → Nat} {d : Int64} {h0 m : MH} {Q : MR → MH → Prop} {bc bs : Nat} {a5 a6 a7 : Value} (sm : Sm A h0 m) (R : Rl A m) (hQ : ∀ q, Fr (p_i m (A 22) 9 0) q → Ok 243 76 [.ref (A 22), .long (dg1 d (g_i h0 (A 11) 4)), mk0, .int 1, .int 3, a5, a6, a7] [] q bc bs Q) : Ok 243 76 [.ref (A 22), .long (d), mk0, .int 1, .int 2, a5, a6, a7] [] m (bc + 1) (bs + 7) Q := by
  have R0 := R
  obtain ⟨vk, vcn, v0, v1, v2, vp, vl0, vl1, vlr, vsr, vc, tx⟩ := R0
  have vk0 := vk
  have vcn0 := vcn
  (refine K_el vk0 ?_; intros hA kc0 kc1 kc2 kc3 kc4 kc5 kc6 kc7 kc8 kc9 kc10 kc11 kc12 kc13 kc14 kc15 kc16 kc17 kc18 kc19 kc20 kc21 kc22 kc23 kc24 kc25 kc26 kc27 kc28 kc29 kc30 kc31 kc32 kc33 kc34 kc35 kc36 kc37 kc38 kc39 kz kt kn3 kn4 kn18 kn21 kn23 kn24 kn25 kn26 kn27 kn29 kn30 kr0_0 kr0_1 kr0_2 kr0_3 kr0_4 kr0_5 kr0_7 kr0_8 kr0_9 kr0_10 kr1_0 kr2_0 kr5_0 kr5_1 kr6_0 kr6_1 kr7_0 kr7_1 kr8_0 kr9_0 kr10_0 kr11_0 kr12_0 kr13_0 kr14_0 kr15_0 kr16_0 kr17_0 kr19_0 kr19_1 kr22_0 kr22_1 kr22_2 kr22_3 kr22_4 kr22_5 kr22_7 kr22_8 kr25_0 kr25_1 kr25_2 kr26_0 kr26_1 kr26_2 kr29_0 kr29_1)
  (refine Cn_el vcn0 ?_; intros ki5_2 ki6_2 ki7_2 ki8_1 ki8_2 ki8_3 ki9_1 ki9_2 ki9_3 ki10_1 ki10_2 ki10_3 ki11_1 ki11_2 ki11_3 ki12_1 ki12_2 ki12_3 ki13_1 ki13_2 ki13_3 ki14_1 ki14_2 ki14_3 ki28_0 ki28_1 ki31_0 ki31_1 ki32_0 ki32_1 ki33_0 ki33_1 ki34_0 ki34_1 ki35_0 ki35_1 ki36_0 ki36_1)
  have hAe : ∀ i j, i < 40 → j < 40 → (A i = A j ↔ i = j) := hA
  have b7 : (7 : Int32) = 7 := by decide
  have c1 : (1 ≤ bc + 1) = True := eq_true (by omega)
  have c2 : (7 ≤ bs + 7) = True := eq_true (by omega)
  have c3 : bc + 1 - 1 = bc := by omega
  have c4 : bs + 7 - 7 = bs := by omega
  (refine Sm_el sm ?_; intros i0 l0 i1 l1 i2 l2 i3 l3 i4 l4 i5 l5 i6 l6 i7 l7 i8 l8 i9 l9 i10 l10 i11 l11 i12 l12 i13 l13 i14 l14 i15 l15 i16 l16 i17 l17 i18 l18 i19 l19 i23 l23 i24 l24 i25 l25 i26 l26 i27 l27 i28 l28 i29 l29 i30 l30 i31 l31 i32 l32 i33 l33 i34 l34 i35 l35 i36 l36 i37 l37 i38 l38 i39 l39 i22)
  rw [o243_76]
  simp only [o243_78, o243_80, o243_83, o243_84, o243_87, o243_88, o243_89, o243_90, o243_92, mcs_0, mcs_l, true_and, not_true_eq_false, not_false_eq_true, false_implies, forall_const, Nat.reduceLeDiff, Nat.reduceAdd, lt_le, Int32.reduceLT, kc22, Int32.reduceLT, c1, c2, c3, c4]
  refine m_plX1_2 R (fun q f => ?_)
  simp only [o243_95, o243_96, o243_97, o243_98, o243_101, Kn_v, Int32.reduceAdd, i11]
  exact hQ q f

theorem ms_P1_3 {A : Nat → Nat} {d : Int64} {h0 m : MH} {Q : MR → MH → Prop} {bc bs : Nat} {a5 a6 a7 : Value} (sm : Sm A h0 m) (R : Rl A m) (hQ : ∀ q, Fr (p_i m (A 22) 9 0) q → Ok 243 76 [.ref (A 22), .long (dg1 d (g_i h0 (A 11) 5)), mk0, .int 1, .int 4, a5, a6, a7] [] q bc bs Q) : Ok 243 76 [.ref (A 22), .long (d), mk0, .int 1, .int 3, a5, a6, a7] [] m (bc + 1) (bs + 7) Q := by
  have R0 := R
  obtain ⟨vk, vcn, v0, v1, v2, vp, vl0, vl1, vlr, vsr, vc, tx⟩ := R0
  have vk0 := vk
  have vcn0 := vcn
  (refine K_el vk0 ?_; intros hA kc0 kc1 kc2 kc3 kc4 kc5 kc6 kc7 kc8 kc9 kc10 kc11 kc12 kc13 kc14 kc15 kc16 kc17 kc18 kc19 kc20 kc21 kc22 kc23 kc24 kc25 kc26 kc27 kc28 kc29 kc30 kc31 kc32 kc33 kc34 kc35 kc36 kc37 kc38 kc39 kz kt kn3 kn4 kn18 kn21 kn23 kn24 kn25 kn26 kn27 kn29 kn30 kr0_0 kr0_1 kr0_2 kr0_3 kr0_4 kr0_5 kr0_7 kr0_8 kr0_9 kr0_10 kr1_0 kr2_0 kr5_0 kr5_1 kr6_0 kr6_1 kr7_0 kr7_1 kr8_0 kr9_0 kr10_0 kr11_0 kr12_0 kr13_0 kr14_0 kr15_0 kr16_0 kr17_0 kr19_0 kr19_1 kr22_0 kr22_1 kr22_2 kr22_3 kr22_4 kr22_5 kr22_7 kr22_8 kr25_0 kr25_1 kr25_2 kr26_0 kr26_1 kr26_2 kr29_0 kr29_1)
  (refine Cn_el vcn0 ?_; intros ki5_2 ki6_2 ki7_2 ki8_1 ki8_2 ki8_3 ki9_1 ki9_2 ki9_3 ki10_1 ki10_2 ki10_3 ki11_1 ki11_2 ki11_3 ki12_1 ki12_2 ki12_3 ki13_1 ki13_2 ki13_3 ki14_1 ki14_2 ki14_3 ki28_0 ki28_1 ki31_0 ki31_1 ki32_0 ki32_1 ki33_0 ki33_1 ki34_0 ki34_1 ki35_0 ki35_1 ki36_0 ki36_1)
  have hAe : ∀ i j, i < 40 → j < 40 → (A i = A j ↔ i = j) := hA
  have b7 : (7 : Int32) = 7 := by decide
  have c1 : (1 ≤ bc + 1) = True := eq_true (by omega)
  have c2 : (7 ≤ bs + 7) = True := eq_true (by omega)
  have c3 : bc + 1 - 1 = bc := by omega
  have c4 : bs + 7 - 7 = bs := by omega
  (refine Sm_el sm ?_; intros i0 l0 i1 l1 i2 l2 i3 l3 i4 l4 i5 l5 i6 l6 i7 l7 i8 l8 i9 l9 i10 l10 i11 l11 i12 l12 i13 l13 i14 l14 i15 l15 i16 l16 i17 l17 i18 l18 i19 l19 i23 l23 i24 l24 i25 l25 i26 l26 i27 l27 i28 l28 i29 l29 i30 l30 i31 l31 i32 l32 i33 l33 i34 l34 i35 l35 i36 l36 i37 l37 i38 l38 i39 l39 i22)
  rw [o243_76]
  simp only [o243_78, o243_80, o243_83, o243_84, o243_87, o243_88, o243_89, o243_90, o243_92, mcs_0, mcs_l, true_and, not_true_eq_false, not_false_eq_true, false_implies, forall_const, Nat.reduceLeDiff, Nat.reduceAdd, lt_le, Int32.reduceLT, kc22, Int32.reduceLT, c1, c2, c3, c4]
  refine m_plX1_3 R (fun q f => ?_)
  simp only [o243_95, o243_96, o243_97, o243_98, o243_101, Kn_v, Int32.reduceAdd, i11]
  exact hQ q f

theorem ms_P1_4 {A : Nat → Nat} {d : Int64} {h0 m : MH} {Q : MR → MH → Prop} {bc bs : Nat} {a5 a6 a7 : Value} (sm : Sm A h0 m) (R : Rl A m) (hQ : ∀ q, Fr (p_i m (A 22) 9 0) q → Ok 243 76 [.ref (A 22), .long (dg1 d (g_i h0 (A 11) 6)), mk0, .int 1, .int 5, a5, a6, a7] [] q bc bs Q) : Ok 243 76 [.ref (A 22), .long (d), mk0, .int 1, .int 4, a5, a6, a7] [] m (bc + 1) (bs + 7) Q := by
  have R0 := R
  obtain ⟨vk, vcn, v0, v1, v2, vp, vl0, vl1, vlr, vsr, vc, tx⟩ := R0
  have vk0 := vk
  have vcn0 := vcn
  (refine K_el vk0 ?_; intros hA kc0 kc1 kc2 kc3 kc4 kc5 kc6 kc7 kc8 kc9 kc10 kc11 kc12 kc13 kc14 kc15 kc16 kc17 kc18 kc19 kc20 kc21 kc22 kc23 kc24 kc25 kc26 kc27 kc28 kc29 kc30 kc31 kc32 kc33 kc34 kc35 kc36 kc37 kc38 kc39 kz kt kn3 kn4 kn18 kn21 kn23 kn24 kn25 kn26 kn27 kn29 kn30 kr0_0 kr0_1 kr0_2 kr0_3 kr0_4 kr0_5 kr0_7 kr0_8 kr0_9 kr0_10 kr1_0 kr2_0 kr5_0 kr5_1 kr6_0 kr6_1 kr7_0 kr7_1 kr8_0 kr9_0 kr10_0 kr11_0 kr12_0 kr13_0 kr14_0 kr15_0 kr16_0 kr17_0 kr19_0 kr19_1 kr22_0 kr22_1 kr22_2 kr22_3 kr22_4 kr22_5 kr22_7 kr22_8 kr25_0 kr25_1 kr25_2 kr26_0 kr26_1 kr26_2 kr29_0 kr29_1)
  (refine Cn_el vcn0 ?_; intros ki5_2 ki6_2 ki7_2 ki8_1 ki8_2 ki8_3 ki9_1 ki9_2 ki9_3 ki10_1 ki10_2 ki10_3 ki11_1 ki11_2 ki11_3 ki12_1 ki12_2 ki12_3 ki13_1 ki13_2 ki13_3 ki14_1 ki14_2 ki14_3 ki28_0 ki28_1 ki31_0 ki31_1 ki32_0 ki32_1 ki33_0 ki33_1 ki34_0 ki34_1 ki35_0 ki35_1 ki36_0 ki36_1)
  have hAe : ∀ i j, i < 40 → j < 40 → (A i = A j ↔ i = j) := hA
  have b7 : (7 : Int32) = 7 := by decide
  have c1 : (1 ≤ bc + 1) = True := eq_true (by omega)
  have c2 : (7 ≤ bs + 7) = True := eq_true (by omega)
  have c3 : bc + 1 - 1 = bc := by omega
  have c4 : bs + 7 - 7 = bs := by omega
  (refine Sm_el sm ?_; intros i0 l0 i1 l1 i2 l2 i3 l3 i4 l4 i5 l5 i6 l6 i7 l7 i8 l8 i9 l9 i10 l10 i11 l11 i12 l12 i13 l13 i14 l14 i15 l15 i16 l16 i17 l17 i18 l18 i19 l19 i23 l23 i24 l24 i25 l25 i26 l26 i27 l27 i28 l28 i29 l29 i30 l30 i31 l31 i32 l32 i33 l33 i34 l34 i35 l35 i36 l36 i37 l37 i38 l38 i39 l39 i22)
  rw [o243_76]
  simp only [o243_78, o243_80, o243_83, o243_84, o243_87, o243_88, o243_89, o243_90, o243_92, mcs_0, mcs_l, true_and, not_true_eq_false, not_false_eq_true, false_implies, forall_const, Nat.reduceLeDiff, Nat.reduceAdd, lt_le, Int32.reduceLT, kc22, Int32.reduceLT, c1, c2, c3, c4]
  refine m_plX1_4 R (fun q f => ?_)
  simp only [o243_95, o243_96, o243_97, o243_98, o243_101, Kn_v, Int32.reduceAdd, i11]
  exact hQ q f

theorem ms_P1_5 {A : Nat → Nat} {d : Int64} {h0 m : MH} {Q : MR → MH → Prop} {bc bs : Nat} {a5 a6 a7 : Value} (sm : Sm A h0 m) (R : Rl A m) (hQ : ∀ q, Fr (p_i m (A 22) 9 0) q → Ok 243 76 [.ref (A 22), .long (dg1 d (3)), mk0, .int 1, .int 6, a5, a6, a7] [] q bc bs Q) : Ok 243 76 [.ref (A 22), .long (d), mk0, .int 1, .int 5, a5, a6, a7] [] m (bc + 1) (bs + 7) Q := by
  have R0 := R
  obtain ⟨vk, vcn, v0, v1, v2, vp, vl0, vl1, vlr, vsr, vc, tx⟩ := R0
  have vk0 := vk
  have vcn0 := vcn
  (refine K_el vk0 ?_; intros hA kc0 kc1 kc2 kc3 kc4 kc5 kc6 kc7 kc8 kc9 kc10 kc11 kc12 kc13 kc14 kc15 kc16 kc17 kc18 kc19 kc20 kc21 kc22 kc23 kc24 kc25 kc26 kc27 kc28 kc29 kc30 kc31 kc32 kc33 kc34 kc35 kc36 kc37 kc38 kc39 kz kt kn3 kn4 kn18 kn21 kn23 kn24 kn25 kn26 kn27 kn29 kn30 kr0_0 kr0_1 kr0_2 kr0_3 kr0_4 kr0_5 kr0_7 kr0_8 kr0_9 kr0_10 kr1_0 kr2_0 kr5_0 kr5_1 kr6_0 kr6_1 kr7_0 kr7_1 kr8_0 kr9_0 kr10_0 kr11_0 kr12_0 kr13_0 kr14_0 kr15_0 kr16_0 kr17_0 kr19_0 kr19_1 kr22_0 kr22_1 kr22_2 kr22_3 kr22_4 kr22_5 kr22_7 kr22_8 kr25_0 kr25_1 kr25_2 kr26_0 kr26_1 kr26_2 kr29_0 kr29_1)
  (refine Cn_el vcn0 ?_; intros ki5_2 ki6_2 ki7_2 ki8_1 ki8_2 ki8_3 ki9_1 ki9_2 ki9_3 ki10_1 ki10_2 ki10_3 ki11_1 ki11_2 ki11_3 ki12_1 ki12_2 ki12_3 ki13_1 ki13_2 ki13_3 ki14_1 ki14_2 ki14_3 ki28_0 ki28_1 ki31_0 ki31_1 ki32_0 ki32_1 ki33_0 ki33_1 ki34_0 ki34_1 ki35_0 ki35_1 ki36_0 ki36_1)
  have hAe : ∀ i j, i < 40 → j < 40 → (A i = A j ↔ i = j) := hA
  have b7 : (7 : Int32) = 7 := by decide
  have c1 : (1 ≤ bc + 1) = True := eq_true (by omega)
  have c2 : (7 ≤ bs + 7) = True := eq_true (by omega)
  have c3 : bc + 1 - 1 = bc := by omega
  have c4 : bs + 7 - 7 = bs := by omega
  (refine Sm_el sm ?_; intros i0 l0 i1 l1 i2 l2 i3 l3 i4 l4 i5 l5 i6 l6 i7 l7 i8 l8 i9 l9 i10 l10 i11 l11 i12 l12 i13 l13 i14 l14 i15 l15 i16 l16 i17 l17 i18 l18 i19 l19 i23 l23 i24 l24 i25 l25 i26 l26 i27 l27 i28 l28 i29 l29 i30 l30 i31 l31 i32 l32 i33 l33 i34 l34 i35 l35 i36 l36 i37 l37 i38 l38 i39 l39 i22)
  rw [o243_76]
  simp only [o243_78, o243_80, o243_83, o243_84, o243_87, o243_88, o243_89, o243_90, o243_92, mcs_0, mcs_l, true_and, not_true_eq_false, not_false_eq_true, false_implies, forall_const, Nat.reduceLeDiff, Nat.reduceAdd, lt_le, Int32.reduceLT, kc22, Int32.reduceLT, c1, c2, c3, c4]
  refine m_plX1_5 R (fun q f => ?_)
  simp only [o243_95, o243_96, o243_97, o243_98, o243_101, Kn_v, Int32.reduceAdd]
  exact hQ q f

theorem ms_P1_6 {A : Nat → Nat} {d : Int64} {h0 m : MH} {Q : MR → MH → Prop} {bc bs : Nat} {a5 a6 a7 : Value} (sm : Sm A h0 m) (R : Rl A m) (hQ : ∀ q, Fr (p_i m (A 22) 9 0) q → Ok 243 76 [.ref (A 22), .long (dg1 d (6)), mk0, .int 1, .int 7, a5, a6, a7] [] q bc bs Q) : Ok 243 76 [.ref (A 22), .long (d), mk0, .int 1, .int 6, a5, a6, a7] [] m (bc + 1) (bs + 7) Q := by
  have R0 := R
  obtain ⟨vk, vcn, v0, v1, v2, vp, vl0, vl1, vlr, vsr, vc, tx⟩ := R0
  have vk0 := vk
  have vcn0 := vcn
  (refine K_el vk0 ?_; intros hA kc0 kc1 kc2 kc3 kc4 kc5 kc6 kc7 kc8 kc9 kc10 kc11 kc12 kc13 kc14 kc15 kc16 kc17 kc18 kc19 kc20 kc21 kc22 kc23 kc24 kc25 kc26 kc27 kc28 kc29 kc30 kc31 kc32 kc33 kc34 kc35 kc36 kc37 kc38 kc39 kz kt kn3 kn4 kn18 kn21 kn23 kn24 kn25 kn26 kn27 kn29 kn30 kr0_0 kr0_1 kr0_2 kr0_3 kr0_4 kr0_5 kr0_7 kr0_8 kr0_9 kr0_10 kr1_0 kr2_0 kr5_0 kr5_1 kr6_0 kr6_1 kr7_0 kr7_1 kr8_0 kr9_0 kr10_0 kr11_0 kr12_0 kr13_0 kr14_0 kr15_0 kr16_0 kr17_0 kr19_0 kr19_1 kr22_0 kr22_1 kr22_2 kr22_3 kr22_4 kr22_5 kr22_7 kr22_8 kr25_0 kr25_1 kr25_2 kr26_0 kr26_1 kr26_2 kr29_0 kr29_1)
  (refine Cn_el vcn0 ?_; intros ki5_2 ki6_2 ki7_2 ki8_1 ki8_2 ki8_3 ki9_1 ki9_2 ki9_3 ki10_1 ki10_2 ki10_3 ki11_1 ki11_2 ki11_3 ki12_1 ki12_2 ki12_3 ki13_1 ki13_2 ki13_3 ki14_1 ki14_2 ki14_3 ki28_0 ki28_1 ki31_0 ki31_1 ki32_0 ki32_1 ki33_0 ki33_1 ki34_0 ki34_1 ki35_0 ki35_1 ki36_0 ki36_1)
  have hAe : ∀ i j, i < 40 → j < 40 → (A i = A j ↔ i = j) := hA
  have b7 : (7 : Int32) = 7 := by decide
  have c1 : (1 ≤ bc + 1) = True := eq_true (by omega)
  have c2 : (7 ≤ bs + 7) = True := eq_true (by omega)
  have c3 : bc + 1 - 1 = bc := by omega
  have c4 : bs + 7 - 7 = bs := by omega
  (refine Sm_el sm ?_; intros i0 l0 i1 l1 i2 l2 i3 l3 i4 l4 i5 l5 i6 l6 i7 l7 i8 l8 i9 l9 i10 l10 i11 l11 i12 l12 i13 l13 i14 l14 i15 l15 i16 l16 i17 l17 i18 l18 i19 l19 i23 l23 i24 l24 i25 l25 i26 l26 i27 l27 i28 l28 i29 l29 i30 l30 i31 l31 i32 l32 i33 l33 i34 l34 i35 l35 i36 l36 i37 l37 i38 l38 i39 l39 i22)
  rw [o243_76]
  simp only [o243_78, o243_80, o243_83, o243_84, o243_87, o243_88, o243_89, o243_90, o243_92, mcs_0, mcs_l, true_and, not_true_eq_false, not_false_eq_true, false_implies, forall_const, Nat.reduceLeDiff, Nat.reduceAdd, lt_le, Int32.reduceLT, kc22, Int32.reduceLT, c1, c2, c3, c4]
  refine m_plX1_6 R (fun q f => ?_)
  simp only [o243_95, o243_96, o243_97, o243_98, o243_101, Kn_v, Int32.reduceAdd]
  exact hQ q f

theorem ms_Q1 {A : Nat → Nat} {d : Int64} {h0 m : MH} {Q : MR → MH → Prop} {bc bs : Nat} {a4 a5 a6 a7 : Value} (sm : Sm A h0 m) (R : Rl A m) (cs : Cs m) (hQ : ∀ q, Sm A h0 q → Rl A q → Cs q → Ok 243 44 [.ref (A 22), .long (dQ1 A h0 d), mk0, .int 2, .int 7, a5, a6, a7] [] q bc bs Q) : Ok 243 44 [.ref (A 22), .long (d), mk0, .int 1, a4, a5, a6, a7] [] m (bc + 23) (bs + 2023) Q := by
  have R0 := R
  obtain ⟨vk, vcn, v0, v1, v2, vp, vl0, vl1, vlr, vsr, vc, tx⟩ := R0
  have vk0 := vk
  have vcn0 := vcn
  (refine K_el vk0 ?_; intros hA kc0 kc1 kc2 kc3 kc4 kc5 kc6 kc7 kc8 kc9 kc10 kc11 kc12 kc13 kc14 kc15 kc16 kc17 kc18 kc19 kc20 kc21 kc22 kc23 kc24 kc25 kc26 kc27 kc28 kc29 kc30 kc31 kc32 kc33 kc34 kc35 kc36 kc37 kc38 kc39 kz kt kn3 kn4 kn18 kn21 kn23 kn24 kn25 kn26 kn27 kn29 kn30 kr0_0 kr0_1 kr0_2 kr0_3 kr0_4 kr0_5 kr0_7 kr0_8 kr0_9 kr0_10 kr1_0 kr2_0 kr5_0 kr5_1 kr6_0 kr6_1 kr7_0 kr7_1 kr8_0 kr9_0 kr10_0 kr11_0 kr12_0 kr13_0 kr14_0 kr15_0 kr16_0 kr17_0 kr19_0 kr19_1 kr22_0 kr22_1 kr22_2 kr22_3 kr22_4 kr22_5 kr22_7 kr22_8 kr25_0 kr25_1 kr25_2 kr26_0 kr26_1 kr26_2 kr29_0 kr29_1)
  (refine Cn_el vcn0 ?_; intros ki5_2 ki6_2 ki7_2 ki8_1 ki8_2 ki8_3 ki9_1 ki9_2 ki9_3 ki10_1 ki10_2 ki10_3 ki11_1 ki11_2 ki11_3 ki12_1 ki12_2 ki12_3 ki13_1 ki13_2 ki13_3 ki14_1 ki14_2 ki14_3 ki28_0 ki28_1 ki31_0 ki31_1 ki32_0 ki32_1 ki33_0 ki33_1 ki34_0 ki34_1 ki35_0 ki35_1 ki36_0 ki36_1)
  have hAe : ∀ i j, i < 40 → j < 40 → (A i = A j ↔ i = j) := hA
  have he := v1.1.symm
  have hc := (Sm_cT sm).2.1
  have b7 : (7 : Int32) = 7 := by decide
  rw [o243_44]
  simp only [o243_45, o243_46, o243_49, o243_50, o243_53, o243_54, o243_55, o243_56, o243_59, o243_60, o243_61, o243_64, o243_65, o243_66, o243_67, o243_70, o243_71, o243_72, o243_73, o243_74, c_X8_liesOf (x2 := A 25) (x3 := A 26) (a := A 27) (w := A 32) (r := A 35), c_X8_roomOf (x2 := A 25) (x3 := A 26) (a := A 27) (w := A 32) (r := A 35), mcs_0, mcs_l, Kn_v, true_and, not_true_eq_false, not_false_eq_true, false_implies, forall_const, if_true, Nat.reduceLeDiff, Nat.reduceAdd, lt_le, Int32.reduceLT, cl1, kc22, kc25, kc26, kc27, kc32, kc35, kn25, kn26, kn27, kr22_2, kr22_3, kr22_4, kr25_1, kr26_1, vq3, Int32.reduceLT, he, hc]
  refine ms_P1_0 (bc := bc + 22) (bs := bs + 2016) sm R (fun q0 f0 => ?_)
  obtain ⟨R0, s0⟩ := Rl_fr0 R f0
  have cs0 := Cs_fr0 R cs f0
  replace s0 := Sm_tr sm s0
  refine ms_P1_1 (bc := bc + 21) (bs := bs + 2009) s0 R0 (fun q1 f1 => ?_)
  obtain ⟨R1, s1⟩ := Rl_fr0 R0 f1
  have cs1 := Cs_fr0 R0 cs0 f1
  replace s1 := Sm_tr s0 s1
  refine ms_P1_2 (bc := bc + 20) (bs := bs + 2002) s1 R1 (fun q2 f2 => ?_)
  obtain ⟨R2, s2⟩ := Rl_fr0 R1 f2
  have cs2 := Cs_fr0 R1 cs1 f2
  replace s2 := Sm_tr s1 s2
  refine ms_P1_3 (bc := bc + 19) (bs := bs + 1995) s2 R2 (fun q3 f3 => ?_)
  obtain ⟨R3, s3⟩ := Rl_fr0 R2 f3
  have cs3 := Cs_fr0 R2 cs2 f3
  replace s3 := Sm_tr s2 s3
  refine ms_P1_4 (bc := bc + 18) (bs := bs + 1988) s3 R3 (fun q4 f4 => ?_)
  obtain ⟨R4, s4⟩ := Rl_fr0 R3 f4
  have cs4 := Cs_fr0 R3 cs3 f4
  replace s4 := Sm_tr s3 s4
  refine ms_P1_5 (bc := bc + 17) (bs := bs + 1981) s4 R4 (fun q5 f5 => ?_)
  obtain ⟨R5, s5⟩ := Rl_fr0 R4 f5
  have cs5 := Cs_fr0 R4 cs4 f5
  replace s5 := Sm_tr s4 s5
  refine ms_P1_6 (bc := bc + 16) (bs := bs + 1974) s5 R5 (fun q6 f6 => ?_)
  obtain ⟨R6, s6⟩ := Rl_fr0 R5 f6
  have cs6 := Cs_fr0 R5 cs5 f6
  replace s6 := Sm_tr s5 s6
  have c1 : (16 ≤ bc + 16) = True := eq_true (by omega)
  have c2 : (1974 ≤ bs + 1974) = True := eq_true (by omega)
  have c3 : bc + 16 - 16 = bc := by omega
  have c4 : bs + 1974 - 1974 = bs := by omega
  have R0 := R6
  obtain ⟨vk, vcn, v0, v1, v2, vp, vl0, vl1, vlr, vsr, vc, tx⟩ := R0
  have vk0 := vk
  have vcn0 := vcn
  (refine K_el vk0 ?_; intros hA kc0 kc1 kc2 kc3 kc4 kc5 kc6 kc7 kc8 kc9 kc10 kc11 kc12 kc13 kc14 kc15 kc16 kc17 kc18 kc19 kc20 kc21 kc22 kc23 kc24 kc25 kc26 kc27 kc28 kc29 kc30 kc31 kc32 kc33 kc34 kc35 kc36 kc37 kc38 kc39 kz kt kn3 kn4 kn18 kn21 kn23 kn24 kn25 kn26 kn27 kn29 kn30 kr0_0 kr0_1 kr0_2 kr0_3 kr0_4 kr0_5 kr0_7 kr0_8 kr0_9 kr0_10 kr1_0 kr2_0 kr5_0 kr5_1 kr6_0 kr6_1 kr7_0 kr7_1 kr8_0 kr9_0 kr10_0 kr11_0 kr12_0 kr13_0 kr14_0 kr15_0 kr16_0 kr17_0 kr19_0 kr19_1 kr22_0 kr22_1 kr22_2 kr22_3 kr22_4 kr22_5 kr22_7 kr22_8 kr25_0 kr25_1 kr25_2 kr26_0 kr26_1 kr26_2 kr29_0 kr29_1)
  (refine Cn_el vcn0 ?_; intros ki5_2 ki6_2 ki7_2 ki8_1 ki8_2 ki8_3 ki9_1 ki9_2 ki9_3 ki10_1 ki10_2 ki10_3 ki11_1 ki11_2 ki11_3 ki12_1 ki12_2 ki12_3 ki13_1 ki13_2 ki13_3 ki14_1 ki14_2 ki14_3 ki28_0 ki28_1 ki31_0 ki31_1 ki32_0 ki32_1 ki33_0 ki33_1 ki34_0 ki34_1 ki35_0 ki35_1 ki36_0 ki36_1)
  have hAe : ∀ i j, i < 40 → j < 40 → (A i = A j ↔ i = j) := hA
  rw [o243_76]
  simp only [o243_78, o243_80, o243_104, o243_105, o243_108, o243_109, o243_110, o243_111, mcs_0, mcs_l, true_and, and_true, not_true_eq_false, not_false_eq_true, false_implies, forall_const, Nat.reduceLeDiff, Nat.reduceAdd, lt_le, Int32.reduceLT, kc22, Int32.reduceLT, c1, c2, c3, c4]
  refine m_textOf1 R6 cs6 (fun q t sb hsb f st => ?_)
  have Rq := Rl_Fn R6 f hsb hsb
  have sq := Sm_tr s6 (Sm_Fn R6 f hsb)
  have cq := Cs_Fx cs6 f (Nat.le_trans (Rl_z R6) hsb) (Nat.le_trans (Rl_z R6) hsb)
  obtain ⟨t1, t2, t3, v, t4, t5, t6, t7⟩ := st
  rw [(Sm_qv s6).2.1, (Sm_cT s6).2.1] at t7
  simp only [o243_114, o243_117, o243_118, o243_119, o243_120, o243_123, J_slen (v := v), mcs_0, mcs_l, Kn_v, true_and, Nat.reduceLeDiff, Nat.reduceAdd, Int32.reduceAdd, t1, t3, t4, t5, t7]
  exact hQ q sq Rq cq

theorem ms_P2_0 {A : Nat → Nat} {d : Int64} {h0 m : MH} {Q : MR → MH → Prop} {bc bs : Nat} {a5 a6 a7 : Value} (sm : Sm A h0 m) (R : Rl A m) (hQ : ∀ q, Fr (p_i m (A 22) 9 0) q → Ok 243 76 [.ref (A 22), .long (dg1 d (g_i h0 (A 12) 4)), mk0, .int 2, .int 1, a5, a6, a7] [] q bc bs Q) : Ok 243 76 [.ref (A 22), .long (d), mk0, .int 2, .int 0, a5, a6, a7] [] m (bc + 1) (bs + 7) Q := by
  have R0 := R
  obtain ⟨vk, vcn, v0, v1, v2, vp, vl0, vl1, vlr, vsr, vc, tx⟩ := R0
  have vk0 := vk
  have vcn0 := vcn
  (refine K_el vk0 ?_; intros hA kc0 kc1 kc2 kc3 kc4 kc5 kc6 kc7 kc8 kc9 kc10 kc11 kc12 kc13 kc14 kc15 kc16 kc17 kc18 kc19 kc20 kc21 kc22 kc23 kc24 kc25 kc26 kc27 kc28 kc29 kc30 kc31 kc32 kc33 kc34 kc35 kc36 kc37 kc38 kc39 kz kt kn3 kn4 kn18 kn21 kn23 kn24 kn25 kn26 kn27 kn29 kn30 kr0_0 kr0_1 kr0_2 kr0_3 kr0_4 kr0_5 kr0_7 kr0_8 kr0_9 kr0_10 kr1_0 kr2_0 kr5_0 kr5_1 kr6_0 kr6_1 kr7_0 kr7_1 kr8_0 kr9_0 kr10_0 kr11_0 kr12_0 kr13_0 kr14_0 kr15_0 kr16_0 kr17_0 kr19_0 kr19_1 kr22_0 kr22_1 kr22_2 kr22_3 kr22_4 kr22_5 kr22_7 kr22_8 kr25_0 kr25_1 kr25_2 kr26_0 kr26_1 kr26_2 kr29_0 kr29_1)
  (refine Cn_el vcn0 ?_; intros ki5_2 ki6_2 ki7_2 ki8_1 ki8_2 ki8_3 ki9_1 ki9_2 ki9_3 ki10_1 ki10_2 ki10_3 ki11_1 ki11_2 ki11_3 ki12_1 ki12_2 ki12_3 ki13_1 ki13_2 ki13_3 ki14_1 ki14_2 ki14_3 ki28_0 ki28_1 ki31_0 ki31_1 ki32_0 ki32_1 ki33_0 ki33_1 ki34_0 ki34_1 ki35_0 ki35_1 ki36_0 ki36_1)
  have hAe : ∀ i j, i < 40 → j < 40 → (A i = A j ↔ i = j) := hA
  have b7 : (7 : Int32) = 7 := by decide
  have c1 : (1 ≤ bc + 1) = True := eq_true (by omega)
  have c2 : (7 ≤ bs + 7) = True := eq_true (by omega)
  have c3 : bc + 1 - 1 = bc := by omega
  have c4 : bs + 7 - 7 = bs := by omega
  (refine Sm_el sm ?_; intros i0 l0 i1 l1 i2 l2 i3 l3 i4 l4 i5 l5 i6 l6 i7 l7 i8 l8 i9 l9 i10 l10 i11 l11 i12 l12 i13 l13 i14 l14 i15 l15 i16 l16 i17 l17 i18 l18 i19 l19 i23 l23 i24 l24 i25 l25 i26 l26 i27 l27 i28 l28 i29 l29 i30 l30 i31 l31 i32 l32 i33 l33 i34 l34 i35 l35 i36 l36 i37 l37 i38 l38 i39 l39 i22)
  rw [o243_76]
  simp only [o243_78, o243_80, o243_83, o243_84, o243_87, o243_88, o243_89, o243_90, o243_92, mcs_0, mcs_l, true_and, not_true_eq_false, not_false_eq_true, false_implies, forall_const, Nat.reduceLeDiff, Nat.reduceAdd, lt_le, Int32.reduceLT, kc22, Int32.reduceLT, c1, c2, c3, c4]
  refine m_plX2_0 R (fun q f => ?_)
  simp only [o243_95, o243_96, o243_97, o243_98, o243_101, Kn_v, Int32.reduceAdd, i12]
  exact hQ q f

theorem ms_P2_1 {A : Nat → Nat} {d : Int64} {h0 m : MH} {Q : MR → MH → Prop} {bc bs : Nat} {a5 a6 a7 : Value} (sm : Sm A h0 m) (R : Rl A m) (hQ : ∀ q, Fr (p_i m (A 22) 9 0) q → Ok 243 76 [.ref (A 22), .long (dg1 d (g_i h0 (A 12) 5)), mk0, .int 2, .int 2, a5, a6, a7] [] q bc bs Q) : Ok 243 76 [.ref (A 22), .long (d), mk0, .int 2, .int 1, a5, a6, a7] [] m (bc + 1) (bs + 7) Q := by
  have R0 := R
  obtain ⟨vk, vcn, v0, v1, v2, vp, vl0, vl1, vlr, vsr, vc, tx⟩ := R0
  have vk0 := vk
  have vcn0 := vcn
  (refine K_el vk0 ?_; intros hA kc0 kc1 kc2 kc3 kc4 kc5 kc6 kc7 kc8 kc9 kc10 kc11 kc12 kc13 kc14 kc15 kc16 kc17 kc18 kc19 kc20 kc21 kc22 kc23 kc24 kc25 kc26 kc27 kc28 kc29 kc30 kc31 kc32 kc33 kc34 kc35 kc36 kc37 kc38 kc39 kz kt kn3 kn4 kn18 kn21 kn23 kn24 kn25 kn26 kn27 kn29 kn30 kr0_0 kr0_1 kr0_2 kr0_3 kr0_4 kr0_5 kr0_7 kr0_8 kr0_9 kr0_10 kr1_0 kr2_0 kr5_0 kr5_1 kr6_0 kr6_1 kr7_0 kr7_1 kr8_0 kr9_0 kr10_0 kr11_0 kr12_0 kr13_0 kr14_0 kr15_0 kr16_0 kr17_0 kr19_0 kr19_1 kr22_0 kr22_1 kr22_2 kr22_3 kr22_4 kr22_5 kr22_7 kr22_8 kr25_0 kr25_1 kr25_2 kr26_0 kr26_1 kr26_2 kr29_0 kr29_1)
  (refine Cn_el vcn0 ?_; intros ki5_2 ki6_2 ki7_2 ki8_1 ki8_2 ki8_3 ki9_1 ki9_2 ki9_3 ki10_1 ki10_2 ki10_3 ki11_1 ki11_2 ki11_3 ki12_1 ki12_2 ki12_3 ki13_1 ki13_2 ki13_3 ki14_1 ki14_2 ki14_3 ki28_0 ki28_1 ki31_0 ki31_1 ki32_0 ki32_1 ki33_0 ki33_1 ki34_0 ki34_1 ki35_0 ki35_1 ki36_0 ki36_1)
  have hAe : ∀ i j, i < 40 → j < 40 → (A i = A j ↔ i = j) := hA
  have b7 : (7 : Int32) = 7 := by decide
  have c1 : (1 ≤ bc + 1) = True := eq_true (by omega)
  have c2 : (7 ≤ bs + 7) = True := eq_true (by omega)
  have c3 : bc + 1 - 1 = bc := by omega
  have c4 : bs + 7 - 7 = bs := by omega
  (refine Sm_el sm ?_; intros i0 l0 i1 l1 i2 l2 i3 l3 i4 l4 i5 l5 i6 l6 i7 l7 i8 l8 i9 l9 i10 l10 i11 l11 i12 l12 i13 l13 i14 l14 i15 l15 i16 l16 i17 l17 i18 l18 i19 l19 i23 l23 i24 l24 i25 l25 i26 l26 i27 l27 i28 l28 i29 l29 i30 l30 i31 l31 i32 l32 i33 l33 i34 l34 i35 l35 i36 l36 i37 l37 i38 l38 i39 l39 i22)
  rw [o243_76]
  simp only [o243_78, o243_80, o243_83, o243_84, o243_87, o243_88, o243_89, o243_90, o243_92, mcs_0, mcs_l, true_and, not_true_eq_false, not_false_eq_true, false_implies, forall_const, Nat.reduceLeDiff, Nat.reduceAdd, lt_le, Int32.reduceLT, kc22, Int32.reduceLT, c1, c2, c3, c4]
  refine m_plX2_1 R (fun q f => ?_)
  simp only [o243_95, o243_96, o243_97, o243_98, o243_101, Kn_v, Int32.reduceAdd, i12]
  exact hQ q f

theorem ms_P2_2 {A : Nat → Nat} {d : Int64} {h0 m : MH} {Q : MR → MH → Prop} {bc bs : Nat} {a5 a6 a7 : Value} (sm : Sm A h0 m) (R : Rl A m) (hQ : ∀ q, Fr (p_i m (A 22) 9 0) q → Ok 243 76 [.ref (A 22), .long (dg1 d (g_i h0 (A 13) 4)), mk0, .int 2, .int 3, a5, a6, a7] [] q bc bs Q) : Ok 243 76 [.ref (A 22), .long (d), mk0, .int 2, .int 2, a5, a6, a7] [] m (bc + 1) (bs + 7) Q := by
  have R0 := R
  obtain ⟨vk, vcn, v0, v1, v2, vp, vl0, vl1, vlr, vsr, vc, tx⟩ := R0
  have vk0 := vk
  have vcn0 := vcn
  (refine K_el vk0 ?_; intros hA kc0 kc1 kc2 kc3 kc4 kc5 kc6 kc7 kc8 kc9 kc10 kc11 kc12 kc13 kc14 kc15 kc16 kc17 kc18 kc19 kc20 kc21 kc22 kc23 kc24 kc25 kc26 kc27 kc28 kc29 kc30 kc31 kc32 kc33 kc34 kc35 kc36 kc37 kc38 kc39 kz kt kn3 kn4 kn18 kn21 kn23 kn24 kn25 kn26 kn27 kn29 kn30 kr0_0 kr0_1 kr0_2 kr0_3 kr0_4 kr0_5 kr0_7 kr0_8 kr0_9 kr0_10 kr1_0 kr2_0 kr5_0 kr5_1 kr6_0 kr6_1 kr7_0 kr7_1 kr8_0 kr9_0 kr10_0 kr11_0 kr12_0 kr13_0 kr14_0 kr15_0 kr16_0 kr17_0 kr19_0 kr19_1 kr22_0 kr22_1 kr22_2 kr22_3 kr22_4 kr22_5 kr22_7 kr22_8 kr25_0 kr25_1 kr25_2 kr26_0 kr26_1 kr26_2 kr29_0 kr29_1)
  (refine Cn_el vcn0 ?_; intros ki5_2 ki6_2 ki7_2 ki8_1 ki8_2 ki8_3 ki9_1 ki9_2 ki9_3 ki10_1 ki10_2 ki10_3 ki11_1 ki11_2 ki11_3 ki12_1 ki12_2 ki12_3 ki13_1 ki13_2 ki13_3 ki14_1 ki14_2 ki14_3 ki28_0 ki28_1 ki31_0 ki31_1 ki32_0 ki32_1 ki33_0 ki33_1 ki34_0 ki34_1 ki35_0 ki35_1 ki36_0 ki36_1)
  have hAe : ∀ i j, i < 40 → j < 40 → (A i = A j ↔ i = j) := hA
  have b7 : (7 : Int32) = 7 := by decide
  have c1 : (1 ≤ bc + 1) = True := eq_true (by omega)
  have c2 : (7 ≤ bs + 7) = True := eq_true (by omega)
  have c3 : bc + 1 - 1 = bc := by omega
  have c4 : bs + 7 - 7 = bs := by omega
  (refine Sm_el sm ?_; intros i0 l0 i1 l1 i2 l2 i3 l3 i4 l4 i5 l5 i6 l6 i7 l7 i8 l8 i9 l9 i10 l10 i11 l11 i12 l12 i13 l13 i14 l14 i15 l15 i16 l16 i17 l17 i18 l18 i19 l19 i23 l23 i24 l24 i25 l25 i26 l26 i27 l27 i28 l28 i29 l29 i30 l30 i31 l31 i32 l32 i33 l33 i34 l34 i35 l35 i36 l36 i37 l37 i38 l38 i39 l39 i22)
  rw [o243_76]
  simp only [o243_78, o243_80, o243_83, o243_84, o243_87, o243_88, o243_89, o243_90, o243_92, mcs_0, mcs_l, true_and, not_true_eq_false, not_false_eq_true, false_implies, forall_const, Nat.reduceLeDiff, Nat.reduceAdd, lt_le, Int32.reduceLT, kc22, Int32.reduceLT, c1, c2, c3, c4]
  refine m_plX2_2 R (fun q f => ?_)
  simp only [o243_95, o243_96, o243_97, o243_98, o243_101, Kn_v, Int32.reduceAdd, i13]
  exact hQ q f

theorem ms_P2_3 {A : Nat → Nat} {d : Int64} {h0 m : MH} {Q : MR → MH → Prop} {bc bs : Nat} {a5 a6 a7 : Value} (sm : Sm A h0 m) (R : Rl A m) (hQ : ∀ q, Fr (p_i m (A 22) 9 0) q → Ok 243 76 [.ref (A 22), .long (dg1 d (g_i h0 (A 13) 5)), mk0, .int 2, .int 4, a5, a6, a7] [] q bc bs Q) : Ok 243 76 [.ref (A 22), .long (d), mk0, .int 2, .int 3, a5, a6, a7] [] m (bc + 1) (bs + 7) Q := by
  have R0 := R
  obtain ⟨vk, vcn, v0, v1, v2, vp, vl0, vl1, vlr, vsr, vc, tx⟩ := R0
  have vk0 := vk
  have vcn0 := vcn
  (refine K_el vk0 ?_; intros hA kc0 kc1 kc2 kc3 kc4 kc5 kc6 kc7 kc8 kc9 kc10 kc11 kc12 kc13 kc14 kc15 kc16 kc17 kc18 kc19 kc20 kc21 kc22 kc23 kc24 kc25 kc26 kc27 kc28 kc29 kc30 kc31 kc32 kc33 kc34 kc35 kc36 kc37 kc38 kc39 kz kt kn3 kn4 kn18 kn21 kn23 kn24 kn25 kn26 kn27 kn29 kn30 kr0_0 kr0_1 kr0_2 kr0_3 kr0_4 kr0_5 kr0_7 kr0_8 kr0_9 kr0_10 kr1_0 kr2_0 kr5_0 kr5_1 kr6_0 kr6_1 kr7_0 kr7_1 kr8_0 kr9_0 kr10_0 kr11_0 kr12_0 kr13_0 kr14_0 kr15_0 kr16_0 kr17_0 kr19_0 kr19_1 kr22_0 kr22_1 kr22_2 kr22_3 kr22_4 kr22_5 kr22_7 kr22_8 kr25_0 kr25_1 kr25_2 kr26_0 kr26_1 kr26_2 kr29_0 kr29_1)
  (refine Cn_el vcn0 ?_; intros ki5_2 ki6_2 ki7_2 ki8_1 ki8_2 ki8_3 ki9_1 ki9_2 ki9_3 ki10_1 ki10_2 ki10_3 ki11_1 ki11_2 ki11_3 ki12_1 ki12_2 ki12_3 ki13_1 ki13_2 ki13_3 ki14_1 ki14_2 ki14_3 ki28_0 ki28_1 ki31_0 ki31_1 ki32_0 ki32_1 ki33_0 ki33_1 ki34_0 ki34_1 ki35_0 ki35_1 ki36_0 ki36_1)
  have hAe : ∀ i j, i < 40 → j < 40 → (A i = A j ↔ i = j) := hA
  have b7 : (7 : Int32) = 7 := by decide
  have c1 : (1 ≤ bc + 1) = True := eq_true (by omega)
  have c2 : (7 ≤ bs + 7) = True := eq_true (by omega)
  have c3 : bc + 1 - 1 = bc := by omega
  have c4 : bs + 7 - 7 = bs := by omega
  (refine Sm_el sm ?_; intros i0 l0 i1 l1 i2 l2 i3 l3 i4 l4 i5 l5 i6 l6 i7 l7 i8 l8 i9 l9 i10 l10 i11 l11 i12 l12 i13 l13 i14 l14 i15 l15 i16 l16 i17 l17 i18 l18 i19 l19 i23 l23 i24 l24 i25 l25 i26 l26 i27 l27 i28 l28 i29 l29 i30 l30 i31 l31 i32 l32 i33 l33 i34 l34 i35 l35 i36 l36 i37 l37 i38 l38 i39 l39 i22)
  rw [o243_76]
  simp only [o243_78, o243_80, o243_83, o243_84, o243_87, o243_88, o243_89, o243_90, o243_92, mcs_0, mcs_l, true_and, not_true_eq_false, not_false_eq_true, false_implies, forall_const, Nat.reduceLeDiff, Nat.reduceAdd, lt_le, Int32.reduceLT, kc22, Int32.reduceLT, c1, c2, c3, c4]
  refine m_plX2_3 R (fun q f => ?_)
  simp only [o243_95, o243_96, o243_97, o243_98, o243_101, Kn_v, Int32.reduceAdd, i13]
  exact hQ q f

theorem ms_P2_4 {A : Nat → Nat} {d : Int64} {h0 m : MH} {Q : MR → MH → Prop} {bc bs : Nat} {a5 a6 a7 : Value} (sm : Sm A h0 m) (R : Rl A m) (hQ : ∀ q, Fr (p_i m (A 22) 9 0) q → Ok 243 76 [.ref (A 22), .long (dg1 d (g_i h0 (A 13) 6)), mk0, .int 2, .int 5, a5, a6, a7] [] q bc bs Q) : Ok 243 76 [.ref (A 22), .long (d), mk0, .int 2, .int 4, a5, a6, a7] [] m (bc + 1) (bs + 7) Q := by
  have R0 := R
  obtain ⟨vk, vcn, v0, v1, v2, vp, vl0, vl1, vlr, vsr, vc, tx⟩ := R0
  have vk0 := vk
  have vcn0 := vcn
  (refine K_el vk0 ?_; intros hA kc0 kc1 kc2 kc3 kc4 kc5 kc6 kc7 kc8 kc9 kc10 kc11 kc12 kc13 kc14 kc15 kc16 kc17 kc18 kc19 kc20 kc21 kc22 kc23 kc24 kc25 kc26 kc27 kc28 kc29 kc30 kc31 kc32 kc33 kc34 kc35 kc36 kc37 kc38 kc39 kz kt kn3 kn4 kn18 kn21 kn23 kn24 kn25 kn26 kn27 kn29 kn30 kr0_0 kr0_1 kr0_2 kr0_3 kr0_4 kr0_5 kr0_7 kr0_8 kr0_9 kr0_10 kr1_0 kr2_0 kr5_0 kr5_1 kr6_0 kr6_1 kr7_0 kr7_1 kr8_0 kr9_0 kr10_0 kr11_0 kr12_0 kr13_0 kr14_0 kr15_0 kr16_0 kr17_0 kr19_0 kr19_1 kr22_0 kr22_1 kr22_2 kr22_3 kr22_4 kr22_5 kr22_7 kr22_8 kr25_0 kr25_1 kr25_2 kr26_0 kr26_1 kr26_2 kr29_0 kr29_1)
  (refine Cn_el vcn0 ?_; intros ki5_2 ki6_2 ki7_2 ki8_1 ki8_2 ki8_3 ki9_1 ki9_2 ki9_3 ki10_1 ki10_2 ki10_3 ki11_1 ki11_2 ki11_3 ki12_1 ki12_2 ki12_3 ki13_1 ki13_2 ki13_3 ki14_1 ki14_2 ki14_3 ki28_0 ki28_1 ki31_0 ki31_1 ki32_0 ki32_1 ki33_0 ki33_1 ki34_0 ki34_1 ki35_0 ki35_1 ki36_0 ki36_1)
  have hAe : ∀ i j, i < 40 → j < 40 → (A i = A j ↔ i = j) := hA
  have b7 : (7 : Int32) = 7 := by decide
  have c1 : (1 ≤ bc + 1) = True := eq_true (by omega)
  have c2 : (7 ≤ bs + 7) = True := eq_true (by omega)
  have c3 : bc + 1 - 1 = bc := by omega
  have c4 : bs + 7 - 7 = bs := by omega
  (refine Sm_el sm ?_; intros i0 l0 i1 l1 i2 l2 i3 l3 i4 l4 i5 l5 i6 l6 i7 l7 i8 l8 i9 l9 i10 l10 i11 l11 i12 l12 i13 l13 i14 l14 i15 l15 i16 l16 i17 l17 i18 l18 i19 l19 i23 l23 i24 l24 i25 l25 i26 l26 i27 l27 i28 l28 i29 l29 i30 l30 i31 l31 i32 l32 i33 l33 i34 l34 i35 l35 i36 l36 i37 l37 i38 l38 i39 l39 i22)
  rw [o243_76]
  simp only [o243_78, o243_80, o243_83, o243_84, o243_87, o243_88, o243_89, o243_90, o243_92, mcs_0, mcs_l, true_and, not_true_eq_false, not_false_eq_true, false_implies, forall_const, Nat.reduceLeDiff, Nat.reduceAdd, lt_le, Int32.reduceLT, kc22, Int32.reduceLT, c1, c2, c3, c4]
  refine m_plX2_4 R (fun q f => ?_)
  simp only [o243_95, o243_96, o243_97, o243_98, o243_101, Kn_v, Int32.reduceAdd, i13]
  exact hQ q f

theorem ms_P2_5 {A : Nat → Nat} {d : Int64} {h0 m : MH} {Q : MR → MH → Prop} {bc bs : Nat} {a5 a6 a7 : Value} (sm : Sm A h0 m) (R : Rl A m) (hQ : ∀ q, Fr (p_i m (A 22) 9 0) q → Ok 243 76 [.ref (A 22), .long (dg1 d (6)), mk0, .int 2, .int 6, a5, a6, a7] [] q bc bs Q) : Ok 243 76 [.ref (A 22), .long (d), mk0, .int 2, .int 5, a5, a6, a7] [] m (bc + 1) (bs + 7) Q := by
  have R0 := R
  obtain ⟨vk, vcn, v0, v1, v2, vp, vl0, vl1, vlr, vsr, vc, tx⟩ := R0
  have vk0 := vk
  have vcn0 := vcn
  (refine K_el vk0 ?_; intros hA kc0 kc1 kc2 kc3 kc4 kc5 kc6 kc7 kc8 kc9 kc10 kc11 kc12 kc13 kc14 kc15 kc16 kc17 kc18 kc19 kc20 kc21 kc22 kc23 kc24 kc25 kc26 kc27 kc28 kc29 kc30 kc31 kc32 kc33 kc34 kc35 kc36 kc37 kc38 kc39 kz kt kn3 kn4 kn18 kn21 kn23 kn24 kn25 kn26 kn27 kn29 kn30 kr0_0 kr0_1 kr0_2 kr0_3 kr0_4 kr0_5 kr0_7 kr0_8 kr0_9 kr0_10 kr1_0 kr2_0 kr5_0 kr5_1 kr6_0 kr6_1 kr7_0 kr7_1 kr8_0 kr9_0 kr10_0 kr11_0 kr12_0 kr13_0 kr14_0 kr15_0 kr16_0 kr17_0 kr19_0 kr19_1 kr22_0 kr22_1 kr22_2 kr22_3 kr22_4 kr22_5 kr22_7 kr22_8 kr25_0 kr25_1 kr25_2 kr26_0 kr26_1 kr26_2 kr29_0 kr29_1)
  (refine Cn_el vcn0 ?_; intros ki5_2 ki6_2 ki7_2 ki8_1 ki8_2 ki8_3 ki9_1 ki9_2 ki9_3 ki10_1 ki10_2 ki10_3 ki11_1 ki11_2 ki11_3 ki12_1 ki12_2 ki12_3 ki13_1 ki13_2 ki13_3 ki14_1 ki14_2 ki14_3 ki28_0 ki28_1 ki31_0 ki31_1 ki32_0 ki32_1 ki33_0 ki33_1 ki34_0 ki34_1 ki35_0 ki35_1 ki36_0 ki36_1)
  have hAe : ∀ i j, i < 40 → j < 40 → (A i = A j ↔ i = j) := hA
  have b7 : (7 : Int32) = 7 := by decide
  have c1 : (1 ≤ bc + 1) = True := eq_true (by omega)
  have c2 : (7 ≤ bs + 7) = True := eq_true (by omega)
  have c3 : bc + 1 - 1 = bc := by omega
  have c4 : bs + 7 - 7 = bs := by omega
  (refine Sm_el sm ?_; intros i0 l0 i1 l1 i2 l2 i3 l3 i4 l4 i5 l5 i6 l6 i7 l7 i8 l8 i9 l9 i10 l10 i11 l11 i12 l12 i13 l13 i14 l14 i15 l15 i16 l16 i17 l17 i18 l18 i19 l19 i23 l23 i24 l24 i25 l25 i26 l26 i27 l27 i28 l28 i29 l29 i30 l30 i31 l31 i32 l32 i33 l33 i34 l34 i35 l35 i36 l36 i37 l37 i38 l38 i39 l39 i22)
  rw [o243_76]
  simp only [o243_78, o243_80, o243_83, o243_84, o243_87, o243_88, o243_89, o243_90, o243_92, mcs_0, mcs_l, true_and, not_true_eq_false, not_false_eq_true, false_implies, forall_const, Nat.reduceLeDiff, Nat.reduceAdd, lt_le, Int32.reduceLT, kc22, Int32.reduceLT, c1, c2, c3, c4]
  refine m_plX2_5 R (fun q f => ?_)
  simp only [o243_95, o243_96, o243_97, o243_98, o243_101, Kn_v, Int32.reduceAdd]
  exact hQ q f

theorem ms_P2_6 {A : Nat → Nat} {d : Int64} {h0 m : MH} {Q : MR → MH → Prop} {bc bs : Nat} {a5 a6 a7 : Value} (sm : Sm A h0 m) (R : Rl A m) (hQ : ∀ q, Fr (p_i m (A 22) 9 0) q → Ok 243 76 [.ref (A 22), .long (dg1 d (9)), mk0, .int 2, .int 7, a5, a6, a7] [] q bc bs Q) : Ok 243 76 [.ref (A 22), .long (d), mk0, .int 2, .int 6, a5, a6, a7] [] m (bc + 1) (bs + 7) Q := by
  have R0 := R
  obtain ⟨vk, vcn, v0, v1, v2, vp, vl0, vl1, vlr, vsr, vc, tx⟩ := R0
  have vk0 := vk
  have vcn0 := vcn
  (refine K_el vk0 ?_; intros hA kc0 kc1 kc2 kc3 kc4 kc5 kc6 kc7 kc8 kc9 kc10 kc11 kc12 kc13 kc14 kc15 kc16 kc17 kc18 kc19 kc20 kc21 kc22 kc23 kc24 kc25 kc26 kc27 kc28 kc29 kc30 kc31 kc32 kc33 kc34 kc35 kc36 kc37 kc38 kc39 kz kt kn3 kn4 kn18 kn21 kn23 kn24 kn25 kn26 kn27 kn29 kn30 kr0_0 kr0_1 kr0_2 kr0_3 kr0_4 kr0_5 kr0_7 kr0_8 kr0_9 kr0_10 kr1_0 kr2_0 kr5_0 kr5_1 kr6_0 kr6_1 kr7_0 kr7_1 kr8_0 kr9_0 kr10_0 kr11_0 kr12_0 kr13_0 kr14_0 kr15_0 kr16_0 kr17_0 kr19_0 kr19_1 kr22_0 kr22_1 kr22_2 kr22_3 kr22_4 kr22_5 kr22_7 kr22_8 kr25_0 kr25_1 kr25_2 kr26_0 kr26_1 kr26_2 kr29_0 kr29_1)
  (refine Cn_el vcn0 ?_; intros ki5_2 ki6_2 ki7_2 ki8_1 ki8_2 ki8_3 ki9_1 ki9_2 ki9_3 ki10_1 ki10_2 ki10_3 ki11_1 ki11_2 ki11_3 ki12_1 ki12_2 ki12_3 ki13_1 ki13_2 ki13_3 ki14_1 ki14_2 ki14_3 ki28_0 ki28_1 ki31_0 ki31_1 ki32_0 ki32_1 ki33_0 ki33_1 ki34_0 ki34_1 ki35_0 ki35_1 ki36_0 ki36_1)
  have hAe : ∀ i j, i < 40 → j < 40 → (A i = A j ↔ i = j) := hA
  have b7 : (7 : Int32) = 7 := by decide
  have c1 : (1 ≤ bc + 1) = True := eq_true (by omega)
  have c2 : (7 ≤ bs + 7) = True := eq_true (by omega)
  have c3 : bc + 1 - 1 = bc := by omega
  have c4 : bs + 7 - 7 = bs := by omega
  (refine Sm_el sm ?_; intros i0 l0 i1 l1 i2 l2 i3 l3 i4 l4 i5 l5 i6 l6 i7 l7 i8 l8 i9 l9 i10 l10 i11 l11 i12 l12 i13 l13 i14 l14 i15 l15 i16 l16 i17 l17 i18 l18 i19 l19 i23 l23 i24 l24 i25 l25 i26 l26 i27 l27 i28 l28 i29 l29 i30 l30 i31 l31 i32 l32 i33 l33 i34 l34 i35 l35 i36 l36 i37 l37 i38 l38 i39 l39 i22)
  rw [o243_76]
  simp only [o243_78, o243_80, o243_83, o243_84, o243_87, o243_88, o243_89, o243_90, o243_92, mcs_0, mcs_l, true_and, not_true_eq_false, not_false_eq_true, false_implies, forall_const, Nat.reduceLeDiff, Nat.reduceAdd, lt_le, Int32.reduceLT, kc22, Int32.reduceLT, c1, c2, c3, c4]
  refine m_plX2_6 R (fun q f => ?_)
  simp only [o243_95, o243_96, o243_97, o243_98, o243_101, Kn_v, Int32.reduceAdd]
  exact hQ q f

theorem ms_Q2 {A : Nat → Nat} {d : Int64} {h0 m : MH} {Q : MR → MH → Prop} {bc bs : Nat} {a4 a5 a6 a7 : Value} (sm : Sm A h0 m) (R : Rl A m) (cs : Cs m) (hQ : ∀ q, Sm A h0 q → Rl A q → Cs q → Ok 243 44 [.ref (A 22), .long (dQ2 A h0 d), mk0, .int 3, .int 7, a5, a6, a7] [] q bc bs Q) : Ok 243 44 [.ref (A 22), .long (d), mk0, .int 2, a4, a5, a6, a7] [] m (bc + 23) (bs + 2023) Q := by
  have R0 := R
  obtain ⟨vk, vcn, v0, v1, v2, vp, vl0, vl1, vlr, vsr, vc, tx⟩ := R0
  have vk0 := vk
  have vcn0 := vcn
  (refine K_el vk0 ?_; intros hA kc0 kc1 kc2 kc3 kc4 kc5 kc6 kc7 kc8 kc9 kc10 kc11 kc12 kc13 kc14 kc15 kc16 kc17 kc18 kc19 kc20 kc21 kc22 kc23 kc24 kc25 kc26 kc27 kc28 kc29 kc30 kc31 kc32 kc33 kc34 kc35 kc36 kc37 kc38 kc39 kz kt kn3 kn4 kn18 kn21 kn23 kn24 kn25 kn26 kn27 kn29 kn30 kr0_0 kr0_1 kr0_2 kr0_3 kr0_4 kr0_5 kr0_7 kr0_8 kr0_9 kr0_10 kr1_0 kr2_0 kr5_0 kr5_1 kr6_0 kr6_1 kr7_0 kr7_1 kr8_0 kr9_0 kr10_0 kr11_0 kr12_0 kr13_0 kr14_0 kr15_0 kr16_0 kr17_0 kr19_0 kr19_1 kr22_0 kr22_1 kr22_2 kr22_3 kr22_4 kr22_5 kr22_7 kr22_8 kr25_0 kr25_1 kr25_2 kr26_0 kr26_1 kr26_2 kr29_0 kr29_1)
  (refine Cn_el vcn0 ?_; intros ki5_2 ki6_2 ki7_2 ki8_1 ki8_2 ki8_3 ki9_1 ki9_2 ki9_3 ki10_1 ki10_2 ki10_3 ki11_1 ki11_2 ki11_3 ki12_1 ki12_2 ki12_3 ki13_1 ki13_2 ki13_3 ki14_1 ki14_2 ki14_3 ki28_0 ki28_1 ki31_0 ki31_1 ki32_0 ki32_1 ki33_0 ki33_1 ki34_0 ki34_1 ki35_0 ki35_1 ki36_0 ki36_1)
  have hAe : ∀ i j, i < 40 → j < 40 → (A i = A j ↔ i = j) := hA
  have he := v2.1.symm
  have hc := (Sm_cT sm).2.2
  have b7 : (7 : Int32) = 7 := by decide
  rw [o243_44]
  simp only [o243_45, o243_46, o243_49, o243_50, o243_53, o243_54, o243_55, o243_56, o243_59, o243_60, o243_61, o243_64, o243_65, o243_66, o243_67, o243_70, o243_71, o243_72, o243_73, o243_74, c_X8_liesOf (x2 := A 25) (x3 := A 26) (a := A 27) (w := A 33) (r := A 36), c_X8_roomOf (x2 := A 25) (x3 := A 26) (a := A 27) (w := A 33) (r := A 36), mcs_0, mcs_l, Kn_v, true_and, not_true_eq_false, not_false_eq_true, false_implies, forall_const, if_false, Nat.reduceLeDiff, Nat.reduceAdd, lt_le, Int32.reduceLT, cl2, kc22, kc25, kc26, kc27, kc33, kc36, kn25, kn26, kn27, kr22_2, kr22_3, kr22_4, kr25_2, kr26_2, vq3, Int32.reduceLT, he, hc]
  refine ms_P2_0 (bc := bc + 22) (bs := bs + 2016) sm R (fun q0 f0 => ?_)
  obtain ⟨R0, s0⟩ := Rl_fr0 R f0
  have cs0 := Cs_fr0 R cs f0
  replace s0 := Sm_tr sm s0
  refine ms_P2_1 (bc := bc + 21) (bs := bs + 2009) s0 R0 (fun q1 f1 => ?_)
  obtain ⟨R1, s1⟩ := Rl_fr0 R0 f1
  have cs1 := Cs_fr0 R0 cs0 f1
  replace s1 := Sm_tr s0 s1
  refine ms_P2_2 (bc := bc + 20) (bs := bs + 2002) s1 R1 (fun q2 f2 => ?_)
  obtain ⟨R2, s2⟩ := Rl_fr0 R1 f2
  have cs2 := Cs_fr0 R1 cs1 f2
  replace s2 := Sm_tr s1 s2
  refine ms_P2_3 (bc := bc + 19) (bs := bs + 1995) s2 R2 (fun q3 f3 => ?_)
  obtain ⟨R3, s3⟩ := Rl_fr0 R2 f3
  have cs3 := Cs_fr0 R2 cs2 f3
  replace s3 := Sm_tr s2 s3
  refine ms_P2_4 (bc := bc + 18) (bs := bs + 1988) s3 R3 (fun q4 f4 => ?_)
  obtain ⟨R4, s4⟩ := Rl_fr0 R3 f4
  have cs4 := Cs_fr0 R3 cs3 f4
  replace s4 := Sm_tr s3 s4
  refine ms_P2_5 (bc := bc + 17) (bs := bs + 1981) s4 R4 (fun q5 f5 => ?_)
  obtain ⟨R5, s5⟩ := Rl_fr0 R4 f5
  have cs5 := Cs_fr0 R4 cs4 f5
  replace s5 := Sm_tr s4 s5
  refine ms_P2_6 (bc := bc + 16) (bs := bs + 1974) s5 R5 (fun q6 f6 => ?_)
  obtain ⟨R6, s6⟩ := Rl_fr0 R5 f6
  have cs6 := Cs_fr0 R5 cs5 f6
  replace s6 := Sm_tr s5 s6
  have c1 : (16 ≤ bc + 16) = True := eq_true (by omega)
  have c2 : (1974 ≤ bs + 1974) = True := eq_true (by omega)
  have c3 : bc + 16 - 16 = bc := by omega
  have c4 : bs + 1974 - 1974 = bs := by omega
  have R0 := R6
  obtain ⟨vk, vcn, v0, v1, v2, vp, vl0, vl1, vlr, vsr, vc, tx⟩ := R0
  have vk0 := vk
  have vcn0 := vcn
  (refine K_el vk0 ?_; intros hA kc0 kc1 kc2 kc3 kc4 kc5 kc6 kc7 kc8 kc9 kc10 kc11 kc12 kc13 kc14 kc15 kc16 kc17 kc18 kc19 kc20 kc21 kc22 kc23 kc24 kc25 kc26 kc27 kc28 kc29 kc30 kc31 kc32 kc33 kc34 kc35 kc36 kc37 kc38 kc39 kz kt kn3 kn4 kn18 kn21 kn23 kn24 kn25 kn26 kn27 kn29 kn30 kr0_0 kr0_1 kr0_2 kr0_3 kr0_4 kr0_5 kr0_7 kr0_8 kr0_9 kr0_10 kr1_0 kr2_0 kr5_0 kr5_1 kr6_0 kr6_1 kr7_0 kr7_1 kr8_0 kr9_0 kr10_0 kr11_0 kr12_0 kr13_0 kr14_0 kr15_0 kr16_0 kr17_0 kr19_0 kr19_1 kr22_0 kr22_1 kr22_2 kr22_3 kr22_4 kr22_5 kr22_7 kr22_8 kr25_0 kr25_1 kr25_2 kr26_0 kr26_1 kr26_2 kr29_0 kr29_1)
  (refine Cn_el vcn0 ?_; intros ki5_2 ki6_2 ki7_2 ki8_1 ki8_2 ki8_3 ki9_1 ki9_2 ki9_3 ki10_1 ki10_2 ki10_3 ki11_1 ki11_2 ki11_3 ki12_1 ki12_2 ki12_3 ki13_1 ki13_2 ki13_3 ki14_1 ki14_2 ki14_3 ki28_0 ki28_1 ki31_0 ki31_1 ki32_0 ki32_1 ki33_0 ki33_1 ki34_0 ki34_1 ki35_0 ki35_1 ki36_0 ki36_1)
  have hAe : ∀ i j, i < 40 → j < 40 → (A i = A j ↔ i = j) := hA
  rw [o243_76]
  simp only [o243_78, o243_80, o243_104, o243_105, o243_108, o243_109, o243_110, o243_111, mcs_0, mcs_l, true_and, and_true, not_true_eq_false, not_false_eq_true, false_implies, forall_const, Nat.reduceLeDiff, Nat.reduceAdd, lt_le, Int32.reduceLT, kc22, Int32.reduceLT, c1, c2, c3, c4]
  refine m_textOf2 R6 cs6 (fun q t sb hsb f st => ?_)
  have Rq := Rl_Fn R6 f hsb hsb
  have sq := Sm_tr s6 (Sm_Fn R6 f hsb)
  have cq := Cs_Fx cs6 f (Nat.le_trans (Rl_z R6) hsb) (Nat.le_trans (Rl_z R6) hsb)
  obtain ⟨t1, t2, t3, v, t4, t5, t6, t7⟩ := st
  rw [(Sm_qv s6).2.2.1, (Sm_cT s6).2.2] at t7
  simp only [o243_114, o243_117, o243_118, o243_119, o243_120, o243_123, J_slen (v := v), mcs_0, mcs_l, Kn_v, true_and, Nat.reduceLeDiff, Nat.reduceAdd, Int32.reduceAdd, t1, t3, t4, t5, t7]
  exact hQ q sq Rq cq
end

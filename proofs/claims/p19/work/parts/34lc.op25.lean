set_option maxRecDepth 16384
theorem dv_0 : vp_in 0 2 = True := by
  apply eq_true
  unfold vp_in
  decide
theorem dv_1 : vp_in 1 2 = True := by
  apply eq_true
  unfold vp_in
  decide
theorem m_leX0_0 {A : Nat → Nat} {h : MH} {Q : MR → MH → Prop} (R : Rl A h) (hQ : ∀ m, Fr h m → Q (.inl (some (.int (g_i h (A 15) 4)))) m) : Ok 228 0 [.ref (A 22), .int 0, .int 0, mk0, mk0] [] h 1 9 Q := by
  have R0 := R
  obtain ⟨vk, vcn, v0, v1, v2, vp, vl0, vl1, vlr, vsr, vc, tx⟩ := R0
  have vk0 := vk
  have vcn0 := vcn
  (refine K_el vk0 ?_; intros hA kc0 kc1 kc2 kc3 kc4 kc5 kc6 kc7 kc8 kc9 kc10 kc11 kc12 kc13 kc14 kc15 kc16 kc17 kc18 kc19 kc20 kc21 kc22 kc23 kc24 kc25 kc26 kc27 kc28 kc29 kc30 kc31 kc32 kc33 kc34 kc35 kc36 kc37 kc38 kc39 kz kt kn3 kn4 kn18 kn21 kn23 kn24 kn25 kn26 kn27 kn29 kn30 kr0_0 kr0_1 kr0_2 kr0_3 kr0_4 kr0_5 kr0_7 kr0_8 kr0_9 kr0_10 kr1_0 kr2_0 kr5_0 kr5_1 kr6_0 kr6_1 kr7_0 kr7_1 kr8_0 kr9_0 kr10_0 kr11_0 kr12_0 kr13_0 kr14_0 kr15_0 kr16_0 kr17_0 kr19_0 kr19_1 kr22_0 kr22_1 kr22_2 kr22_3 kr22_4 kr22_5 kr22_7 kr22_8 kr25_0 kr25_1 kr25_2 kr26_0 kr26_1 kr26_2 kr29_0 kr29_1)
  (refine Cn_el vcn0 ?_; intros ki5_2 ki6_2 ki7_2 ki8_1 ki8_2 ki8_3 ki9_1 ki9_2 ki9_3 ki10_1 ki10_2 ki10_3 ki11_1 ki11_2 ki11_3 ki12_1 ki12_2 ki12_3 ki13_1 ki13_2 ki13_3 ki14_1 ki14_2 ki14_3 ki28_0 ki28_1 ki31_0 ki31_1 ki32_0 ki32_1 ki33_0 ki33_1 ki34_0 ki34_1 ki35_0 ki35_1 ki36_0 ki36_1)
  have hAe : ∀ i j, i < 40 → j < 40 → (A i = A j ↔ i = j) := hA
  have hta : ∀ i, i < 40 → (A i = g_t h) = False := fun i hi => eq_false (fun z => by have := kt i hi; omega)
  have hta2 : ∀ i, i < 40 → (g_t h = A i) = False := fun i hi => eq_false (fun z => by have := kt i hi; omega)
  have hzt : g_z h ≤ g_t h := Nat.le_trans (kz 0 (by decide)) (Nat.le_of_lt (kt 0 (by decide)))
  have hl2 := vl0
  obtain ⟨⟨b1, b2, b3, b4, b5, b6⟩, ln⟩ := hl2
  replace b1 := b1.symm
  replace b2 := b2.symm
  replace b3 := b3.symm
  replace b4 := b4.symm
  replace b5 := b5.symm
  replace b6 := b6.symm
  by_cases ps : g_i h (A 15) 3 = 0
  all_goals
    simp only [o228_0, o228_1, o228_4, o228_5, o228_6, o228_7, o228_9, o228_11, o228_12, o228_13, o228_14, o228_17, o228_18, o228_19, o228_20, o228_21, o228_24, o228_25, o228_26, o228_27, o228_28, o228_31, o228_32, o228_33, o228_34, o228_35, o228_38, o228_39, o228_40, o228_41, o228_42, o228_45, o228_46, o228_47, o228_48, o228_49, o228_52, o228_55, o228_56, o228_59, o228_60, o228_61, o228_62, o228_64, o228_65, o228_68, o228_71, o228_72, o228_75, o228_76, o228_77, o228_78, o228_80, o228_81, o228_82, o228_83, o228_85, o228_86, o228_89, o228_92, o228_93, o228_96, o228_97, o228_100, o228_101, o228_103, o228_105, o228_106, o228_107, c_X7_rests, mc_pi, mc_pN, mn_pi, mn_pN, mi_pi, mi_pN, mz_pi, mz_pN, mcs_0, mcs_i, mcs_r, Kn_v, mrf_some, true_and, and_true, and_false, not_true_eq_false, not_false_eq_true, false_implies, forall_const, if_true, if_false, and_self, Nat.reduceEqDiff, Nat.reduceLeDiff, Nat.reduceSub, Nat.reduceAdd, Nat.le_refl, Int32.reduceLT, cl0, cl1, cl2, cl3, cl4, cl5, cl6, cl7, cl8, cl9, Nat.reduceLT, kc22, kc29, kc37, kn29, kr22_7, kr29_0, hta, hzt, vpk, Int32.reduceLT, b1, b2, b3, b4, b5, b6, ps, dv_0] at hQ ⊢
    exact hQ _ (show Fr (h) _ from (Fr_pi (Fr_pi (Fr_pi (Fr_pi (Fr_pi (Fr_pi (Fr_pi (Fr_pi (Fr_pi (Fr_pN Fr_rfl) (Nat.le_refl _)) (Nat.le_refl _)) (Nat.le_refl _)) (Nat.le_refl _)) (Nat.le_refl _)) (Nat.le_refl _)) (Nat.le_refl _)) (Nat.le_refl _)) (Nat.le_refl _)))

theorem m_leX0_1 {A : Nat → Nat} {h : MH} {Q : MR → MH → Prop} (R : Rl A h) (hQ : ∀ m, Fr h m → Q (.inl (some (.int (g_i h (A 15) 5)))) m) : Ok 228 0 [.ref (A 22), .int 0, .int 1, mk0, mk0] [] h 1 9 Q := by
  have R0 := R
  obtain ⟨vk, vcn, v0, v1, v2, vp, vl0, vl1, vlr, vsr, vc, tx⟩ := R0
  have vk0 := vk
  have vcn0 := vcn
  (refine K_el vk0 ?_; intros hA kc0 kc1 kc2 kc3 kc4 kc5 kc6 kc7 kc8 kc9 kc10 kc11 kc12 kc13 kc14 kc15 kc16 kc17 kc18 kc19 kc20 kc21 kc22 kc23 kc24 kc25 kc26 kc27 kc28 kc29 kc30 kc31 kc32 kc33 kc34 kc35 kc36 kc37 kc38 kc39 kz kt kn3 kn4 kn18 kn21 kn23 kn24 kn25 kn26 kn27 kn29 kn30 kr0_0 kr0_1 kr0_2 kr0_3 kr0_4 kr0_5 kr0_7 kr0_8 kr0_9 kr0_10 kr1_0 kr2_0 kr5_0 kr5_1 kr6_0 kr6_1 kr7_0 kr7_1 kr8_0 kr9_0 kr10_0 kr11_0 kr12_0 kr13_0 kr14_0 kr15_0 kr16_0 kr17_0 kr19_0 kr19_1 kr22_0 kr22_1 kr22_2 kr22_3 kr22_4 kr22_5 kr22_7 kr22_8 kr25_0 kr25_1 kr25_2 kr26_0 kr26_1 kr26_2 kr29_0 kr29_1)
  (refine Cn_el vcn0 ?_; intros ki5_2 ki6_2 ki7_2 ki8_1 ki8_2 ki8_3 ki9_1 ki9_2 ki9_3 ki10_1 ki10_2 ki10_3 ki11_1 ki11_2 ki11_3 ki12_1 ki12_2 ki12_3 ki13_1 ki13_2 ki13_3 ki14_1 ki14_2 ki14_3 ki28_0 ki28_1 ki31_0 ki31_1 ki32_0 ki32_1 ki33_0 ki33_1 ki34_0 ki34_1 ki35_0 ki35_1 ki36_0 ki36_1)
  have hAe : ∀ i j, i < 40 → j < 40 → (A i = A j ↔ i = j) := hA
  have hta : ∀ i, i < 40 → (A i = g_t h) = False := fun i hi => eq_false (fun z => by have := kt i hi; omega)
  have hta2 : ∀ i, i < 40 → (g_t h = A i) = False := fun i hi => eq_false (fun z => by have := kt i hi; omega)
  have hzt : g_z h ≤ g_t h := Nat.le_trans (kz 0 (by decide)) (Nat.le_of_lt (kt 0 (by decide)))
  have hl2 := vl0
  obtain ⟨⟨b1, b2, b3, b4, b5, b6⟩, ln⟩ := hl2
  replace b1 := b1.symm
  replace b2 := b2.symm
  replace b3 := b3.symm
  replace b4 := b4.symm
  replace b5 := b5.symm
  replace b6 := b6.symm
  by_cases ps : g_i h (A 15) 3 = 0
  all_goals
    simp only [o228_0, o228_1, o228_4, o228_5, o228_6, o228_7, o228_9, o228_11, o228_12, o228_13, o228_14, o228_17, o228_18, o228_19, o228_20, o228_21, o228_24, o228_25, o228_26, o228_27, o228_28, o228_31, o228_32, o228_33, o228_34, o228_35, o228_38, o228_39, o228_40, o228_41, o228_42, o228_45, o228_46, o228_47, o228_48, o228_49, o228_52, o228_55, o228_56, o228_59, o228_60, o228_61, o228_62, o228_64, o228_65, o228_68, o228_71, o228_72, o228_75, o228_76, o228_77, o228_78, o228_80, o228_81, o228_82, o228_83, o228_85, o228_86, o228_89, o228_92, o228_93, o228_96, o228_97, o228_100, o228_101, o228_103, o228_105, o228_106, o228_107, c_X7_rests, mc_pi, mc_pN, mn_pi, mn_pN, mi_pi, mi_pN, mz_pi, mz_pN, mcs_0, mcs_i, mcs_r, Kn_v, mrf_some, true_and, and_true, and_false, not_true_eq_false, not_false_eq_true, false_implies, forall_const, if_true, if_false, and_self, Nat.reduceEqDiff, Nat.reduceLeDiff, Nat.reduceSub, Nat.reduceAdd, Nat.le_refl, Int32.reduceLT, cl0, cl1, cl2, cl3, cl4, cl5, cl6, cl7, cl8, cl9, Nat.reduceLT, kc22, kc29, kc37, kn29, kr22_7, kr29_0, hta, hzt, vpk, Int32.reduceLT, b1, b2, b3, b4, b5, b6, ps, dv_0] at hQ ⊢
    exact hQ _ (show Fr (h) _ from (Fr_pi (Fr_pi (Fr_pi (Fr_pi (Fr_pi (Fr_pi (Fr_pi (Fr_pi (Fr_pi (Fr_pN Fr_rfl) (Nat.le_refl _)) (Nat.le_refl _)) (Nat.le_refl _)) (Nat.le_refl _)) (Nat.le_refl _)) (Nat.le_refl _)) (Nat.le_refl _)) (Nat.le_refl _)) (Nat.le_refl _)))

theorem m_leX0_2 {A : Nat → Nat} {h : MH} {Q : MR → MH → Prop} (R : Rl A h) (hQ : ∀ m, Fr h m → Q (.inl (some (.int (g_i h (A 15) 2)))) m) : Ok 228 0 [.ref (A 22), .int 0, .int 2, mk0, mk0] [] h 1 9 Q := by
  have R0 := R
  obtain ⟨vk, vcn, v0, v1, v2, vp, vl0, vl1, vlr, vsr, vc, tx⟩ := R0
  have vk0 := vk
  have vcn0 := vcn
  (refine K_el vk0 ?_; intros hA kc0 kc1 kc2 kc3 kc4 kc5 kc6 kc7 kc8 kc9 kc10 kc11 kc12 kc13 kc14 kc15 kc16 kc17 kc18 kc19 kc20 kc21 kc22 kc23 kc24 kc25 kc26 kc27 kc28 kc29 kc30 kc31 kc32 kc33 kc34 kc35 kc36 kc37 kc38 kc39 kz kt kn3 kn4 kn18 kn21 kn23 kn24 kn25 kn26 kn27 kn29 kn30 kr0_0 kr0_1 kr0_2 kr0_3 kr0_4 kr0_5 kr0_7 kr0_8 kr0_9 kr0_10 kr1_0 kr2_0 kr5_0 kr5_1 kr6_0 kr6_1 kr7_0 kr7_1 kr8_0 kr9_0 kr10_0 kr11_0 kr12_0 kr13_0 kr14_0 kr15_0 kr16_0 kr17_0 kr19_0 kr19_1 kr22_0 kr22_1 kr22_2 kr22_3 kr22_4 kr22_5 kr22_7 kr22_8 kr25_0 kr25_1 kr25_2 kr26_0 kr26_1 kr26_2 kr29_0 kr29_1)
  (refine Cn_el vcn0 ?_; intros ki5_2 ki6_2 ki7_2 ki8_1 ki8_2 ki8_3 ki9_1 ki9_2 ki9_3 ki10_1 ki10_2 ki10_3 ki11_1 ki11_2 ki11_3 ki12_1 ki12_2 ki12_3 ki13_1 ki13_2 ki13_3 ki14_1 ki14_2 ki14_3 ki28_0 ki28_1 ki31_0 ki31_1 ki32_0 ki32_1 ki33_0 ki33_1 ki34_0 ki34_1 ki35_0 ki35_1 ki36_0 ki36_1)
  have hAe : ∀ i j, i < 40 → j < 40 → (A i = A j ↔ i = j) := hA
  have hta : ∀ i, i < 40 → (A i = g_t h) = False := fun i hi => eq_false (fun z => by have := kt i hi; omega)
  have hta2 : ∀ i, i < 40 → (g_t h = A i) = False := fun i hi => eq_false (fun z => by have := kt i hi; omega)
  have hzt : g_z h ≤ g_t h := Nat.le_trans (kz 0 (by decide)) (Nat.le_of_lt (kt 0 (by decide)))
  have hl2 := vl0
  obtain ⟨⟨b1, b2, b3, b4, b5, b6⟩, ln⟩ := hl2
  replace b1 := b1.symm
  replace b2 := b2.symm
  replace b3 := b3.symm
  replace b4 := b4.symm
  replace b5 := b5.symm
  replace b6 := b6.symm
  by_cases ps : g_i h (A 15) 3 = 0
  all_goals
    simp only [o228_0, o228_1, o228_4, o228_5, o228_6, o228_7, o228_9, o228_11, o228_12, o228_13, o228_14, o228_17, o228_18, o228_19, o228_20, o228_21, o228_24, o228_25, o228_26, o228_27, o228_28, o228_31, o228_32, o228_33, o228_34, o228_35, o228_38, o228_39, o228_40, o228_41, o228_42, o228_45, o228_46, o228_47, o228_48, o228_49, o228_52, o228_55, o228_56, o228_59, o228_60, o228_61, o228_62, o228_64, o228_65, o228_68, o228_71, o228_72, o228_75, o228_76, o228_77, o228_78, o228_80, o228_81, o228_82, o228_83, o228_85, o228_86, o228_89, o228_92, o228_93, o228_96, o228_97, o228_100, o228_101, o228_103, o228_105, o228_106, o228_107, c_X7_rests, mc_pi, mc_pN, mn_pi, mn_pN, mi_pi, mi_pN, mz_pi, mz_pN, mcs_0, mcs_i, mcs_r, Kn_v, mrf_some, true_and, and_true, and_false, not_true_eq_false, not_false_eq_true, false_implies, forall_const, if_true, if_false, and_self, Nat.reduceEqDiff, Nat.reduceLeDiff, Nat.reduceSub, Nat.reduceAdd, Nat.le_refl, Int32.reduceLT, cl0, cl1, cl2, cl3, cl4, cl5, cl6, cl7, cl8, cl9, Nat.reduceLT, kc22, kc29, kc37, kn29, kr22_7, kr29_0, hta, hzt, vpk, Int32.reduceLT, b1, b2, b3, b4, b5, b6, ps, dv_0] at hQ ⊢
    exact hQ _ (show Fr (h) _ from (Fr_pi (Fr_pi (Fr_pi (Fr_pi (Fr_pi (Fr_pi (Fr_pi (Fr_pi (Fr_pi (Fr_pN Fr_rfl) (Nat.le_refl _)) (Nat.le_refl _)) (Nat.le_refl _)) (Nat.le_refl _)) (Nat.le_refl _)) (Nat.le_refl _)) (Nat.le_refl _)) (Nat.le_refl _)) (Nat.le_refl _)))

theorem m_leX0_3 {A : Nat → Nat} {h : MH} {Q : MR → MH → Prop} (R : Rl A h) (hQ : ∀ m, Fr h m → Q (.inl (some (.int (g_i h (A 15) 5 - g_i h (A 15) 4)))) m) : Ok 228 0 [.ref (A 22), .int 0, .int 3, mk0, mk0] [] h 1 9 Q := by
  have R0 := R
  obtain ⟨vk, vcn, v0, v1, v2, vp, vl0, vl1, vlr, vsr, vc, tx⟩ := R0
  have vk0 := vk
  have vcn0 := vcn
  (refine K_el vk0 ?_; intros hA kc0 kc1 kc2 kc3 kc4 kc5 kc6 kc7 kc8 kc9 kc10 kc11 kc12 kc13 kc14 kc15 kc16 kc17 kc18 kc19 kc20 kc21 kc22 kc23 kc24 kc25 kc26 kc27 kc28 kc29 kc30 kc31 kc32 kc33 kc34 kc35 kc36 kc37 kc38 kc39 kz kt kn3 kn4 kn18 kn21 kn23 kn24 kn25 kn26 kn27 kn29 kn30 kr0_0 kr0_1 kr0_2 kr0_3 kr0_4 kr0_5 kr0_7 kr0_8 kr0_9 kr0_10 kr1_0 kr2_0 kr5_0 kr5_1 kr6_0 kr6_1 kr7_0 kr7_1 kr8_0 kr9_0 kr10_0 kr11_0 kr12_0 kr13_0 kr14_0 kr15_0 kr16_0 kr17_0 kr19_0 kr19_1 kr22_0 kr22_1 kr22_2 kr22_3 kr22_4 kr22_5 kr22_7 kr22_8 kr25_0 kr25_1 kr25_2 kr26_0 kr26_1 kr26_2 kr29_0 kr29_1)
  (refine Cn_el vcn0 ?_; intros ki5_2 ki6_2 ki7_2 ki8_1 ki8_2 ki8_3 ki9_1 ki9_2 ki9_3 ki10_1 ki10_2 ki10_3 ki11_1 ki11_2 ki11_3 ki12_1 ki12_2 ki12_3 ki13_1 ki13_2 ki13_3 ki14_1 ki14_2 ki14_3 ki28_0 ki28_1 ki31_0 ki31_1 ki32_0 ki32_1 ki33_0 ki33_1 ki34_0 ki34_1 ki35_0 ki35_1 ki36_0 ki36_1)
  have hAe : ∀ i j, i < 40 → j < 40 → (A i = A j ↔ i = j) := hA
  have hta : ∀ i, i < 40 → (A i = g_t h) = False := fun i hi => eq_false (fun z => by have := kt i hi; omega)
  have hta2 : ∀ i, i < 40 → (g_t h = A i) = False := fun i hi => eq_false (fun z => by have := kt i hi; omega)
  have hzt : g_z h ≤ g_t h := Nat.le_trans (kz 0 (by decide)) (Nat.le_of_lt (kt 0 (by decide)))
  have hl2 := vl0
  obtain ⟨⟨b1, b2, b3, b4, b5, b6⟩, ln⟩ := hl2
  replace b1 := b1.symm
  replace b2 := b2.symm
  replace b3 := b3.symm
  replace b4 := b4.symm
  replace b5 := b5.symm
  replace b6 := b6.symm
  by_cases ps : g_i h (A 15) 3 = 0
  all_goals
    simp only [o228_0, o228_1, o228_4, o228_5, o228_6, o228_7, o228_9, o228_11, o228_12, o228_13, o228_14, o228_17, o228_18, o228_19, o228_20, o228_21, o228_24, o228_25, o228_26, o228_27, o228_28, o228_31, o228_32, o228_33, o228_34, o228_35, o228_38, o228_39, o228_40, o228_41, o228_42, o228_45, o228_46, o228_47, o228_48, o228_49, o228_52, o228_55, o228_56, o228_59, o228_60, o228_61, o228_62, o228_64, o228_65, o228_68, o228_71, o228_72, o228_75, o228_76, o228_77, o228_78, o228_80, o228_81, o228_82, o228_83, o228_85, o228_86, o228_89, o228_92, o228_93, o228_96, o228_97, o228_100, o228_101, o228_103, o228_105, o228_106, o228_107, c_X7_rests, mc_pi, mc_pN, mn_pi, mn_pN, mi_pi, mi_pN, mz_pi, mz_pN, mcs_0, mcs_i, mcs_r, Kn_v, mrf_some, true_and, and_true, and_false, not_true_eq_false, not_false_eq_true, false_implies, forall_const, if_true, if_false, and_self, Nat.reduceEqDiff, Nat.reduceLeDiff, Nat.reduceSub, Nat.reduceAdd, Nat.le_refl, Int32.reduceLT, cl0, cl1, cl2, cl3, cl4, cl5, cl6, cl7, cl8, cl9, Nat.reduceLT, kc22, kc29, kc37, kn29, kr22_7, kr29_0, hta, hzt, vpk, Int32.reduceLT, b1, b2, b3, b4, b5, b6, ps, dv_0] at hQ ⊢
    exact hQ _ (show Fr (h) _ from (Fr_pi (Fr_pi (Fr_pi (Fr_pi (Fr_pi (Fr_pi (Fr_pi (Fr_pi (Fr_pi (Fr_pN Fr_rfl) (Nat.le_refl _)) (Nat.le_refl _)) (Nat.le_refl _)) (Nat.le_refl _)) (Nat.le_refl _)) (Nat.le_refl _)) (Nat.le_refl _)) (Nat.le_refl _)) (Nat.le_refl _)))

theorem m_leX0_4 {A : Nat → Nat} {h : MH} {Q : MR → MH → Prop} (R : Rl A h) (hQ : ∀ m, Fr h m → Q (.inl (some (.int (g_i h (A 15) 6)))) m) : Ok 228 0 [.ref (A 22), .int 0, .int 4, mk0, mk0] [] h 1 9 Q := by
  have R0 := R
  obtain ⟨vk, vcn, v0, v1, v2, vp, vl0, vl1, vlr, vsr, vc, tx⟩ := R0
  have vk0 := vk
  have vcn0 := vcn
  (refine K_el vk0 ?_; intros hA kc0 kc1 kc2 kc3 kc4 kc5 kc6 kc7 kc8 kc9 kc10 kc11 kc12 kc13 kc14 kc15 kc16 kc17 kc18 kc19 kc20 kc21 kc22 kc23 kc24 kc25 kc26 kc27 kc28 kc29 kc30 kc31 kc32 kc33 kc34 kc35 kc36 kc37 kc38 kc39 kz kt kn3 kn4 kn18 kn21 kn23 kn24 kn25 kn26 kn27 kn29 kn30 kr0_0 kr0_1 kr0_2 kr0_3 kr0_4 kr0_5 kr0_7 kr0_8 kr0_9 kr0_10 kr1_0 kr2_0 kr5_0 kr5_1 kr6_0 kr6_1 kr7_0 kr7_1 kr8_0 kr9_0 kr10_0 kr11_0 kr12_0 kr13_0 kr14_0 kr15_0 kr16_0 kr17_0 kr19_0 kr19_1 kr22_0 kr22_1 kr22_2 kr22_3 kr22_4 kr22_5 kr22_7 kr22_8 kr25_0 kr25_1 kr25_2 kr26_0 kr26_1 kr26_2 kr29_0 kr29_1)
  (refine Cn_el vcn0 ?_; intros ki5_2 ki6_2 ki7_2 ki8_1 ki8_2 ki8_3 ki9_1 ki9_2 ki9_3 ki10_1 ki10_2 ki10_3 ki11_1 ki11_2 ki11_3 ki12_1 ki12_2 ki12_3 ki13_1 ki13_2 ki13_3 ki14_1 ki14_2 ki14_3 ki28_0 ki28_1 ki31_0 ki31_1 ki32_0 ki32_1 ki33_0 ki33_1 ki34_0 ki34_1 ki35_0 ki35_1 ki36_0 ki36_1)
  have hAe : ∀ i j, i < 40 → j < 40 → (A i = A j ↔ i = j) := hA
  have hta : ∀ i, i < 40 → (A i = g_t h) = False := fun i hi => eq_false (fun z => by have := kt i hi; omega)
  have hta2 : ∀ i, i < 40 → (g_t h = A i) = False := fun i hi => eq_false (fun z => by have := kt i hi; omega)
  have hzt : g_z h ≤ g_t h := Nat.le_trans (kz 0 (by decide)) (Nat.le_of_lt (kt 0 (by decide)))
  have hl2 := vl0
  obtain ⟨⟨b1, b2, b3, b4, b5, b6⟩, ln⟩ := hl2
  replace b1 := b1.symm
  replace b2 := b2.symm
  replace b3 := b3.symm
  replace b4 := b4.symm
  replace b5 := b5.symm
  replace b6 := b6.symm
  by_cases ps : g_i h (A 15) 3 = 0
  all_goals
    simp only [o228_0, o228_1, o228_4, o228_5, o228_6, o228_7, o228_9, o228_11, o228_12, o228_13, o228_14, o228_17, o228_18, o228_19, o228_20, o228_21, o228_24, o228_25, o228_26, o228_27, o228_28, o228_31, o228_32, o228_33, o228_34, o228_35, o228_38, o228_39, o228_40, o228_41, o228_42, o228_45, o228_46, o228_47, o228_48, o228_49, o228_52, o228_55, o228_56, o228_59, o228_60, o228_61, o228_62, o228_64, o228_65, o228_68, o228_71, o228_72, o228_75, o228_76, o228_77, o228_78, o228_80, o228_81, o228_82, o228_83, o228_85, o228_86, o228_89, o228_92, o228_93, o228_96, o228_97, o228_100, o228_101, o228_103, o228_105, o228_106, o228_107, c_X7_rests, mc_pi, mc_pN, mn_pi, mn_pN, mi_pi, mi_pN, mz_pi, mz_pN, mcs_0, mcs_i, mcs_r, Kn_v, mrf_some, true_and, and_true, and_false, not_true_eq_false, not_false_eq_true, false_implies, forall_const, if_true, if_false, and_self, Nat.reduceEqDiff, Nat.reduceLeDiff, Nat.reduceSub, Nat.reduceAdd, Nat.le_refl, Int32.reduceLT, cl0, cl1, cl2, cl3, cl4, cl5, cl6, cl7, cl8, cl9, Nat.reduceLT, kc22, kc29, kc37, kn29, kr22_7, kr29_0, hta, hzt, vpk, Int32.reduceLT, b1, b2, b3, b4, b5, b6, ps, dv_0] at hQ ⊢
    exact hQ _ (show Fr (h) _ from (Fr_pi (Fr_pi (Fr_pi (Fr_pi (Fr_pi (Fr_pi (Fr_pi (Fr_pi (Fr_pi (Fr_pN Fr_rfl) (Nat.le_refl _)) (Nat.le_refl _)) (Nat.le_refl _)) (Nat.le_refl _)) (Nat.le_refl _)) (Nat.le_refl _)) (Nat.le_refl _)) (Nat.le_refl _)) (Nat.le_refl _)))

theorem m_leX0_5 {A : Nat → Nat} {h : MH} {Q : MR → MH → Prop} (R : Rl A h) (hQ : ∀ m, Fr h m → Q (.inl (some (.int (if g_i h (A 15) 3 = 0 then 0 else 1)))) m) : Ok 228 0 [.ref (A 22), .int 0, .int 5, mk0, mk0] [] h 1 9 Q := by
  have R0 := R
  obtain ⟨vk, vcn, v0, v1, v2, vp, vl0, vl1, vlr, vsr, vc, tx⟩ := R0
  have vk0 := vk
  have vcn0 := vcn
  (refine K_el vk0 ?_; intros hA kc0 kc1 kc2 kc3 kc4 kc5 kc6 kc7 kc8 kc9 kc10 kc11 kc12 kc13 kc14 kc15 kc16 kc17 kc18 kc19 kc20 kc21 kc22 kc23 kc24 kc25 kc26 kc27 kc28 kc29 kc30 kc31 kc32 kc33 kc34 kc35 kc36 kc37 kc38 kc39 kz kt kn3 kn4 kn18 kn21 kn23 kn24 kn25 kn26 kn27 kn29 kn30 kr0_0 kr0_1 kr0_2 kr0_3 kr0_4 kr0_5 kr0_7 kr0_8 kr0_9 kr0_10 kr1_0 kr2_0 kr5_0 kr5_1 kr6_0 kr6_1 kr7_0 kr7_1 kr8_0 kr9_0 kr10_0 kr11_0 kr12_0 kr13_0 kr14_0 kr15_0 kr16_0 kr17_0 kr19_0 kr19_1 kr22_0 kr22_1 kr22_2 kr22_3 kr22_4 kr22_5 kr22_7 kr22_8 kr25_0 kr25_1 kr25_2 kr26_0 kr26_1 kr26_2 kr29_0 kr29_1)
  (refine Cn_el vcn0 ?_; intros ki5_2 ki6_2 ki7_2 ki8_1 ki8_2 ki8_3 ki9_1 ki9_2 ki9_3 ki10_1 ki10_2 ki10_3 ki11_1 ki11_2 ki11_3 ki12_1 ki12_2 ki12_3 ki13_1 ki13_2 ki13_3 ki14_1 ki14_2 ki14_3 ki28_0 ki28_1 ki31_0 ki31_1 ki32_0 ki32_1 ki33_0 ki33_1 ki34_0 ki34_1 ki35_0 ki35_1 ki36_0 ki36_1)
  have hAe : ∀ i j, i < 40 → j < 40 → (A i = A j ↔ i = j) := hA
  have hta : ∀ i, i < 40 → (A i = g_t h) = False := fun i hi => eq_false (fun z => by have := kt i hi; omega)
  have hta2 : ∀ i, i < 40 → (g_t h = A i) = False := fun i hi => eq_false (fun z => by have := kt i hi; omega)
  have hzt : g_z h ≤ g_t h := Nat.le_trans (kz 0 (by decide)) (Nat.le_of_lt (kt 0 (by decide)))
  have hl2 := vl0
  obtain ⟨⟨b1, b2, b3, b4, b5, b6⟩, ln⟩ := hl2
  replace b1 := b1.symm
  replace b2 := b2.symm
  replace b3 := b3.symm
  replace b4 := b4.symm
  replace b5 := b5.symm
  replace b6 := b6.symm
  by_cases ps : g_i h (A 15) 3 = 0
  all_goals
    simp only [o228_0, o228_1, o228_4, o228_5, o228_6, o228_7, o228_9, o228_11, o228_12, o228_13, o228_14, o228_17, o228_18, o228_19, o228_20, o228_21, o228_24, o228_25, o228_26, o228_27, o228_28, o228_31, o228_32, o228_33, o228_34, o228_35, o228_38, o228_39, o228_40, o228_41, o228_42, o228_45, o228_46, o228_47, o228_48, o228_49, o228_52, o228_55, o228_56, o228_59, o228_60, o228_61, o228_62, o228_64, o228_65, o228_68, o228_71, o228_72, o228_75, o228_76, o228_77, o228_78, o228_80, o228_81, o228_82, o228_83, o228_85, o228_86, o228_89, o228_92, o228_93, o228_96, o228_97, o228_100, o228_101, o228_103, o228_105, o228_106, o228_107, c_X7_rests, mc_pi, mc_pN, mn_pi, mn_pN, mi_pi, mi_pN, mz_pi, mz_pN, mcs_0, mcs_i, mcs_r, Kn_v, mrf_some, true_and, and_true, and_false, not_true_eq_false, not_false_eq_true, false_implies, forall_const, if_true, if_false, and_self, Nat.reduceEqDiff, Nat.reduceLeDiff, Nat.reduceSub, Nat.reduceAdd, Nat.le_refl, Int32.reduceLT, cl0, cl1, cl2, cl3, cl4, cl5, cl6, cl7, cl8, cl9, Nat.reduceLT, kc22, kc29, kc37, kn29, kr22_7, kr29_0, hta, hzt, vpk, Int32.reduceLT, b1, b2, b3, b4, b5, b6, ps, dv_0] at hQ ⊢
    exact hQ _ (show Fr (h) _ from (Fr_pi (Fr_pi (Fr_pi (Fr_pi (Fr_pi (Fr_pi (Fr_pi (Fr_pi (Fr_pi (Fr_pN Fr_rfl) (Nat.le_refl _)) (Nat.le_refl _)) (Nat.le_refl _)) (Nat.le_refl _)) (Nat.le_refl _)) (Nat.le_refl _)) (Nat.le_refl _)) (Nat.le_refl _)) (Nat.le_refl _)))

theorem m_leX0_6 {A : Nat → Nat} {h : MH} {Q : MR → MH → Prop} (R : Rl A h) (hQ : ∀ m, Fr h m → Q (.inl (some (.int (if g_i h (A 15) 3 = 0 then 1 else 0)))) m) : Ok 228 0 [.ref (A 22), .int 0, .int 6, mk0, mk0] [] h 1 9 Q := by
  have R0 := R
  obtain ⟨vk, vcn, v0, v1, v2, vp, vl0, vl1, vlr, vsr, vc, tx⟩ := R0
  have vk0 := vk
  have vcn0 := vcn
  (refine K_el vk0 ?_; intros hA kc0 kc1 kc2 kc3 kc4 kc5 kc6 kc7 kc8 kc9 kc10 kc11 kc12 kc13 kc14 kc15 kc16 kc17 kc18 kc19 kc20 kc21 kc22 kc23 kc24 kc25 kc26 kc27 kc28 kc29 kc30 kc31 kc32 kc33 kc34 kc35 kc36 kc37 kc38 kc39 kz kt kn3 kn4 kn18 kn21 kn23 kn24 kn25 kn26 kn27 kn29 kn30 kr0_0 kr0_1 kr0_2 kr0_3 kr0_4 kr0_5 kr0_7 kr0_8 kr0_9 kr0_10 kr1_0 kr2_0 kr5_0 kr5_1 kr6_0 kr6_1 kr7_0 kr7_1 kr8_0 kr9_0 kr10_0 kr11_0 kr12_0 kr13_0 kr14_0 kr15_0 kr16_0 kr17_0 kr19_0 kr19_1 kr22_0 kr22_1 kr22_2 kr22_3 kr22_4 kr22_5 kr22_7 kr22_8 kr25_0 kr25_1 kr25_2 kr26_0 kr26_1 kr26_2 kr29_0 kr29_1)
  (refine Cn_el vcn0 ?_; intros ki5_2 ki6_2 ki7_2 ki8_1 ki8_2 ki8_3 ki9_1 ki9_2 ki9_3 ki10_1 ki10_2 ki10_3 ki11_1 ki11_2 ki11_3 ki12_1 ki12_2 ki12_3 ki13_1 ki13_2 ki13_3 ki14_1 ki14_2 ki14_3 ki28_0 ki28_1 ki31_0 ki31_1 ki32_0 ki32_1 ki33_0 ki33_1 ki34_0 ki34_1 ki35_0 ki35_1 ki36_0 ki36_1)
  have hAe : ∀ i j, i < 40 → j < 40 → (A i = A j ↔ i = j) := hA
  have hta : ∀ i, i < 40 → (A i = g_t h) = False := fun i hi => eq_false (fun z => by have := kt i hi; omega)
  have hta2 : ∀ i, i < 40 → (g_t h = A i) = False := fun i hi => eq_false (fun z => by have := kt i hi; omega)
  have hzt : g_z h ≤ g_t h := Nat.le_trans (kz 0 (by decide)) (Nat.le_of_lt (kt 0 (by decide)))
  have hl2 := vl0
  obtain ⟨⟨b1, b2, b3, b4, b5, b6⟩, ln⟩ := hl2
  replace b1 := b1.symm
  replace b2 := b2.symm
  replace b3 := b3.symm
  replace b4 := b4.symm
  replace b5 := b5.symm
  replace b6 := b6.symm
  by_cases ps : g_i h (A 15) 3 = 0
  all_goals
    simp only [o228_0, o228_1, o228_4, o228_5, o228_6, o228_7, o228_9, o228_11, o228_12, o228_13, o228_14, o228_17, o228_18, o228_19, o228_20, o228_21, o228_24, o228_25, o228_26, o228_27, o228_28, o228_31, o228_32, o228_33, o228_34, o228_35, o228_38, o228_39, o228_40, o228_41, o228_42, o228_45, o228_46, o228_47, o228_48, o228_49, o228_52, o228_55, o228_56, o228_59, o228_60, o228_61, o228_62, o228_64, o228_65, o228_68, o228_71, o228_72, o228_75, o228_76, o228_77, o228_78, o228_80, o228_81, o228_82, o228_83, o228_85, o228_86, o228_89, o228_92, o228_93, o228_96, o228_97, o228_100, o228_101, o228_103, o228_105, o228_106, o228_107, c_X7_rests, mc_pi, mc_pN, mn_pi, mn_pN, mi_pi, mi_pN, mz_pi, mz_pN, mcs_0, mcs_i, mcs_r, Kn_v, mrf_some, true_and, and_true, and_false, not_true_eq_false, not_false_eq_true, false_implies, forall_const, if_true, if_false, and_self, Nat.reduceEqDiff, Nat.reduceLeDiff, Nat.reduceSub, Nat.reduceAdd, Nat.le_refl, Int32.reduceLT, cl0, cl1, cl2, cl3, cl4, cl5, cl6, cl7, cl8, cl9, Nat.reduceLT, kc22, kc29, kc37, kn29, kr22_7, kr29_0, hta, hzt, vpk, Int32.reduceLT, b1, b2, b3, b4, b5, b6, ps, dv_0] at hQ ⊢
    exact hQ _ (show Fr (h) _ from (Fr_pi (Fr_pi (Fr_pi (Fr_pi (Fr_pi (Fr_pi (Fr_pi (Fr_pi (Fr_pi (Fr_pN Fr_rfl) (Nat.le_refl _)) (Nat.le_refl _)) (Nat.le_refl _)) (Nat.le_refl _)) (Nat.le_refl _)) (Nat.le_refl _)) (Nat.le_refl _)) (Nat.le_refl _)) (Nat.le_refl _)))

theorem m_leX0_7 {A : Nat → Nat} {h : MH} {Q : MR → MH → Prop} (R : Rl A h) (hQ : ∀ m, Fr h m → Q (.inl (some (.int (0)))) m) : Ok 228 0 [.ref (A 22), .int 0, .int 7, mk0, mk0] [] h 1 9 Q := by
  have R0 := R
  obtain ⟨vk, vcn, v0, v1, v2, vp, vl0, vl1, vlr, vsr, vc, tx⟩ := R0
  have vk0 := vk
  have vcn0 := vcn
  (refine K_el vk0 ?_; intros hA kc0 kc1 kc2 kc3 kc4 kc5 kc6 kc7 kc8 kc9 kc10 kc11 kc12 kc13 kc14 kc15 kc16 kc17 kc18 kc19 kc20 kc21 kc22 kc23 kc24 kc25 kc26 kc27 kc28 kc29 kc30 kc31 kc32 kc33 kc34 kc35 kc36 kc37 kc38 kc39 kz kt kn3 kn4 kn18 kn21 kn23 kn24 kn25 kn26 kn27 kn29 kn30 kr0_0 kr0_1 kr0_2 kr0_3 kr0_4 kr0_5 kr0_7 kr0_8 kr0_9 kr0_10 kr1_0 kr2_0 kr5_0 kr5_1 kr6_0 kr6_1 kr7_0 kr7_1 kr8_0 kr9_0 kr10_0 kr11_0 kr12_0 kr13_0 kr14_0 kr15_0 kr16_0 kr17_0 kr19_0 kr19_1 kr22_0 kr22_1 kr22_2 kr22_3 kr22_4 kr22_5 kr22_7 kr22_8 kr25_0 kr25_1 kr25_2 kr26_0 kr26_1 kr26_2 kr29_0 kr29_1)
  (refine Cn_el vcn0 ?_; intros ki5_2 ki6_2 ki7_2 ki8_1 ki8_2 ki8_3 ki9_1 ki9_2 ki9_3 ki10_1 ki10_2 ki10_3 ki11_1 ki11_2 ki11_3 ki12_1 ki12_2 ki12_3 ki13_1 ki13_2 ki13_3 ki14_1 ki14_2 ki14_3 ki28_0 ki28_1 ki31_0 ki31_1 ki32_0 ki32_1 ki33_0 ki33_1 ki34_0 ki34_1 ki35_0 ki35_1 ki36_0 ki36_1)
  have hAe : ∀ i j, i < 40 → j < 40 → (A i = A j ↔ i = j) := hA
  have hta : ∀ i, i < 40 → (A i = g_t h) = False := fun i hi => eq_false (fun z => by have := kt i hi; omega)
  have hta2 : ∀ i, i < 40 → (g_t h = A i) = False := fun i hi => eq_false (fun z => by have := kt i hi; omega)
  have hzt : g_z h ≤ g_t h := Nat.le_trans (kz 0 (by decide)) (Nat.le_of_lt (kt 0 (by decide)))
  have hl2 := vl0
  obtain ⟨⟨b1, b2, b3, b4, b5, b6⟩, ln⟩ := hl2
  replace b1 := b1.symm
  replace b2 := b2.symm
  replace b3 := b3.symm
  replace b4 := b4.symm
  replace b5 := b5.symm
  replace b6 := b6.symm
  by_cases ps : g_i h (A 15) 3 = 0
  all_goals
    simp only [o228_0, o228_1, o228_4, o228_5, o228_6, o228_7, o228_9, o228_11, o228_12, o228_13, o228_14, o228_17, o228_18, o228_19, o228_20, o228_21, o228_24, o228_25, o228_26, o228_27, o228_28, o228_31, o228_32, o228_33, o228_34, o228_35, o228_38, o228_39, o228_40, o228_41, o228_42, o228_45, o228_46, o228_47, o228_48, o228_49, o228_52, o228_55, o228_56, o228_59, o228_60, o228_61, o228_62, o228_64, o228_65, o228_68, o228_71, o228_72, o228_75, o228_76, o228_77, o228_78, o228_80, o228_81, o228_82, o228_83, o228_85, o228_86, o228_89, o228_92, o228_93, o228_96, o228_97, o228_100, o228_101, o228_103, o228_105, o228_106, o228_107, c_X7_rests, mc_pi, mc_pN, mn_pi, mn_pN, mi_pi, mi_pN, mz_pi, mz_pN, mcs_0, mcs_i, mcs_r, Kn_v, mrf_some, true_and, and_true, and_false, not_true_eq_false, not_false_eq_true, false_implies, forall_const, if_true, if_false, and_self, Nat.reduceEqDiff, Nat.reduceLeDiff, Nat.reduceSub, Nat.reduceAdd, Nat.le_refl, Int32.reduceLT, cl0, cl1, cl2, cl3, cl4, cl5, cl6, cl7, cl8, cl9, Nat.reduceLT, kc22, kc29, kc37, kn29, kr22_7, kr29_0, hta, hzt, vpk, Int32.reduceLT, b1, b2, b3, b4, b5, b6, ps, dv_0] at hQ ⊢
    exact hQ _ (show Fr (h) _ from (Fr_pi (Fr_pi (Fr_pi (Fr_pi (Fr_pi (Fr_pi (Fr_pi (Fr_pi (Fr_pi (Fr_pN Fr_rfl) (Nat.le_refl _)) (Nat.le_refl _)) (Nat.le_refl _)) (Nat.le_refl _)) (Nat.le_refl _)) (Nat.le_refl _)) (Nat.le_refl _)) (Nat.le_refl _)) (Nat.le_refl _)))

theorem m_leX0_8 {A : Nat → Nat} {h : MH} {Q : MR → MH → Prop} (R : Rl A h) (hQ : ∀ m, Fr h m → Q (.inl (some (.int (if g_i h (A 15) 3 = 0 then g_i h (A 15) 1 else -1)))) m) : Ok 228 0 [.ref (A 22), .int 0, .int 8, mk0, mk0] [] h 1 9 Q := by
  have R0 := R
  obtain ⟨vk, vcn, v0, v1, v2, vp, vl0, vl1, vlr, vsr, vc, tx⟩ := R0
  have vk0 := vk
  have vcn0 := vcn
  (refine K_el vk0 ?_; intros hA kc0 kc1 kc2 kc3 kc4 kc5 kc6 kc7 kc8 kc9 kc10 kc11 kc12 kc13 kc14 kc15 kc16 kc17 kc18 kc19 kc20 kc21 kc22 kc23 kc24 kc25 kc26 kc27 kc28 kc29 kc30 kc31 kc32 kc33 kc34 kc35 kc36 kc37 kc38 kc39 kz kt kn3 kn4 kn18 kn21 kn23 kn24 kn25 kn26 kn27 kn29 kn30 kr0_0 kr0_1 kr0_2 kr0_3 kr0_4 kr0_5 kr0_7 kr0_8 kr0_9 kr0_10 kr1_0 kr2_0 kr5_0 kr5_1 kr6_0 kr6_1 kr7_0 kr7_1 kr8_0 kr9_0 kr10_0 kr11_0 kr12_0 kr13_0 kr14_0 kr15_0 kr16_0 kr17_0 kr19_0 kr19_1 kr22_0 kr22_1 kr22_2 kr22_3 kr22_4 kr22_5 kr22_7 kr22_8 kr25_0 kr25_1 kr25_2 kr26_0 kr26_1 kr26_2 kr29_0 kr29_1)
  (refine Cn_el vcn0 ?_; intros ki5_2 ki6_2 ki7_2 ki8_1 ki8_2 ki8_3 ki9_1 ki9_2 ki9_3 ki10_1 ki10_2 ki10_3 ki11_1 ki11_2 ki11_3 ki12_1 ki12_2 ki12_3 ki13_1 ki13_2 ki13_3 ki14_1 ki14_2 ki14_3 ki28_0 ki28_1 ki31_0 ki31_1 ki32_0 ki32_1 ki33_0 ki33_1 ki34_0 ki34_1 ki35_0 ki35_1 ki36_0 ki36_1)
  have hAe : ∀ i j, i < 40 → j < 40 → (A i = A j ↔ i = j) := hA
  have hta : ∀ i, i < 40 → (A i = g_t h) = False := fun i hi => eq_false (fun z => by have := kt i hi; omega)
  have hta2 : ∀ i, i < 40 → (g_t h = A i) = False := fun i hi => eq_false (fun z => by have := kt i hi; omega)
  have hzt : g_z h ≤ g_t h := Nat.le_trans (kz 0 (by decide)) (Nat.le_of_lt (kt 0 (by decide)))
  have hl2 := vl0
  obtain ⟨⟨b1, b2, b3, b4, b5, b6⟩, ln⟩ := hl2
  replace b1 := b1.symm
  replace b2 := b2.symm
  replace b3 := b3.symm
  replace b4 := b4.symm
  replace b5 := b5.symm
  replace b6 := b6.symm
  by_cases ps : g_i h (A 15) 3 = 0
  all_goals
    simp only [o228_0, o228_1, o228_4, o228_5, o228_6, o228_7, o228_9, o228_11, o228_12, o228_13, o228_14, o228_17, o228_18, o228_19, o228_20, o228_21, o228_24, o228_25, o228_26, o228_27, o228_28, o228_31, o228_32, o228_33, o228_34, o228_35, o228_38, o228_39, o228_40, o228_41, o228_42, o228_45, o228_46, o228_47, o228_48, o228_49, o228_52, o228_55, o228_56, o228_59, o228_60, o228_61, o228_62, o228_64, o228_65, o228_68, o228_71, o228_72, o228_75, o228_76, o228_77, o228_78, o228_80, o228_81, o228_82, o228_83, o228_85, o228_86, o228_89, o228_92, o228_93, o228_96, o228_97, o228_100, o228_101, o228_103, o228_105, o228_106, o228_107, c_X7_rests, mc_pi, mc_pN, mn_pi, mn_pN, mi_pi, mi_pN, mz_pi, mz_pN, mcs_0, mcs_i, mcs_r, Kn_v, mrf_some, true_and, and_true, and_false, not_true_eq_false, not_false_eq_true, false_implies, forall_const, if_true, if_false, and_self, Nat.reduceEqDiff, Nat.reduceLeDiff, Nat.reduceSub, Nat.reduceAdd, Nat.le_refl, Int32.reduceLT, cl0, cl1, cl2, cl3, cl4, cl5, cl6, cl7, cl8, cl9, Nat.reduceLT, kc22, kc29, kc37, kn29, kr22_7, kr29_0, hta, hzt, vpk, Int32.reduceLT, b1, b2, b3, b4, b5, b6, ps, dv_0] at hQ ⊢
    exact hQ _ (show Fr (h) _ from (Fr_pi (Fr_pi (Fr_pi (Fr_pi (Fr_pi (Fr_pi (Fr_pi (Fr_pi (Fr_pi (Fr_pN Fr_rfl) (Nat.le_refl _)) (Nat.le_refl _)) (Nat.le_refl _)) (Nat.le_refl _)) (Nat.le_refl _)) (Nat.le_refl _)) (Nat.le_refl _)) (Nat.le_refl _)) (Nat.le_refl _)))

theorem m_leX1_0 {A : Nat → Nat} {h : MH} {Q : MR → MH → Prop} (R : Rl A h) (hQ : ∀ m, Fr h m → Q (.inl (some (.int (g_i h (A 16) 4)))) m) : Ok 228 0 [.ref (A 22), .int 1, .int 0, mk0, mk0] [] h 1 9 Q := by
  have R0 := R
  obtain ⟨vk, vcn, v0, v1, v2, vp, vl0, vl1, vlr, vsr, vc, tx⟩ := R0
  have vk0 := vk
  have vcn0 := vcn
  (refine K_el vk0 ?_; intros hA kc0 kc1 kc2 kc3 kc4 kc5 kc6 kc7 kc8 kc9 kc10 kc11 kc12 kc13 kc14 kc15 kc16 kc17 kc18 kc19 kc20 kc21 kc22 kc23 kc24 kc25 kc26 kc27 kc28 kc29 kc30 kc31 kc32 kc33 kc34 kc35 kc36 kc37 kc38 kc39 kz kt kn3 kn4 kn18 kn21 kn23 kn24 kn25 kn26 kn27 kn29 kn30 kr0_0 kr0_1 kr0_2 kr0_3 kr0_4 kr0_5 kr0_7 kr0_8 kr0_9 kr0_10 kr1_0 kr2_0 kr5_0 kr5_1 kr6_0 kr6_1 kr7_0 kr7_1 kr8_0 kr9_0 kr10_0 kr11_0 kr12_0 kr13_0 kr14_0 kr15_0 kr16_0 kr17_0 kr19_0 kr19_1 kr22_0 kr22_1 kr22_2 kr22_3 kr22_4 kr22_5 kr22_7 kr22_8 kr25_0 kr25_1 kr25_2 kr26_0 kr26_1 kr26_2 kr29_0 kr29_1)
  (refine Cn_el vcn0 ?_; intros ki5_2 ki6_2 ki7_2 ki8_1 ki8_2 ki8_3 ki9_1 ki9_2 ki9_3 ki10_1 ki10_2 ki10_3 ki11_1 ki11_2 ki11_3 ki12_1 ki12_2 ki12_3 ki13_1 ki13_2 ki13_3 ki14_1 ki14_2 ki14_3 ki28_0 ki28_1 ki31_0 ki31_1 ki32_0 ki32_1 ki33_0 ki33_1 ki34_0 ki34_1 ki35_0 ki35_1 ki36_0 ki36_1)
  have hAe : ∀ i j, i < 40 → j < 40 → (A i = A j ↔ i = j) := hA
  have hta : ∀ i, i < 40 → (A i = g_t h) = False := fun i hi => eq_false (fun z => by have := kt i hi; omega)
  have hta2 : ∀ i, i < 40 → (g_t h = A i) = False := fun i hi => eq_false (fun z => by have := kt i hi; omega)
  have hzt : g_z h ≤ g_t h := Nat.le_trans (kz 0 (by decide)) (Nat.le_of_lt (kt 0 (by decide)))
  have hl2 := vl1
  obtain ⟨⟨b1, b2, b3, b4, b5, b6⟩, ln⟩ := hl2
  replace b1 := b1.symm
  replace b2 := b2.symm
  replace b3 := b3.symm
  replace b4 := b4.symm
  replace b5 := b5.symm
  replace b6 := b6.symm
  by_cases ps : g_i h (A 16) 3 = 0
  all_goals
    simp only [o228_0, o228_1, o228_4, o228_5, o228_6, o228_7, o228_9, o228_11, o228_12, o228_13, o228_14, o228_17, o228_18, o228_19, o228_20, o228_21, o228_24, o228_25, o228_26, o228_27, o228_28, o228_31, o228_32, o228_33, o228_34, o228_35, o228_38, o228_39, o228_40, o228_41, o228_42, o228_45, o228_46, o228_47, o228_48, o228_49, o228_52, o228_55, o228_56, o228_59, o228_60, o228_61, o228_62, o228_64, o228_65, o228_68, o228_71, o228_72, o228_75, o228_76, o228_77, o228_78, o228_80, o228_81, o228_82, o228_83, o228_85, o228_86, o228_89, o228_92, o228_93, o228_96, o228_97, o228_100, o228_101, o228_103, o228_105, o228_106, o228_107, c_X7_rests, mc_pi, mc_pN, mn_pi, mn_pN, mi_pi, mi_pN, mz_pi, mz_pN, mcs_0, mcs_i, mcs_r, Kn_v, mrf_some, true_and, and_true, and_false, not_true_eq_false, not_false_eq_true, false_implies, forall_const, if_true, if_false, and_self, Nat.reduceEqDiff, Nat.reduceLeDiff, Nat.reduceSub, Nat.reduceAdd, Nat.le_refl, Int32.reduceLT, cl0, cl1, cl2, cl3, cl4, cl5, cl6, cl7, cl8, cl9, Nat.reduceLT, kc22, kc29, kc38, kn29, kr22_7, kr29_1, hta, hzt, vpk, Int32.reduceLT, b1, b2, b3, b4, b5, b6, ps, dv_1] at hQ ⊢
    exact hQ _ (show Fr (h) _ from (Fr_pi (Fr_pi (Fr_pi (Fr_pi (Fr_pi (Fr_pi (Fr_pi (Fr_pi (Fr_pi (Fr_pN Fr_rfl) (Nat.le_refl _)) (Nat.le_refl _)) (Nat.le_refl _)) (Nat.le_refl _)) (Nat.le_refl _)) (Nat.le_refl _)) (Nat.le_refl _)) (Nat.le_refl _)) (Nat.le_refl _)))

theorem m_leX1_1 {A : Nat → Nat} {h : MH} {Q : MR → MH → Prop} (R : Rl A h) (hQ : ∀ m, Fr h m → Q (.inl (some (.int (g_i h (A 16) 5)))) m) : Ok 228 0 [.ref (A 22), .int 1, .int 1, mk0, mk0] [] h 1 9 Q := by
  have R0 := R
  obtain ⟨vk, vcn, v0, v1, v2, vp, vl0, vl1, vlr, vsr, vc, tx⟩ := R0
  have vk0 := vk
  have vcn0 := vcn
  (refine K_el vk0 ?_; intros hA kc0 kc1 kc2 kc3 kc4 kc5 kc6 kc7 kc8 kc9 kc10 kc11 kc12 kc13 kc14 kc15 kc16 kc17 kc18 kc19 kc20 kc21 kc22 kc23 kc24 kc25 kc26 kc27 kc28 kc29 kc30 kc31 kc32 kc33 kc34 kc35 kc36 kc37 kc38 kc39 kz kt kn3 kn4 kn18 kn21 kn23 kn24 kn25 kn26 kn27 kn29 kn30 kr0_0 kr0_1 kr0_2 kr0_3 kr0_4 kr0_5 kr0_7 kr0_8 kr0_9 kr0_10 kr1_0 kr2_0 kr5_0 kr5_1 kr6_0 kr6_1 kr7_0 kr7_1 kr8_0 kr9_0 kr10_0 kr11_0 kr12_0 kr13_0 kr14_0 kr15_0 kr16_0 kr17_0 kr19_0 kr19_1 kr22_0 kr22_1 kr22_2 kr22_3 kr22_4 kr22_5 kr22_7 kr22_8 kr25_0 kr25_1 kr25_2 kr26_0 kr26_1 kr26_2 kr29_0 kr29_1)
  (refine Cn_el vcn0 ?_; intros ki5_2 ki6_2 ki7_2 ki8_1 ki8_2 ki8_3 ki9_1 ki9_2 ki9_3 ki10_1 ki10_2 ki10_3 ki11_1 ki11_2 ki11_3 ki12_1 ki12_2 ki12_3 ki13_1 ki13_2 ki13_3 ki14_1 ki14_2 ki14_3 ki28_0 ki28_1 ki31_0 ki31_1 ki32_0 ki32_1 ki33_0 ki33_1 ki34_0 ki34_1 ki35_0 ki35_1 ki36_0 ki36_1)
  have hAe : ∀ i j, i < 40 → j < 40 → (A i = A j ↔ i = j) := hA
  have hta : ∀ i, i < 40 → (A i = g_t h) = False := fun i hi => eq_false (fun z => by have := kt i hi; omega)
  have hta2 : ∀ i, i < 40 → (g_t h = A i) = False := fun i hi => eq_false (fun z => by have := kt i hi; omega)
  have hzt : g_z h ≤ g_t h := Nat.le_trans (kz 0 (by decide)) (Nat.le_of_lt (kt 0 (by decide)))
  have hl2 := vl1
  obtain ⟨⟨b1, b2, b3, b4, b5, b6⟩, ln⟩ := hl2
  replace b1 := b1.symm
  replace b2 := b2.symm
  replace b3 := b3.symm
  replace b4 := b4.symm
  replace b5 := b5.symm
  replace b6 := b6.symm
  by_cases ps : g_i h (A 16) 3 = 0
  all_goals
    simp only [o228_0, o228_1, o228_4, o228_5, o228_6, o228_7, o228_9, o228_11, o228_12, o228_13, o228_14, o228_17, o228_18, o228_19, o228_20, o228_21, o228_24, o228_25, o228_26, o228_27, o228_28, o228_31, o228_32, o228_33, o228_34, o228_35, o228_38, o228_39, o228_40, o228_41, o228_42, o228_45, o228_46, o228_47, o228_48, o228_49, o228_52, o228_55, o228_56, o228_59, o228_60, o228_61, o228_62, o228_64, o228_65, o228_68, o228_71, o228_72, o228_75, o228_76, o228_77, o228_78, o228_80, o228_81, o228_82, o228_83, o228_85, o228_86, o228_89, o228_92, o228_93, o228_96, o228_97, o228_100, o228_101, o228_103, o228_105, o228_106, o228_107, c_X7_rests, mc_pi, mc_pN, mn_pi, mn_pN, mi_pi, mi_pN, mz_pi, mz_pN, mcs_0, mcs_i, mcs_r, Kn_v, mrf_some, true_and, and_true, and_false, not_true_eq_false, not_false_eq_true, false_implies, forall_const, if_true, if_false, and_self, Nat.reduceEqDiff, Nat.reduceLeDiff, Nat.reduceSub, Nat.reduceAdd, Nat.le_refl, Int32.reduceLT, cl0, cl1, cl2, cl3, cl4, cl5, cl6, cl7, cl8, cl9, Nat.reduceLT, kc22, kc29, kc38, kn29, kr22_7, kr29_1, hta, hzt, vpk, Int32.reduceLT, b1, b2, b3, b4, b5, b6, ps, dv_1] at hQ ⊢
    exact hQ _ (show Fr (h) _ from (Fr_pi (Fr_pi (Fr_pi (Fr_pi (Fr_pi (Fr_pi (Fr_pi (Fr_pi (Fr_pi (Fr_pN Fr_rfl) (Nat.le_refl _)) (Nat.le_refl _)) (Nat.le_refl _)) (Nat.le_refl _)) (Nat.le_refl _)) (Nat.le_refl _)) (Nat.le_refl _)) (Nat.le_refl _)) (Nat.le_refl _)))

theorem m_leX1_2 {A : Nat → Nat} {h : MH} {Q : MR → MH → Prop} (R : Rl A h) (hQ : ∀ m, Fr h m → Q (.inl (some (.int (g_i h (A 16) 2)))) m) : Ok 228 0 [.ref (A 22), .int 1, .int 2, mk0, mk0] [] h 1 9 Q := by
  have R0 := R
  obtain ⟨vk, vcn, v0, v1, v2, vp, vl0, vl1, vlr, vsr, vc, tx⟩ := R0
  have vk0 := vk
  have vcn0 := vcn
  (refine K_el vk0 ?_; intros hA kc0 kc1 kc2 kc3 kc4 kc5 kc6 kc7 kc8 kc9 kc10 kc11 kc12 kc13 kc14 kc15 kc16 kc17 kc18 kc19 kc20 kc21 kc22 kc23 kc24 kc25 kc26 kc27 kc28 kc29 kc30 kc31 kc32 kc33 kc34 kc35 kc36 kc37 kc38 kc39 kz kt kn3 kn4 kn18 kn21 kn23 kn24 kn25 kn26 kn27 kn29 kn30 kr0_0 kr0_1 kr0_2 kr0_3 kr0_4 kr0_5 kr0_7 kr0_8 kr0_9 kr0_10 kr1_0 kr2_0 kr5_0 kr5_1 kr6_0 kr6_1 kr7_0 kr7_1 kr8_0 kr9_0 kr10_0 kr11_0 kr12_0 kr13_0 kr14_0 kr15_0 kr16_0 kr17_0 kr19_0 kr19_1 kr22_0 kr22_1 kr22_2 kr22_3 kr22_4 kr22_5 kr22_7 kr22_8 kr25_0 kr25_1 kr25_2 kr26_0 kr26_1 kr26_2 kr29_0 kr29_1)
  (refine Cn_el vcn0 ?_; intros ki5_2 ki6_2 ki7_2 ki8_1 ki8_2 ki8_3 ki9_1 ki9_2 ki9_3 ki10_1 ki10_2 ki10_3 ki11_1 ki11_2 ki11_3 ki12_1 ki12_2 ki12_3 ki13_1 ki13_2 ki13_3 ki14_1 ki14_2 ki14_3 ki28_0 ki28_1 ki31_0 ki31_1 ki32_0 ki32_1 ki33_0 ki33_1 ki34_0 ki34_1 ki35_0 ki35_1 ki36_0 ki36_1)
  have hAe : ∀ i j, i < 40 → j < 40 → (A i = A j ↔ i = j) := hA
  have hta : ∀ i, i < 40 → (A i = g_t h) = False := fun i hi => eq_false (fun z => by have := kt i hi; omega)
  have hta2 : ∀ i, i < 40 → (g_t h = A i) = False := fun i hi => eq_false (fun z => by have := kt i hi; omega)
  have hzt : g_z h ≤ g_t h := Nat.le_trans (kz 0 (by decide)) (Nat.le_of_lt (kt 0 (by decide)))
  have hl2 := vl1
  obtain ⟨⟨b1, b2, b3, b4, b5, b6⟩, ln⟩ := hl2
  replace b1 := b1.symm
  replace b2 := b2.symm
  replace b3 := b3.symm
  replace b4 := b4.symm
  replace b5 := b5.symm
  replace b6 := b6.symm
  by_cases ps : g_i h (A 16) 3 = 0
  all_goals
    simp only [o228_0, o228_1, o228_4, o228_5, o228_6, o228_7, o228_9, o228_11, o228_12, o228_13, o228_14, o228_17, o228_18, o228_19, o228_20, o228_21, o228_24, o228_25, o228_26, o228_27, o228_28, o228_31, o228_32, o228_33, o228_34, o228_35, o228_38, o228_39, o228_40, o228_41, o228_42, o228_45, o228_46, o228_47, o228_48, o228_49, o228_52, o228_55, o228_56, o228_59, o228_60, o228_61, o228_62, o228_64, o228_65, o228_68, o228_71, o228_72, o228_75, o228_76, o228_77, o228_78, o228_80, o228_81, o228_82, o228_83, o228_85, o228_86, o228_89, o228_92, o228_93, o228_96, o228_97, o228_100, o228_101, o228_103, o228_105, o228_106, o228_107, c_X7_rests, mc_pi, mc_pN, mn_pi, mn_pN, mi_pi, mi_pN, mz_pi, mz_pN, mcs_0, mcs_i, mcs_r, Kn_v, mrf_some, true_and, and_true, and_false, not_true_eq_false, not_false_eq_true, false_implies, forall_const, if_true, if_false, and_self, Nat.reduceEqDiff, Nat.reduceLeDiff, Nat.reduceSub, Nat.reduceAdd, Nat.le_refl, Int32.reduceLT, cl0, cl1, cl2, cl3, cl4, cl5, cl6, cl7, cl8, cl9, Nat.reduceLT, kc22, kc29, kc38, kn29, kr22_7, kr29_1, hta, hzt, vpk, Int32.reduceLT, b1, b2, b3, b4, b5, b6, ps, dv_1] at hQ ⊢
    exact hQ _ (show Fr (h) _ from (Fr_pi (Fr_pi (Fr_pi (Fr_pi (Fr_pi (Fr_pi (Fr_pi (Fr_pi (Fr_pi (Fr_pN Fr_rfl) (Nat.le_refl _)) (Nat.le_refl _)) (Nat.le_refl _)) (Nat.le_refl _)) (Nat.le_refl _)) (Nat.le_refl _)) (Nat.le_refl _)) (Nat.le_refl _)) (Nat.le_refl _)))

theorem m_leX1_3 {A : Nat → Nat} {h : MH} {Q : MR → MH → Prop} (R : Rl A h) (hQ : ∀ m, Fr h m → Q (.inl (some (.int (g_i h (A 16) 5 - g_i h (A 16) 4)))) m) : Ok 228 0 [.ref (A 22), .int 1, .int 3, mk0, mk0] [] h 1 9 Q := by
  have R0 := R
  obtain ⟨vk, vcn, v0, v1, v2, vp, vl0, vl1, vlr, vsr, vc, tx⟩ := R0
  have vk0 := vk
  have vcn0 := vcn
  (refine K_el vk0 ?_; intros hA kc0 kc1 kc2 kc3 kc4 kc5 kc6 kc7 kc8 kc9 kc10 kc11 kc12 kc13 kc14 kc15 kc16 kc17 kc18 kc19 kc20 kc21 kc22 kc23 kc24 kc25 kc26 kc27 kc28 kc29 kc30 kc31 kc32 kc33 kc34 kc35 kc36 kc37 kc38 kc39 kz kt kn3 kn4 kn18 kn21 kn23 kn24 kn25 kn26 kn27 kn29 kn30 kr0_0 kr0_1 kr0_2 kr0_3 kr0_4 kr0_5 kr0_7 kr0_8 kr0_9 kr0_10 kr1_0 kr2_0 kr5_0 kr5_1 kr6_0 kr6_1 kr7_0 kr7_1 kr8_0 kr9_0 kr10_0 kr11_0 kr12_0 kr13_0 kr14_0 kr15_0 kr16_0 kr17_0 kr19_0 kr19_1 kr22_0 kr22_1 kr22_2 kr22_3 kr22_4 kr22_5 kr22_7 kr22_8 kr25_0 kr25_1 kr25_2 kr26_0 kr26_1 kr26_2 kr29_0 kr29_1)
  (refine Cn_el vcn0 ?_; intros ki5_2 ki6_2 ki7_2 ki8_1 ki8_2 ki8_3 ki9_1 ki9_2 ki9_3 ki10_1 ki10_2 ki10_3 ki11_1 ki11_2 ki11_3 ki12_1 ki12_2 ki12_3 ki13_1 ki13_2 ki13_3 ki14_1 ki14_2 ki14_3 ki28_0 ki28_1 ki31_0 ki31_1 ki32_0 ki32_1 ki33_0 ki33_1 ki34_0 ki34_1 ki35_0 ki35_1 ki36_0 ki36_1)
  have hAe : ∀ i j, i < 40 → j < 40 → (A i = A j ↔ i = j) := hA
  have hta : ∀ i, i < 40 → (A i = g_t h) = False := fun i hi => eq_false (fun z => by have := kt i hi; omega)
  have hta2 : ∀ i, i < 40 → (g_t h = A i) = False := fun i hi => eq_false (fun z => by have := kt i hi; omega)
  have hzt : g_z h ≤ g_t h := Nat.le_trans (kz 0 (by decide)) (Nat.le_of_lt (kt 0 (by decide)))
  have hl2 := vl1
  obtain ⟨⟨b1, b2, b3, b4, b5, b6⟩, ln⟩ := hl2
  replace b1 := b1.symm
  replace b2 := b2.symm
  replace b3 := b3.symm
  replace b4 := b4.symm
  replace b5 := b5.symm
  replace b6 := b6.symm
  by_cases ps : g_i h (A 16) 3 = 0
  all_goals
    simp only [o228_0, o228_1, o228_4, o228_5, o228_6, o228_7, o228_9, o228_11, o228_12, o228_13, o228_14, o228_17, o228_18, o228_19, o228_20, o228_21, o228_24, o228_25, o228_26, o228_27, o228_28, o228_31, o228_32, o228_33, o228_34, o228_35, o228_38, o228_39, o228_40, o228_41, o228_42, o228_45, o228_46, o228_47, o228_48, o228_49, o228_52, o228_55, o228_56, o228_59, o228_60, o228_61, o228_62, o228_64, o228_65, o228_68, o228_71, o228_72, o228_75, o228_76, o228_77, o228_78, o228_80, o228_81, o228_82, o228_83, o228_85, o228_86, o228_89, o228_92, o228_93, o228_96, o228_97, o228_100, o228_101, o228_103, o228_105, o228_106, o228_107, c_X7_rests, mc_pi, mc_pN, mn_pi, mn_pN, mi_pi, mi_pN, mz_pi, mz_pN, mcs_0, mcs_i, mcs_r, Kn_v, mrf_some, true_and, and_true, and_false, not_true_eq_false, not_false_eq_true, false_implies, forall_const, if_true, if_false, and_self, Nat.reduceEqDiff, Nat.reduceLeDiff, Nat.reduceSub, Nat.reduceAdd, Nat.le_refl, Int32.reduceLT, cl0, cl1, cl2, cl3, cl4, cl5, cl6, cl7, cl8, cl9, Nat.reduceLT, kc22, kc29, kc38, kn29, kr22_7, kr29_1, hta, hzt, vpk, Int32.reduceLT, b1, b2, b3, b4, b5, b6, ps, dv_1] at hQ ⊢
    exact hQ _ (show Fr (h) _ from (Fr_pi (Fr_pi (Fr_pi (Fr_pi (Fr_pi (Fr_pi (Fr_pi (Fr_pi (Fr_pi (Fr_pN Fr_rfl) (Nat.le_refl _)) (Nat.le_refl _)) (Nat.le_refl _)) (Nat.le_refl _)) (Nat.le_refl _)) (Nat.le_refl _)) (Nat.le_refl _)) (Nat.le_refl _)) (Nat.le_refl _)))

theorem m_leX1_4 {A : Nat → Nat} {h : MH} {Q : MR → MH → Prop} (R : Rl A h) (hQ : ∀ m, Fr h m → Q (.inl (some (.int (g_i h (A 16) 6)))) m) : Ok 228 0 [.ref (A 22), .int 1, .int 4, mk0, mk0] [] h 1 9 Q := by
  have R0 := R
  obtain ⟨vk, vcn, v0, v1, v2, vp, vl0, vl1, vlr, vsr, vc, tx⟩ := R0
  have vk0 := vk
  have vcn0 := vcn
  (refine K_el vk0 ?_; intros hA kc0 kc1 kc2 kc3 kc4 kc5 kc6 kc7 kc8 kc9 kc10 kc11 kc12 kc13 kc14 kc15 kc16 kc17 kc18 kc19 kc20 kc21 kc22 kc23 kc24 kc25 kc26 kc27 kc28 kc29 kc30 kc31 kc32 kc33 kc34 kc35 kc36 kc37 kc38 kc39 kz kt kn3 kn4 kn18 kn21 kn23 kn24 kn25 kn26 kn27 kn29 kn30 kr0_0 kr0_1 kr0_2 kr0_3 kr0_4 kr0_5 kr0_7 kr0_8 kr0_9 kr0_10 kr1_0 kr2_0 kr5_0 kr5_1 kr6_0 kr6_1 kr7_0 kr7_1 kr8_0 kr9_0 kr10_0 kr11_0 kr12_0 kr13_0 kr14_0 kr15_0 kr16_0 kr17_0 kr19_0 kr19_1 kr22_0 kr22_1 kr22_2 kr22_3 kr22_4 kr22_5 kr22_7 kr22_8 kr25_0 kr25_1 kr25_2 kr26_0 kr26_1 kr26_2 kr29_0 kr29_1)
  (refine Cn_el vcn0 ?_; intros ki5_2 ki6_2 ki7_2 ki8_1 ki8_2 ki8_3 ki9_1 ki9_2 ki9_3 ki10_1 ki10_2 ki10_3 ki11_1 ki11_2 ki11_3 ki12_1 ki12_2 ki12_3 ki13_1 ki13_2 ki13_3 ki14_1 ki14_2 ki14_3 ki28_0 ki28_1 ki31_0 ki31_1 ki32_0 ki32_1 ki33_0 ki33_1 ki34_0 ki34_1 ki35_0 ki35_1 ki36_0 ki36_1)
  have hAe : ∀ i j, i < 40 → j < 40 → (A i = A j ↔ i = j) := hA
  have hta : ∀ i, i < 40 → (A i = g_t h) = False := fun i hi => eq_false (fun z => by have := kt i hi; omega)
  have hta2 : ∀ i, i < 40 → (g_t h = A i) = False := fun i hi => eq_false (fun z => by have := kt i hi; omega)
  have hzt : g_z h ≤ g_t h := Nat.le_trans (kz 0 (by decide)) (Nat.le_of_lt (kt 0 (by decide)))
  have hl2 := vl1
  obtain ⟨⟨b1, b2, b3, b4, b5, b6⟩, ln⟩ := hl2
  replace b1 := b1.symm
  replace b2 := b2.symm
  replace b3 := b3.symm
  replace b4 := b4.symm
  replace b5 := b5.symm
  replace b6 := b6.symm
  by_cases ps : g_i h (A 16) 3 = 0
  all_goals
    simp only [o228_0, o228_1, o228_4, o228_5, o228_6, o228_7, o228_9, o228_11, o228_12, o228_13, o228_14, o228_17, o228_18, o228_19, o228_20, o228_21, o228_24, o228_25, o228_26, o228_27, o228_28, o228_31, o228_32, o228_33, o228_34, o228_35, o228_38, o228_39, o228_40, o228_41, o228_42, o228_45, o228_46, o228_47, o228_48, o228_49, o228_52, o228_55, o228_56, o228_59, o228_60, o228_61, o228_62, o228_64, o228_65, o228_68, o228_71, o228_72, o228_75, o228_76, o228_77, o228_78, o228_80, o228_81, o228_82, o228_83, o228_85, o228_86, o228_89, o228_92, o228_93, o228_96, o228_97, o228_100, o228_101, o228_103, o228_105, o228_106, o228_107, c_X7_rests, mc_pi, mc_pN, mn_pi, mn_pN, mi_pi, mi_pN, mz_pi, mz_pN, mcs_0, mcs_i, mcs_r, Kn_v, mrf_some, true_and, and_true, and_false, not_true_eq_false, not_false_eq_true, false_implies, forall_const, if_true, if_false, and_self, Nat.reduceEqDiff, Nat.reduceLeDiff, Nat.reduceSub, Nat.reduceAdd, Nat.le_refl, Int32.reduceLT, cl0, cl1, cl2, cl3, cl4, cl5, cl6, cl7, cl8, cl9, Nat.reduceLT, kc22, kc29, kc38, kn29, kr22_7, kr29_1, hta, hzt, vpk, Int32.reduceLT, b1, b2, b3, b4, b5, b6, ps, dv_1] at hQ ⊢
    exact hQ _ (show Fr (h) _ from (Fr_pi (Fr_pi (Fr_pi (Fr_pi (Fr_pi (Fr_pi (Fr_pi (Fr_pi (Fr_pi (Fr_pN Fr_rfl) (Nat.le_refl _)) (Nat.le_refl _)) (Nat.le_refl _)) (Nat.le_refl _)) (Nat.le_refl _)) (Nat.le_refl _)) (Nat.le_refl _)) (Nat.le_refl _)) (Nat.le_refl _)))

theorem m_leX1_5 {A : Nat → Nat} {h : MH} {Q : MR → MH → Prop} (R : Rl A h) (hQ : ∀ m, Fr h m → Q (.inl (some (.int (if g_i h (A 16) 3 = 0 then 0 else 1)))) m) : Ok 228 0 [.ref (A 22), .int 1, .int 5, mk0, mk0] [] h 1 9 Q := by
  have R0 := R
  obtain ⟨vk, vcn, v0, v1, v2, vp, vl0, vl1, vlr, vsr, vc, tx⟩ := R0
  have vk0 := vk
  have vcn0 := vcn
  (refine K_el vk0 ?_; intros hA kc0 kc1 kc2 kc3 kc4 kc5 kc6 kc7 kc8 kc9 kc10 kc11 kc12 kc13 kc14 kc15 kc16 kc17 kc18 kc19 kc20 kc21 kc22 kc23 kc24 kc25 kc26 kc27 kc28 kc29 kc30 kc31 kc32 kc33 kc34 kc35 kc36 kc37 kc38 kc39 kz kt kn3 kn4 kn18 kn21 kn23 kn24 kn25 kn26 kn27 kn29 kn30 kr0_0 kr0_1 kr0_2 kr0_3 kr0_4 kr0_5 kr0_7 kr0_8 kr0_9 kr0_10 kr1_0 kr2_0 kr5_0 kr5_1 kr6_0 kr6_1 kr7_0 kr7_1 kr8_0 kr9_0 kr10_0 kr11_0 kr12_0 kr13_0 kr14_0 kr15_0 kr16_0 kr17_0 kr19_0 kr19_1 kr22_0 kr22_1 kr22_2 kr22_3 kr22_4 kr22_5 kr22_7 kr22_8 kr25_0 kr25_1 kr25_2 kr26_0 kr26_1 kr26_2 kr29_0 kr29_1)
  (refine Cn_el vcn0 ?_; intros ki5_2 ki6_2 ki7_2 ki8_1 ki8_2 ki8_3 ki9_1 ki9_2 ki9_3 ki10_1 ki10_2 ki10_3 ki11_1 ki11_2 ki11_3 ki12_1 ki12_2 ki12_3 ki13_1 ki13_2 ki13_3 ki14_1 ki14_2 ki14_3 ki28_0 ki28_1 ki31_0 ki31_1 ki32_0 ki32_1 ki33_0 ki33_1 ki34_0 ki34_1 ki35_0 ki35_1 ki36_0 ki36_1)
  have hAe : ∀ i j, i < 40 → j < 40 → (A i = A j ↔ i = j) := hA
  have hta : ∀ i, i < 40 → (A i = g_t h) = False := fun i hi => eq_false (fun z => by have := kt i hi; omega)
  have hta2 : ∀ i, i < 40 → (g_t h = A i) = False := fun i hi => eq_false (fun z => by have := kt i hi; omega)
  have hzt : g_z h ≤ g_t h := Nat.le_trans (kz 0 (by decide)) (Nat.le_of_lt (kt 0 (by decide)))
  have hl2 := vl1
  obtain ⟨⟨b1, b2, b3, b4, b5, b6⟩, ln⟩ := hl2
  replace b1 := b1.symm
  replace b2 := b2.symm
  replace b3 := b3.symm
  replace b4 := b4.symm
  replace b5 := b5.symm
  replace b6 := b6.symm
  by_cases ps : g_i h (A 16) 3 = 0
  all_goals
    simp only [o228_0, o228_1, o228_4, o228_5, o228_6, o228_7, o228_9, o228_11, o228_12, o228_13, o228_14, o228_17, o228_18, o228_19, o228_20, o228_21, o228_24, o228_25, o228_26, o228_27, o228_28, o228_31, o228_32, o228_33, o228_34, o228_35, o228_38, o228_39, o228_40, o228_41, o228_42, o228_45, o228_46, o228_47, o228_48, o228_49, o228_52, o228_55, o228_56, o228_59, o228_60, o228_61, o228_62, o228_64, o228_65, o228_68, o228_71, o228_72, o228_75, o228_76, o228_77, o228_78, o228_80, o228_81, o228_82, o228_83, o228_85, o228_86, o228_89, o228_92, o228_93, o228_96, o228_97, o228_100, o228_101, o228_103, o228_105, o228_106, o228_107, c_X7_rests, mc_pi, mc_pN, mn_pi, mn_pN, mi_pi, mi_pN, mz_pi, mz_pN, mcs_0, mcs_i, mcs_r, Kn_v, mrf_some, true_and, and_true, and_false, not_true_eq_false, not_false_eq_true, false_implies, forall_const, if_true, if_false, and_self, Nat.reduceEqDiff, Nat.reduceLeDiff, Nat.reduceSub, Nat.reduceAdd, Nat.le_refl, Int32.reduceLT, cl0, cl1, cl2, cl3, cl4, cl5, cl6, cl7, cl8, cl9, Nat.reduceLT, kc22, kc29, kc38, kn29, kr22_7, kr29_1, hta, hzt, vpk, Int32.reduceLT, b1, b2, b3, b4, b5, b6, ps, dv_1] at hQ ⊢
    exact hQ _ (show Fr (h) _ from (Fr_pi (Fr_pi (Fr_pi (Fr_pi (Fr_pi (Fr_pi (Fr_pi (Fr_pi (Fr_pi (Fr_pN Fr_rfl) (Nat.le_refl _)) (Nat.le_refl _)) (Nat.le_refl _)) (Nat.le_refl _)) (Nat.le_refl _)) (Nat.le_refl _)) (Nat.le_refl _)) (Nat.le_refl _)) (Nat.le_refl _)))

theorem m_leX1_6 {A : Nat → Nat} {h : MH} {Q : MR → MH → Prop} (R : Rl A h) (hQ : ∀ m, Fr h m → Q (.inl (some (.int (if g_i h (A 16) 3 = 0 then 1 else 0)))) m) : Ok 228 0 [.ref (A 22), .int 1, .int 6, mk0, mk0] [] h 1 9 Q := by
  have R0 := R
  obtain ⟨vk, vcn, v0, v1, v2, vp, vl0, vl1, vlr, vsr, vc, tx⟩ := R0
  have vk0 := vk
  have vcn0 := vcn
  (refine K_el vk0 ?_; intros hA kc0 kc1 kc2 kc3 kc4 kc5 kc6 kc7 kc8 kc9 kc10 kc11 kc12 kc13 kc14 kc15 kc16 kc17 kc18 kc19 kc20 kc21 kc22 kc23 kc24 kc25 kc26 kc27 kc28 kc29 kc30 kc31 kc32 kc33 kc34 kc35 kc36 kc37 kc38 kc39 kz kt kn3 kn4 kn18 kn21 kn23 kn24 kn25 kn26 kn27 kn29 kn30 kr0_0 kr0_1 kr0_2 kr0_3 kr0_4 kr0_5 kr0_7 kr0_8 kr0_9 kr0_10 kr1_0 kr2_0 kr5_0 kr5_1 kr6_0 kr6_1 kr7_0 kr7_1 kr8_0 kr9_0 kr10_0 kr11_0 kr12_0 kr13_0 kr14_0 kr15_0 kr16_0 kr17_0 kr19_0 kr19_1 kr22_0 kr22_1 kr22_2 kr22_3 kr22_4 kr22_5 kr22_7 kr22_8 kr25_0 kr25_1 kr25_2 kr26_0 kr26_1 kr26_2 kr29_0 kr29_1)
  (refine Cn_el vcn0 ?_; intros ki5_2 ki6_2 ki7_2 ki8_1 ki8_2 ki8_3 ki9_1 ki9_2 ki9_3 ki10_1 ki10_2 ki10_3 ki11_1 ki11_2 ki11_3 ki12_1 ki12_2 ki12_3 ki13_1 ki13_2 ki13_3 ki14_1 ki14_2 ki14_3 ki28_0 ki28_1 ki31_0 ki31_1 ki32_0 ki32_1 ki33_0 ki33_1 ki34_0 ki34_1 ki35_0 ki35_1 ki36_0 ki36_1)
  have hAe : ∀ i j, i < 40 → j < 40 → (A i = A j ↔ i = j) := hA
  have hta : ∀ i, i < 40 → (A i = g_t h) = False := fun i hi => eq_false (fun z => by have := kt i hi; omega)
  have hta2 : ∀ i, i < 40 → (g_t h = A i) = False := fun i hi => eq_false (fun z => by have := kt i hi; omega)
  have hzt : g_z h ≤ g_t h := Nat.le_trans (kz 0 (by decide)) (Nat.le_of_lt (kt 0 (by decide)))
  have hl2 := vl1
  obtain ⟨⟨b1, b2, b3, b4, b5, b6⟩, ln⟩ := hl2
  replace b1 := b1.symm
  replace b2 := b2.symm
  replace b3 := b3.symm
  replace b4 := b4.symm
  replace b5 := b5.symm
  replace b6 := b6.symm
  by_cases ps : g_i h (A 16) 3 = 0
  all_goals
    simp only [o228_0, o228_1, o228_4, o228_5, o228_6, o228_7, o228_9, o228_11, o228_12, o228_13, o228_14, o228_17, o228_18, o228_19, o228_20, o228_21, o228_24, o228_25, o228_26, o228_27, o228_28, o228_31, o228_32, o228_33, o228_34, o228_35, o228_38, o228_39, o228_40, o228_41, o228_42, o228_45, o228_46, o228_47, o228_48, o228_49, o228_52, o228_55, o228_56, o228_59, o228_60, o228_61, o228_62, o228_64, o228_65, o228_68, o228_71, o228_72, o228_75, o228_76, o228_77, o228_78, o228_80, o228_81, o228_82, o228_83, o228_85, o228_86, o228_89, o228_92, o228_93, o228_96, o228_97, o228_100, o228_101, o228_103, o228_105, o228_106, o228_107, c_X7_rests, mc_pi, mc_pN, mn_pi, mn_pN, mi_pi, mi_pN, mz_pi, mz_pN, mcs_0, mcs_i, mcs_r, Kn_v, mrf_some, true_and, and_true, and_false, not_true_eq_false, not_false_eq_true, false_implies, forall_const, if_true, if_false, and_self, Nat.reduceEqDiff, Nat.reduceLeDiff, Nat.reduceSub, Nat.reduceAdd, Nat.le_refl, Int32.reduceLT, cl0, cl1, cl2, cl3, cl4, cl5, cl6, cl7, cl8, cl9, Nat.reduceLT, kc22, kc29, kc38, kn29, kr22_7, kr29_1, hta, hzt, vpk, Int32.reduceLT, b1, b2, b3, b4, b5, b6, ps, dv_1] at hQ ⊢
    exact hQ _ (show Fr (h) _ from (Fr_pi (Fr_pi (Fr_pi (Fr_pi (Fr_pi (Fr_pi (Fr_pi (Fr_pi (Fr_pi (Fr_pN Fr_rfl) (Nat.le_refl _)) (Nat.le_refl _)) (Nat.le_refl _)) (Nat.le_refl _)) (Nat.le_refl _)) (Nat.le_refl _)) (Nat.le_refl _)) (Nat.le_refl _)) (Nat.le_refl _)))

theorem m_leX1_7 {A : Nat → Nat} {h : MH} {Q : MR → MH → Prop} (R : Rl A h) (hQ : ∀ m, Fr h m → Q (.inl (some (.int (0)))) m) : Ok 228 0 [.ref (A 22), .int 1, .int 7, mk0, mk0] [] h 1 9 Q := by
  have R0 := R
  obtain ⟨vk, vcn, v0, v1, v2, vp, vl0, vl1, vlr, vsr, vc, tx⟩ := R0
  have vk0 := vk
  have vcn0 := vcn
  (refine K_el vk0 ?_; intros hA kc0 kc1 kc2 kc3 kc4 kc5 kc6 kc7 kc8 kc9 kc10 kc11 kc12 kc13 kc14 kc15 kc16 kc17 kc18 kc19 kc20 kc21 kc22 kc23 kc24 kc25 kc26 kc27 kc28 kc29 kc30 kc31 kc32 kc33 kc34 kc35 kc36 kc37 kc38 kc39 kz kt kn3 kn4 kn18 kn21 kn23 kn24 kn25 kn26 kn27 kn29 kn30 kr0_0 kr0_1 kr0_2 kr0_3 kr0_4 kr0_5 kr0_7 kr0_8 kr0_9 kr0_10 kr1_0 kr2_0 kr5_0 kr5_1 kr6_0 kr6_1 kr7_0 kr7_1 kr8_0 kr9_0 kr10_0 kr11_0 kr12_0 kr13_0 kr14_0 kr15_0 kr16_0 kr17_0 kr19_0 kr19_1 kr22_0 kr22_1 kr22_2 kr22_3 kr22_4 kr22_5 kr22_7 kr22_8 kr25_0 kr25_1 kr25_2 kr26_0 kr26_1 kr26_2 kr29_0 kr29_1)
  (refine Cn_el vcn0 ?_; intros ki5_2 ki6_2 ki7_2 ki8_1 ki8_2 ki8_3 ki9_1 ki9_2 ki9_3 ki10_1 ki10_2 ki10_3 ki11_1 ki11_2 ki11_3 ki12_1 ki12_2 ki12_3 ki13_1 ki13_2 ki13_3 ki14_1 ki14_2 ki14_3 ki28_0 ki28_1 ki31_0 ki31_1 ki32_0 ki32_1 ki33_0 ki33_1 ki34_0 ki34_1 ki35_0 ki35_1 ki36_0 ki36_1)
  have hAe : ∀ i j, i < 40 → j < 40 → (A i = A j ↔ i = j) := hA
  have hta : ∀ i, i < 40 → (A i = g_t h) = False := fun i hi => eq_false (fun z => by have := kt i hi; omega)
  have hta2 : ∀ i, i < 40 → (g_t h = A i) = False := fun i hi => eq_false (fun z => by have := kt i hi; omega)
  have hzt : g_z h ≤ g_t h := Nat.le_trans (kz 0 (by decide)) (Nat.le_of_lt (kt 0 (by decide)))
  have hl2 := vl1
  obtain ⟨⟨b1, b2, b3, b4, b5, b6⟩, ln⟩ := hl2
  replace b1 := b1.symm
  replace b2 := b2.symm
  replace b3 := b3.symm
  replace b4 := b4.symm
  replace b5 := b5.symm
  replace b6 := b6.symm
  by_cases ps : g_i h (A 16) 3 = 0
  all_goals
    simp only [o228_0, o228_1, o228_4, o228_5, o228_6, o228_7, o228_9, o228_11, o228_12, o228_13, o228_14, o228_17, o228_18, o228_19, o228_20, o228_21, o228_24, o228_25, o228_26, o228_27, o228_28, o228_31, o228_32, o228_33, o228_34, o228_35, o228_38, o228_39, o228_40, o228_41, o228_42, o228_45, o228_46, o228_47, o228_48, o228_49, o228_52, o228_55, o228_56, o228_59, o228_60, o228_61, o228_62, o228_64, o228_65, o228_68, o228_71, o228_72, o228_75, o228_76, o228_77, o228_78, o228_80, o228_81, o228_82, o228_83, o228_85, o228_86, o228_89, o228_92, o228_93, o228_96, o228_97, o228_100, o228_101, o228_103, o228_105, o228_106, o228_107, c_X7_rests, mc_pi, mc_pN, mn_pi, mn_pN, mi_pi, mi_pN, mz_pi, mz_pN, mcs_0, mcs_i, mcs_r, Kn_v, mrf_some, true_and, and_true, and_false, not_true_eq_false, not_false_eq_true, false_implies, forall_const, if_true, if_false, and_self, Nat.reduceEqDiff, Nat.reduceLeDiff, Nat.reduceSub, Nat.reduceAdd, Nat.le_refl, Int32.reduceLT, cl0, cl1, cl2, cl3, cl4, cl5, cl6, cl7, cl8, cl9, Nat.reduceLT, kc22, kc29, kc38, kn29, kr22_7, kr29_1, hta, hzt, vpk, Int32.reduceLT, b1, b2, b3, b4, b5, b6, ps, dv_1] at hQ ⊢
    exact hQ _ (show Fr (h) _ from (Fr_pi (Fr_pi (Fr_pi (Fr_pi (Fr_pi (Fr_pi (Fr_pi (Fr_pi (Fr_pi (Fr_pN Fr_rfl) (Nat.le_refl _)) (Nat.le_refl _)) (Nat.le_refl _)) (Nat.le_refl _)) (Nat.le_refl _)) (Nat.le_refl _)) (Nat.le_refl _)) (Nat.le_refl _)) (Nat.le_refl _)))

theorem m_leX1_8 {A : Nat → Nat} {h : MH} {Q : MR → MH → Prop} (R : Rl A h) (hQ : ∀ m, Fr h m → Q (.inl (some (.int (if g_i h (A 16) 3 = 0 then g_i h (A 16) 1 else -1)))) m) : Ok 228 0 [.ref (A 22), .int 1, .int 8, mk0, mk0] [] h 1 9 Q := by
  have R0 := R
  obtain ⟨vk, vcn, v0, v1, v2, vp, vl0, vl1, vlr, vsr, vc, tx⟩ := R0
  have vk0 := vk
  have vcn0 := vcn
  (refine K_el vk0 ?_; intros hA kc0 kc1 kc2 kc3 kc4 kc5 kc6 kc7 kc8 kc9 kc10 kc11 kc12 kc13 kc14 kc15 kc16 kc17 kc18 kc19 kc20 kc21 kc22 kc23 kc24 kc25 kc26 kc27 kc28 kc29 kc30 kc31 kc32 kc33 kc34 kc35 kc36 kc37 kc38 kc39 kz kt kn3 kn4 kn18 kn21 kn23 kn24 kn25 kn26 kn27 kn29 kn30 kr0_0 kr0_1 kr0_2 kr0_3 kr0_4 kr0_5 kr0_7 kr0_8 kr0_9 kr0_10 kr1_0 kr2_0 kr5_0 kr5_1 kr6_0 kr6_1 kr7_0 kr7_1 kr8_0 kr9_0 kr10_0 kr11_0 kr12_0 kr13_0 kr14_0 kr15_0 kr16_0 kr17_0 kr19_0 kr19_1 kr22_0 kr22_1 kr22_2 kr22_3 kr22_4 kr22_5 kr22_7 kr22_8 kr25_0 kr25_1 kr25_2 kr26_0 kr26_1 kr26_2 kr29_0 kr29_1)
  (refine Cn_el vcn0 ?_; intros ki5_2 ki6_2 ki7_2 ki8_1 ki8_2 ki8_3 ki9_1 ki9_2 ki9_3 ki10_1 ki10_2 ki10_3 ki11_1 ki11_2 ki11_3 ki12_1 ki12_2 ki12_3 ki13_1 ki13_2 ki13_3 ki14_1 ki14_2 ki14_3 ki28_0 ki28_1 ki31_0 ki31_1 ki32_0 ki32_1 ki33_0 ki33_1 ki34_0 ki34_1 ki35_0 ki35_1 ki36_0 ki36_1)
  have hAe : ∀ i j, i < 40 → j < 40 → (A i = A j ↔ i = j) := hA
  have hta : ∀ i, i < 40 → (A i = g_t h) = False := fun i hi => eq_false (fun z => by have := kt i hi; omega)
  have hta2 : ∀ i, i < 40 → (g_t h = A i) = False := fun i hi => eq_false (fun z => by have := kt i hi; omega)
  have hzt : g_z h ≤ g_t h := Nat.le_trans (kz 0 (by decide)) (Nat.le_of_lt (kt 0 (by decide)))
  have hl2 := vl1
  obtain ⟨⟨b1, b2, b3, b4, b5, b6⟩, ln⟩ := hl2
  replace b1 := b1.symm
  replace b2 := b2.symm
  replace b3 := b3.symm
  replace b4 := b4.symm
  replace b5 := b5.symm
  replace b6 := b6.symm
  by_cases ps : g_i h (A 16) 3 = 0
  all_goals
    simp only [o228_0, o228_1, o228_4, o228_5, o228_6, o228_7, o228_9, o228_11, o228_12, o228_13, o228_14, o228_17, o228_18, o228_19, o228_20, o228_21, o228_24, o228_25, o228_26, o228_27, o228_28, o228_31, o228_32, o228_33, o228_34, o228_35, o228_38, o228_39, o228_40, o228_41, o228_42, o228_45, o228_46, o228_47, o228_48, o228_49, o228_52, o228_55, o228_56, o228_59, o228_60, o228_61, o228_62, o228_64, o228_65, o228_68, o228_71, o228_72, o228_75, o228_76, o228_77, o228_78, o228_80, o228_81, o228_82, o228_83, o228_85, o228_86, o228_89, o228_92, o228_93, o228_96, o228_97, o228_100, o228_101, o228_103, o228_105, o228_106, o228_107, c_X7_rests, mc_pi, mc_pN, mn_pi, mn_pN, mi_pi, mi_pN, mz_pi, mz_pN, mcs_0, mcs_i, mcs_r, Kn_v, mrf_some, true_and, and_true, and_false, not_true_eq_false, not_false_eq_true, false_implies, forall_const, if_true, if_false, and_self, Nat.reduceEqDiff, Nat.reduceLeDiff, Nat.reduceSub, Nat.reduceAdd, Nat.le_refl, Int32.reduceLT, cl0, cl1, cl2, cl3, cl4, cl5, cl6, cl7, cl8, cl9, Nat.reduceLT, kc22, kc29, kc38, kn29, kr22_7, kr29_1, hta, hzt, vpk, Int32.reduceLT, b1, b2, b3, b4, b5, b6, ps, dv_1] at hQ ⊢
    exact hQ _ (show Fr (h) _ from (Fr_pi (Fr_pi (Fr_pi (Fr_pi (Fr_pi (Fr_pi (Fr_pi (Fr_pi (Fr_pi (Fr_pN Fr_rfl) (Nat.le_refl _)) (Nat.le_refl _)) (Nat.le_refl _)) (Nat.le_refl _)) (Nat.le_refl _)) (Nat.le_refl _)) (Nat.le_refl _)) (Nat.le_refl _)) (Nat.le_refl _)))


section
set_option maxRecDepth 16384
def dL (A : Nat → Nat) (h : MH) (d : Int64) : Nat → Int64
  | 0 => d
  | n + 1 => dg1 (dg1 (dL A h d n) (g_l h (A 3) n >>> ((32 : Int32).toInt64 &&& 63)).toInt32) (g_l h (A 3) n).toInt32
theorem wl_loop {A : Nat → Nat} {h : MH} {d : Int64} {v0 : Value} {Q : MR → MH → Prop} (R : Rl A h) : ∀ (k s : Nat) (a6 : Value), s + k = 16 → (Ok 146 5 [.ref (A 0), v0, mk0, .long (dL A h d s), mk0, .int (Int32.ofNat s), a6, mk0] [] h 0 0 Q ↔ Q (.inl (some (.long (dL A h d 16)))) h)
  | 0, s, a6, hs => by
    have : s = 16 := by omega
    subst this
    have c1 : (Int32.ofNat 16 < (16 : Int32)) = False := by decide
    rw [o146_5]
    simp only [o146_7, o146_9, o146_12, o146_13, o146_16, o146_49, o146_50, and_true, not_true_eq_false, not_false_eq_true, false_implies, forall_const, lt_le, c1]
  | k + 1, s, a6, hs => by
    have ih := wl_loop (d := d) (v0 := v0) (Q := Q) R k (s + 1)
    have R0 := R
    obtain ⟨vk, vcn, v0, v1, v2, vp, vl0, vl1, vlr, vsr, vc, tx⟩ := R0
    have vk0 := vk
    have vcn0 := vcn
    (refine K_el vk0 ?_; intros hA kc0 kc1 kc2 kc3 kc4 kc5 kc6 kc7 kc8 kc9 kc10 kc11 kc12 kc13 kc14 kc15 kc16 kc17 kc18 kc19 kc20 kc21 kc22 kc23 kc24 kc25 kc26 kc27 kc28 kc29 kc30 kc31 kc32 kc33 kc34 kc35 kc36 kc37 kc38 kc39 kz kt kn3 kn4 kn18 kn21 kn23 kn24 kn25 kn26 kn27 kn29 kn30 kr0_0 kr0_1 kr0_2 kr0_3 kr0_4 kr0_5 kr0_7 kr0_8 kr0_9 kr0_10 kr1_0 kr2_0 kr5_0 kr5_1 kr6_0 kr6_1 kr7_0 kr7_1 kr8_0 kr9_0 kr10_0 kr11_0 kr12_0 kr13_0 kr14_0 kr15_0 kr16_0 kr17_0 kr19_0 kr19_1 kr22_0 kr22_1 kr22_2 kr22_3 kr22_4 kr22_5 kr22_7 kr22_8 kr25_0 kr25_1 kr25_2 kr26_0 kr26_1 kr26_2 kr29_0 kr29_1)
    (refine Cn_el vcn0 ?_; intros ki5_2 ki6_2 ki7_2 ki8_1 ki8_2 ki8_3 ki9_1 ki9_2 ki9_3 ki10_1 ki10_2 ki10_3 ki11_1 ki11_2 ki11_3 ki12_1 ki12_2 ki12_3 ki13_1 ki13_2 ki13_3 ki14_1 ki14_2 ki14_3 ki28_0 ki28_1 ki31_0 ki31_1 ki32_0 ki32_1 ki33_0 ki33_1 ki34_0 ki34_1 ki35_0 ki35_1 ki36_0 ki36_1)
    have hAe : ∀ i j, i < 40 → j < 40 → (A i = A j ↔ i = j) := hA
    have c1 : (Int32.ofNat s < (16 : Int32)) = True := by
      rw [show (16 : Int32) = Int32.ofNat 16 by decide, n_lt (by omega) (by omega)]
      exact eq_true (by omega)
    have c6 : Int32.ofNat s + 1 = Int32.ofNat (s + 1) := n_add s 1
    have c2 : rdy 16 (Int32.ofNat s) := n_rdy (by omega) (by omega)
    have c3 : (Int32.ofNat s).toNatClampNeg = s := n_cl (by omega)
    rw [← ih (.long (g_l h (A 3) s)) (by omega), o146_5]
    simp only [o146_7, o146_9, o146_12, o146_13, o146_16, o146_18, o146_21, o146_23, o146_24, o146_26, o146_29, o146_30, o146_33, o146_35, o146_38, o146_39, o146_42, o146_43, o146_46, c_X2_read (cs := A 3) (n := 16), c_X5_upperOf, c_X5_lowerOf, o143_0, o143_1, o143_4, o143_5, o143_6, o143_7, mcs_0, mcs_l, Kn_v, mrf_some, true_and, not_true_eq_false, not_false_eq_true, false_implies, forall_const, Nat.reduceLeDiff, Nat.reduceAdd, Nat.zero_le, lt_le, kc0, kc1, kc3, kn3, kr0_0, kr1_0, c1, c2, c3, c6]
    all_goals exact Iff.rfl
theorem c_wL {A : Nat → Nat} {h : MH} {d : Int64} {Q : MR → MH → Prop} (R : Rl A h) : Ok 146 0 [.ref (A 0), .long d, mk0, mk0, mk0, mk0, mk0, mk0] [] h 0 0 Q ↔ Q (.inl (some (.long (dL A h d 16)))) h := by
  have lp := wl_loop (d := d) (v0 := .long d) (Q := Q) R 16 0 mk0 rfl
  simp only [o146_0, o146_1, o146_2, o146_3]
  exact lp

theorem c_piX0 {A : Nat → Nat} {h : MH} {Q : MR → MH → Prop} (R : Rl A h) : Ok 89 0 [.ref (A 0), .int 0] [] h 1 6 Q ↔ Q (.inl (some (.int (g_i h (A 14) 4)))) h := by
  have R0 := R
  obtain ⟨vk, vcn, v0, v1, v2, vp, vl0, vl1, vlr, vsr, vc, tx⟩ := R0
  have vk0 := vk
  have vcn0 := vcn
  (refine K_el vk0 ?_; intros hA kc0 kc1 kc2 kc3 kc4 kc5 kc6 kc7 kc8 kc9 kc10 kc11 kc12 kc13 kc14 kc15 kc16 kc17 kc18 kc19 kc20 kc21 kc22 kc23 kc24 kc25 kc26 kc27 kc28 kc29 kc30 kc31 kc32 kc33 kc34 kc35 kc36 kc37 kc38 kc39 kz kt kn3 kn4 kn18 kn21 kn23 kn24 kn25 kn26 kn27 kn29 kn30 kr0_0 kr0_1 kr0_2 kr0_3 kr0_4 kr0_5 kr0_7 kr0_8 kr0_9 kr0_10 kr1_0 kr2_0 kr5_0 kr5_1 kr6_0 kr6_1 kr7_0 kr7_1 kr8_0 kr9_0 kr10_0 kr11_0 kr12_0 kr13_0 kr14_0 kr15_0 kr16_0 kr17_0 kr19_0 kr19_1 kr22_0 kr22_1 kr22_2 kr22_3 kr22_4 kr22_5 kr22_7 kr22_8 kr25_0 kr25_1 kr25_2 kr26_0 kr26_1 kr26_2 kr29_0 kr29_1)
  (refine Cn_el vcn0 ?_; intros ki5_2 ki6_2 ki7_2 ki8_1 ki8_2 ki8_3 ki9_1 ki9_2 ki9_3 ki10_1 ki10_2 ki10_3 ki11_1 ki11_2 ki11_3 ki12_1 ki12_2 ki12_3 ki13_1 ki13_2 ki13_3 ki14_1 ki14_2 ki14_3 ki28_0 ki28_1 ki31_0 ki31_1 ki32_0 ki32_1 ki33_0 ki33_1 ki34_0 ki34_1 ki35_0 ki35_1 ki36_0 ki36_1)
  have hAe : ∀ i j, i < 40 → j < 40 → (A i = A j ↔ i = j) := hA
  by_cases pd : g_i h (A 0) 6 = 0
  all_goals simp only [o89_0, o89_1, o89_3, o89_6, o89_7, o89_48, o89_49, o89_52, o89_55, o89_56, o89_57, o89_60, o89_63, o89_64, o89_65, o89_68, o89_71, o89_72, o89_73, o89_76, o89_79, o89_80, o89_81, o89_84, o89_87, o89_88, o89_89, o89_92, o89_95, o89_96, o89_99, o89_100, o89_101, o89_102, o89_105, o89_108, o89_109, o89_110, o89_113, o89_114, o89_117, o89_118, o132_0, o132_1, o132_4, o132_7, o132_8, o132_11, o132_14, o132_17, o132_18, o132_21, o132_24, o131_0, o131_1, o131_4, o131_7, o131_8, o131_11, o131_14, o131_17, o131_18, c_X3_rests, c_X5_checkChoice, mcs_0, mcs_i, Kn_v, Kn_0, Kn_x, mrf_some, true_and, and_true, not_true_eq_false, not_false_eq_true, false_implies, forall_const, and_self, Nat.reduceLeDiff, Nat.reduceSub, Nat.reduceAdd, Nat.zero_le, Nat.le_refl, i01, Int32.reduceLT, kc0, kc14, kr0_5, ki14_1, ki14_2, lne, lti, Int.reduceLT, or_self, Int32.reduceLT, pd, lsz]

theorem c_piX1 {A : Nat → Nat} {h : MH} {Q : MR → MH → Prop} (R : Rl A h) : Ok 89 0 [.ref (A 0), .int 1] [] h 1 6 Q ↔ Q (.inl (some (.int (g_i h (A 14) 5)))) h := by
  have R0 := R
  obtain ⟨vk, vcn, v0, v1, v2, vp, vl0, vl1, vlr, vsr, vc, tx⟩ := R0
  have vk0 := vk
  have vcn0 := vcn
  (refine K_el vk0 ?_; intros hA kc0 kc1 kc2 kc3 kc4 kc5 kc6 kc7 kc8 kc9 kc10 kc11 kc12 kc13 kc14 kc15 kc16 kc17 kc18 kc19 kc20 kc21 kc22 kc23 kc24 kc25 kc26 kc27 kc28 kc29 kc30 kc31 kc32 kc33 kc34 kc35 kc36 kc37 kc38 kc39 kz kt kn3 kn4 kn18 kn21 kn23 kn24 kn25 kn26 kn27 kn29 kn30 kr0_0 kr0_1 kr0_2 kr0_3 kr0_4 kr0_5 kr0_7 kr0_8 kr0_9 kr0_10 kr1_0 kr2_0 kr5_0 kr5_1 kr6_0 kr6_1 kr7_0 kr7_1 kr8_0 kr9_0 kr10_0 kr11_0 kr12_0 kr13_0 kr14_0 kr15_0 kr16_0 kr17_0 kr19_0 kr19_1 kr22_0 kr22_1 kr22_2 kr22_3 kr22_4 kr22_5 kr22_7 kr22_8 kr25_0 kr25_1 kr25_2 kr26_0 kr26_1 kr26_2 kr29_0 kr29_1)
  (refine Cn_el vcn0 ?_; intros ki5_2 ki6_2 ki7_2 ki8_1 ki8_2 ki8_3 ki9_1 ki9_2 ki9_3 ki10_1 ki10_2 ki10_3 ki11_1 ki11_2 ki11_3 ki12_1 ki12_2 ki12_3 ki13_1 ki13_2 ki13_3 ki14_1 ki14_2 ki14_3 ki28_0 ki28_1 ki31_0 ki31_1 ki32_0 ki32_1 ki33_0 ki33_1 ki34_0 ki34_1 ki35_0 ki35_1 ki36_0 ki36_1)
  have hAe : ∀ i j, i < 40 → j < 40 → (A i = A j ↔ i = j) := hA
  by_cases pd : g_i h (A 0) 6 = 0
  all_goals simp only [o89_0, o89_1, o89_3, o89_6, o89_7, o89_48, o89_49, o89_52, o89_55, o89_56, o89_57, o89_60, o89_63, o89_64, o89_65, o89_68, o89_71, o89_72, o89_73, o89_76, o89_79, o89_80, o89_81, o89_84, o89_87, o89_88, o89_89, o89_92, o89_95, o89_96, o89_99, o89_100, o89_101, o89_102, o89_105, o89_108, o89_109, o89_110, o89_113, o89_114, o89_117, o89_118, o132_0, o132_1, o132_4, o132_7, o132_8, o132_11, o132_14, o132_17, o132_18, o132_21, o132_24, o131_0, o131_1, o131_4, o131_7, o131_8, o131_11, o131_14, o131_17, o131_18, c_X3_rests, c_X5_checkChoice, mcs_0, mcs_i, Kn_v, Kn_0, Kn_x, mrf_some, true_and, and_true, not_true_eq_false, not_false_eq_true, false_implies, forall_const, and_self, Nat.reduceLeDiff, Nat.reduceSub, Nat.reduceAdd, Nat.zero_le, Nat.le_refl, i10, Int32.reduceLT, kc0, kc14, kr0_5, ki14_1, ki14_2, lne, lti, Int.reduceLT, or_self, Int32.reduceLT, pd, lsz]

theorem c_piX2 {A : Nat → Nat} {h : MH} {Q : MR → MH → Prop} (R : Rl A h) : Ok 89 0 [.ref (A 0), .int 2] [] h 1 6 Q ↔ Q (.inl (some (.int (g_i h (A 14) 5 - g_i h (A 14) 4)))) h := by
  have R0 := R
  obtain ⟨vk, vcn, v0, v1, v2, vp, vl0, vl1, vlr, vsr, vc, tx⟩ := R0
  have vk0 := vk
  have vcn0 := vcn
  (refine K_el vk0 ?_; intros hA kc0 kc1 kc2 kc3 kc4 kc5 kc6 kc7 kc8 kc9 kc10 kc11 kc12 kc13 kc14 kc15 kc16 kc17 kc18 kc19 kc20 kc21 kc22 kc23 kc24 kc25 kc26 kc27 kc28 kc29 kc30 kc31 kc32 kc33 kc34 kc35 kc36 kc37 kc38 kc39 kz kt kn3 kn4 kn18 kn21 kn23 kn24 kn25 kn26 kn27 kn29 kn30 kr0_0 kr0_1 kr0_2 kr0_3 kr0_4 kr0_5 kr0_7 kr0_8 kr0_9 kr0_10 kr1_0 kr2_0 kr5_0 kr5_1 kr6_0 kr6_1 kr7_0 kr7_1 kr8_0 kr9_0 kr10_0 kr11_0 kr12_0 kr13_0 kr14_0 kr15_0 kr16_0 kr17_0 kr19_0 kr19_1 kr22_0 kr22_1 kr22_2 kr22_3 kr22_4 kr22_5 kr22_7 kr22_8 kr25_0 kr25_1 kr25_2 kr26_0 kr26_1 kr26_2 kr29_0 kr29_1)
  (refine Cn_el vcn0 ?_; intros ki5_2 ki6_2 ki7_2 ki8_1 ki8_2 ki8_3 ki9_1 ki9_2 ki9_3 ki10_1 ki10_2 ki10_3 ki11_1 ki11_2 ki11_3 ki12_1 ki12_2 ki12_3 ki13_1 ki13_2 ki13_3 ki14_1 ki14_2 ki14_3 ki28_0 ki28_1 ki31_0 ki31_1 ki32_0 ki32_1 ki33_0 ki33_1 ki34_0 ki34_1 ki35_0 ki35_1 ki36_0 ki36_1)
  have hAe : ∀ i j, i < 40 → j < 40 → (A i = A j ↔ i = j) := hA
  by_cases pd : g_i h (A 0) 6 = 0
  all_goals simp only [o89_0, o89_1, o89_3, o89_6, o89_7, o89_48, o89_49, o89_52, o89_55, o89_56, o89_57, o89_60, o89_63, o89_64, o89_65, o89_68, o89_71, o89_72, o89_73, o89_76, o89_79, o89_80, o89_81, o89_84, o89_87, o89_88, o89_89, o89_92, o89_95, o89_96, o89_99, o89_100, o89_101, o89_102, o89_105, o89_108, o89_109, o89_110, o89_113, o89_114, o89_117, o89_118, o132_0, o132_1, o132_4, o132_7, o132_8, o132_11, o132_14, o132_17, o132_18, o132_21, o132_24, o131_0, o131_1, o131_4, o131_7, o131_8, o131_11, o131_14, o131_17, o131_18, c_X3_rests, c_X5_checkChoice, mcs_0, mcs_i, Kn_v, Kn_0, Kn_x, mrf_some, true_and, and_true, not_true_eq_false, not_false_eq_true, false_implies, forall_const, and_self, Nat.reduceLeDiff, Nat.reduceSub, Nat.reduceAdd, Nat.zero_le, Nat.le_refl, Int32.reduceLT, i20, kc0, kc14, kr0_5, ki14_1, ki14_2, lne, lti, Int.reduceLT, or_self, Int32.reduceLT, pd, lsz]

theorem c_piX3 {A : Nat → Nat} {h : MH} {Q : MR → MH → Prop} (R : Rl A h) : Ok 89 0 [.ref (A 0), .int 3] [] h 1 6 Q ↔ Q (.inl (some (.int (10)))) h := by
  have R0 := R
  obtain ⟨vk, vcn, v0, v1, v2, vp, vl0, vl1, vlr, vsr, vc, tx⟩ := R0
  have vk0 := vk
  have vcn0 := vcn
  (refine K_el vk0 ?_; intros hA kc0 kc1 kc2 kc3 kc4 kc5 kc6 kc7 kc8 kc9 kc10 kc11 kc12 kc13 kc14 kc15 kc16 kc17 kc18 kc19 kc20 kc21 kc22 kc23 kc24 kc25 kc26 kc27 kc28 kc29 kc30 kc31 kc32 kc33 kc34 kc35 kc36 kc37 kc38 kc39 kz kt kn3 kn4 kn18 kn21 kn23 kn24 kn25 kn26 kn27 kn29 kn30 kr0_0 kr0_1 kr0_2 kr0_3 kr0_4 kr0_5 kr0_7 kr0_8 kr0_9 kr0_10 kr1_0 kr2_0 kr5_0 kr5_1 kr6_0 kr6_1 kr7_0 kr7_1 kr8_0 kr9_0 kr10_0 kr11_0 kr12_0 kr13_0 kr14_0 kr15_0 kr16_0 kr17_0 kr19_0 kr19_1 kr22_0 kr22_1 kr22_2 kr22_3 kr22_4 kr22_5 kr22_7 kr22_8 kr25_0 kr25_1 kr25_2 kr26_0 kr26_1 kr26_2 kr29_0 kr29_1)
  (refine Cn_el vcn0 ?_; intros ki5_2 ki6_2 ki7_2 ki8_1 ki8_2 ki8_3 ki9_1 ki9_2 ki9_3 ki10_1 ki10_2 ki10_3 ki11_1 ki11_2 ki11_3 ki12_1 ki12_2 ki12_3 ki13_1 ki13_2 ki13_3 ki14_1 ki14_2 ki14_3 ki28_0 ki28_1 ki31_0 ki31_1 ki32_0 ki32_1 ki33_0 ki33_1 ki34_0 ki34_1 ki35_0 ki35_1 ki36_0 ki36_1)
  have hAe : ∀ i j, i < 40 → j < 40 → (A i = A j ↔ i = j) := hA
  by_cases pd : g_i h (A 0) 6 = 0
  all_goals simp only [o89_0, o89_1, o89_3, o89_6, o89_7, o89_48, o89_49, o89_52, o89_55, o89_56, o89_57, o89_60, o89_63, o89_64, o89_65, o89_68, o89_71, o89_72, o89_73, o89_76, o89_79, o89_80, o89_81, o89_84, o89_87, o89_88, o89_89, o89_92, o89_95, o89_96, o89_99, o89_100, o89_101, o89_102, o89_105, o89_108, o89_109, o89_110, o89_113, o89_114, o89_117, o89_118, o132_0, o132_1, o132_4, o132_7, o132_8, o132_11, o132_14, o132_17, o132_18, o132_21, o132_24, o131_0, o131_1, o131_4, o131_7, o131_8, o131_11, o131_14, o131_17, o131_18, c_X3_rests, c_X5_checkChoice, mcs_0, mcs_i, Kn_v, Kn_0, Kn_x, mrf_some, true_and, and_true, not_true_eq_false, not_false_eq_true, false_implies, forall_const, and_self, Nat.reduceLeDiff, Nat.reduceSub, Nat.reduceAdd, Nat.zero_le, Nat.le_refl, Int32.reduceLT, i30, kc0, kc14, kr0_5, ki14_1, ki14_2, lne, lti, Int.reduceLT, or_self, Int32.reduceLT, pd, lsz]

theorem c_piX4 {A : Nat → Nat} {h : MH} {Q : MR → MH → Prop} (R : Rl A h) : Ok 89 0 [.ref (A 0), .int 4] [] h 1 6 Q ↔ Q (.inl (some (.int (g_i h (A 14) 6)))) h := by
  have R0 := R
  obtain ⟨vk, vcn, v0, v1, v2, vp, vl0, vl1, vlr, vsr, vc, tx⟩ := R0
  have vk0 := vk
  have vcn0 := vcn
  (refine K_el vk0 ?_; intros hA kc0 kc1 kc2 kc3 kc4 kc5 kc6 kc7 kc8 kc9 kc10 kc11 kc12 kc13 kc14 kc15 kc16 kc17 kc18 kc19 kc20 kc21 kc22 kc23 kc24 kc25 kc26 kc27 kc28 kc29 kc30 kc31 kc32 kc33 kc34 kc35 kc36 kc37 kc38 kc39 kz kt kn3 kn4 kn18 kn21 kn23 kn24 kn25 kn26 kn27 kn29 kn30 kr0_0 kr0_1 kr0_2 kr0_3 kr0_4 kr0_5 kr0_7 kr0_8 kr0_9 kr0_10 kr1_0 kr2_0 kr5_0 kr5_1 kr6_0 kr6_1 kr7_0 kr7_1 kr8_0 kr9_0 kr10_0 kr11_0 kr12_0 kr13_0 kr14_0 kr15_0 kr16_0 kr17_0 kr19_0 kr19_1 kr22_0 kr22_1 kr22_2 kr22_3 kr22_4 kr22_5 kr22_7 kr22_8 kr25_0 kr25_1 kr25_2 kr26_0 kr26_1 kr26_2 kr29_0 kr29_1)
  (refine Cn_el vcn0 ?_; intros ki5_2 ki6_2 ki7_2 ki8_1 ki8_2 ki8_3 ki9_1 ki9_2 ki9_3 ki10_1 ki10_2 ki10_3 ki11_1 ki11_2 ki11_3 ki12_1 ki12_2 ki12_3 ki13_1 ki13_2 ki13_3 ki14_1 ki14_2 ki14_3 ki28_0 ki28_1 ki31_0 ki31_1 ki32_0 ki32_1 ki33_0 ki33_1 ki34_0 ki34_1 ki35_0 ki35_1 ki36_0 ki36_1)
  have hAe : ∀ i j, i < 40 → j < 40 → (A i = A j ↔ i = j) := hA
  by_cases pd : g_i h (A 0) 6 = 0
  all_goals simp only [o89_0, o89_1, o89_3, o89_6, o89_7, o89_48, o89_49, o89_52, o89_55, o89_56, o89_57, o89_60, o89_63, o89_64, o89_65, o89_68, o89_71, o89_72, o89_73, o89_76, o89_79, o89_80, o89_81, o89_84, o89_87, o89_88, o89_89, o89_92, o89_95, o89_96, o89_99, o89_100, o89_101, o89_102, o89_105, o89_108, o89_109, o89_110, o89_113, o89_114, o89_117, o89_118, o132_0, o132_1, o132_4, o132_7, o132_8, o132_11, o132_14, o132_17, o132_18, o132_21, o132_24, o131_0, o131_1, o131_4, o131_7, o131_8, o131_11, o131_14, o131_17, o131_18, c_X3_rests, c_X5_checkChoice, mcs_0, mcs_i, Kn_v, Kn_0, Kn_x, mrf_some, true_and, and_true, not_true_eq_false, not_false_eq_true, false_implies, forall_const, and_self, Nat.reduceLeDiff, Nat.reduceSub, Nat.reduceAdd, Nat.zero_le, Nat.le_refl, Int32.reduceLT, kc0, kc14, kr0_5, ki14_1, ki14_2, lne, lti, Int.reduceLT, or_self, Int32.reduceLT, pd, lsz]

theorem c_piX5 {A : Nat → Nat} {h : MH} {Q : MR → MH → Prop} (R : Rl A h) : Ok 89 0 [.ref (A 0), .int 5] [] h 1 6 Q ↔ Q (.inl (some (.int (if g_i h (A 0) 6 = 0 then 0 else 1)))) h := by
  have R0 := R
  obtain ⟨vk, vcn, v0, v1, v2, vp, vl0, vl1, vlr, vsr, vc, tx⟩ := R0
  have vk0 := vk
  have vcn0 := vcn
  (refine K_el vk0 ?_; intros hA kc0 kc1 kc2 kc3 kc4 kc5 kc6 kc7 kc8 kc9 kc10 kc11 kc12 kc13 kc14 kc15 kc16 kc17 kc18 kc19 kc20 kc21 kc22 kc23 kc24 kc25 kc26 kc27 kc28 kc29 kc30 kc31 kc32 kc33 kc34 kc35 kc36 kc37 kc38 kc39 kz kt kn3 kn4 kn18 kn21 kn23 kn24 kn25 kn26 kn27 kn29 kn30 kr0_0 kr0_1 kr0_2 kr0_3 kr0_4 kr0_5 kr0_7 kr0_8 kr0_9 kr0_10 kr1_0 kr2_0 kr5_0 kr5_1 kr6_0 kr6_1 kr7_0 kr7_1 kr8_0 kr9_0 kr10_0 kr11_0 kr12_0 kr13_0 kr14_0 kr15_0 kr16_0 kr17_0 kr19_0 kr19_1 kr22_0 kr22_1 kr22_2 kr22_3 kr22_4 kr22_5 kr22_7 kr22_8 kr25_0 kr25_1 kr25_2 kr26_0 kr26_1 kr26_2 kr29_0 kr29_1)
  (refine Cn_el vcn0 ?_; intros ki5_2 ki6_2 ki7_2 ki8_1 ki8_2 ki8_3 ki9_1 ki9_2 ki9_3 ki10_1 ki10_2 ki10_3 ki11_1 ki11_2 ki11_3 ki12_1 ki12_2 ki12_3 ki13_1 ki13_2 ki13_3 ki14_1 ki14_2 ki14_3 ki28_0 ki28_1 ki31_0 ki31_1 ki32_0 ki32_1 ki33_0 ki33_1 ki34_0 ki34_1 ki35_0 ki35_1 ki36_0 ki36_1)
  have hAe : ∀ i j, i < 40 → j < 40 → (A i = A j ↔ i = j) := hA
  by_cases pd : g_i h (A 0) 6 = 0
  all_goals simp only [o89_0, o89_1, o89_3, o89_6, o89_7, o89_48, o89_49, o89_52, o89_55, o89_56, o89_57, o89_60, o89_63, o89_64, o89_65, o89_68, o89_71, o89_72, o89_73, o89_76, o89_79, o89_80, o89_81, o89_84, o89_87, o89_88, o89_89, o89_92, o89_95, o89_96, o89_99, o89_100, o89_101, o89_102, o89_105, o89_108, o89_109, o89_110, o89_113, o89_114, o89_117, o89_118, o132_0, o132_1, o132_4, o132_7, o132_8, o132_11, o132_14, o132_17, o132_18, o132_21, o132_24, o131_0, o131_1, o131_4, o131_7, o131_8, o131_11, o131_14, o131_17, o131_18, c_X3_rests, c_X5_checkChoice, mcs_0, mcs_i, Kn_v, Kn_0, Kn_x, mrf_some, true_and, and_true, not_true_eq_false, not_false_eq_true, false_implies, forall_const, if_true, if_false, Nat.reduceLeDiff, Nat.reduceSub, Nat.reduceAdd, Nat.zero_le, Nat.le_refl, Int32.reduceLT, kc0, kc14, kr0_5, ki14_1, ki14_2, lne, lti, Int.reduceLT, or_self, Int32.reduceLT, pd, lsz]

theorem c_piX6 {A : Nat → Nat} {h : MH} {Q : MR → MH → Prop} (R : Rl A h) : Ok 89 0 [.ref (A 0), .int 6] [] h 1 6 Q ↔ Q (.inl (some (.int (1)))) h := by
  have R0 := R
  obtain ⟨vk, vcn, v0, v1, v2, vp, vl0, vl1, vlr, vsr, vc, tx⟩ := R0
  have vk0 := vk
  have vcn0 := vcn
  (refine K_el vk0 ?_; intros hA kc0 kc1 kc2 kc3 kc4 kc5 kc6 kc7 kc8 kc9 kc10 kc11 kc12 kc13 kc14 kc15 kc16 kc17 kc18 kc19 kc20 kc21 kc22 kc23 kc24 kc25 kc26 kc27 kc28 kc29 kc30 kc31 kc32 kc33 kc34 kc35 kc36 kc37 kc38 kc39 kz kt kn3 kn4 kn18 kn21 kn23 kn24 kn25 kn26 kn27 kn29 kn30 kr0_0 kr0_1 kr0_2 kr0_3 kr0_4 kr0_5 kr0_7 kr0_8 kr0_9 kr0_10 kr1_0 kr2_0 kr5_0 kr5_1 kr6_0 kr6_1 kr7_0 kr7_1 kr8_0 kr9_0 kr10_0 kr11_0 kr12_0 kr13_0 kr14_0 kr15_0 kr16_0 kr17_0 kr19_0 kr19_1 kr22_0 kr22_1 kr22_2 kr22_3 kr22_4 kr22_5 kr22_7 kr22_8 kr25_0 kr25_1 kr25_2 kr26_0 kr26_1 kr26_2 kr29_0 kr29_1)
  (refine Cn_el vcn0 ?_; intros ki5_2 ki6_2 ki7_2 ki8_1 ki8_2 ki8_3 ki9_1 ki9_2 ki9_3 ki10_1 ki10_2 ki10_3 ki11_1 ki11_2 ki11_3 ki12_1 ki12_2 ki12_3 ki13_1 ki13_2 ki13_3 ki14_1 ki14_2 ki14_3 ki28_0 ki28_1 ki31_0 ki31_1 ki32_0 ki32_1 ki33_0 ki33_1 ki34_0 ki34_1 ki35_0 ki35_1 ki36_0 ki36_1)
  have hAe : ∀ i j, i < 40 → j < 40 → (A i = A j ↔ i = j) := hA
  by_cases pd : g_i h (A 0) 6 = 0
  all_goals simp only [o89_0, o89_1, o89_3, o89_6, o89_7, o89_48, o89_49, o89_52, o89_55, o89_56, o89_57, o89_60, o89_63, o89_64, o89_65, o89_68, o89_71, o89_72, o89_73, o89_76, o89_79, o89_80, o89_81, o89_84, o89_87, o89_88, o89_89, o89_92, o89_95, o89_96, o89_99, o89_100, o89_101, o89_102, o89_105, o89_108, o89_109, o89_110, o89_113, o89_114, o89_117, o89_118, o132_0, o132_1, o132_4, o132_7, o132_8, o132_11, o132_14, o132_17, o132_18, o132_21, o132_24, o131_0, o131_1, o131_4, o131_7, o131_8, o131_11, o131_14, o131_17, o131_18, c_X3_rests, c_X5_checkChoice, mcs_0, mcs_i, Kn_v, Kn_0, Kn_x, mrf_some, true_and, and_true, not_true_eq_false, not_false_eq_true, false_implies, forall_const, Nat.reduceLeDiff, Nat.reduceSub, Nat.reduceAdd, Nat.zero_le, Nat.le_refl, Int32.reduceLT, kc0, kc14, kr0_5, ki14_1, ki14_2, lne, lti, Int.reduceLT, or_self, Int32.reduceLT, pd, lsz]

theorem c_piX7 {A : Nat → Nat} {h : MH} {Q : MR → MH → Prop} (R : Rl A h) : Ok 89 0 [.ref (A 0), .int 7] [] h 1 6 Q ↔ Q (.inl (some (.int (if g_i h (A 0) 6 = 0 then g_i h (A 14) 4 else g_i h (A 14) 5 - g_i h (A 14) 4)))) h := by
  have R0 := R
  obtain ⟨vk, vcn, v0, v1, v2, vp, vl0, vl1, vlr, vsr, vc, tx⟩ := R0
  have vk0 := vk
  have vcn0 := vcn
  (refine K_el vk0 ?_; intros hA kc0 kc1 kc2 kc3 kc4 kc5 kc6 kc7 kc8 kc9 kc10 kc11 kc12 kc13 kc14 kc15 kc16 kc17 kc18 kc19 kc20 kc21 kc22 kc23 kc24 kc25 kc26 kc27 kc28 kc29 kc30 kc31 kc32 kc33 kc34 kc35 kc36 kc37 kc38 kc39 kz kt kn3 kn4 kn18 kn21 kn23 kn24 kn25 kn26 kn27 kn29 kn30 kr0_0 kr0_1 kr0_2 kr0_3 kr0_4 kr0_5 kr0_7 kr0_8 kr0_9 kr0_10 kr1_0 kr2_0 kr5_0 kr5_1 kr6_0 kr6_1 kr7_0 kr7_1 kr8_0 kr9_0 kr10_0 kr11_0 kr12_0 kr13_0 kr14_0 kr15_0 kr16_0 kr17_0 kr19_0 kr19_1 kr22_0 kr22_1 kr22_2 kr22_3 kr22_4 kr22_5 kr22_7 kr22_8 kr25_0 kr25_1 kr25_2 kr26_0 kr26_1 kr26_2 kr29_0 kr29_1)
  (refine Cn_el vcn0 ?_; intros ki5_2 ki6_2 ki7_2 ki8_1 ki8_2 ki8_3 ki9_1 ki9_2 ki9_3 ki10_1 ki10_2 ki10_3 ki11_1 ki11_2 ki11_3 ki12_1 ki12_2 ki12_3 ki13_1 ki13_2 ki13_3 ki14_1 ki14_2 ki14_3 ki28_0 ki28_1 ki31_0 ki31_1 ki32_0 ki32_1 ki33_0 ki33_1 ki34_0 ki34_1 ki35_0 ki35_1 ki36_0 ki36_1)
  have hAe : ∀ i j, i < 40 → j < 40 → (A i = A j ↔ i = j) := hA
  by_cases pd : g_i h (A 0) 6 = 0
  all_goals simp only [o89_0, o89_1, o89_3, o89_6, o89_7, o89_48, o89_49, o89_52, o89_55, o89_56, o89_57, o89_60, o89_63, o89_64, o89_65, o89_68, o89_71, o89_72, o89_73, o89_76, o89_79, o89_80, o89_81, o89_84, o89_87, o89_88, o89_89, o89_92, o89_95, o89_96, o89_99, o89_100, o89_101, o89_102, o89_105, o89_108, o89_109, o89_110, o89_113, o89_114, o89_117, o89_118, o132_0, o132_1, o132_4, o132_7, o132_8, o132_11, o132_14, o132_17, o132_18, o132_21, o132_24, o131_0, o131_1, o131_4, o131_7, o131_8, o131_11, o131_14, o131_17, o131_18, c_X3_rests, c_X5_checkChoice, mcs_0, mcs_i, Kn_v, Kn_0, Kn_x, mrf_some, true_and, and_true, or_true, not_true_eq_false, not_false_eq_true, false_implies, forall_const, if_true, if_false, and_self, Nat.reduceLeDiff, Nat.reduceSub, Nat.reduceAdd, Nat.zero_le, Nat.le_refl, Int32.reduceLT, kc0, kc14, kr0_5, ki14_1, ki14_2, lne, lti, Int.reduceLT, or_self, Int32.reduceLT, pd, lsz]

def dI (A : Nat → Nat) (h : MH) (d : Int64) : Int64 := dg1 (dg1 (dg1 (dg1 (dg1 (dg1 (dg1 (dg1 (d) (g_i h (A 14) 4)) (g_i h (A 14) 5)) (g_i h (A 14) 5 - g_i h (A 14) 4)) (10)) (g_i h (A 14) 6)) (if g_i h (A 0) 6 = 0 then 0 else 1)) (1)) (if g_i h (A 0) 6 = 0 then g_i h (A 14) 4 else g_i h (A 14) 5 - g_i h (A 14) 4)
def dT (A : Nat → Nat) (h : MH) (d : Int64) : Int64 := dg1 (dI A h d) (Int32.ofNat (tq (pv A h) (pNn A h)))
theorem c_wP {A : Nat → Nat} {h : MH} {d : Int64} {Q : MR → MH → Prop} (R : Rl A h) (hQ : ∀ m, Sm A h m → Rl A m → Q (.inl (some (.long (dT A h d)))) m) : Ok 147 0 [.ref (A 0), .long d, mk0, mk0, mk0, mk0] [] h 219 31698 Q := by
  have R0 := R
  obtain ⟨vk, vcn, v0, v1, v2, vp, vl0, vl1, vlr, vsr, vc, tx⟩ := R0
  have vk0 := vk
  have vcn0 := vcn
  (refine K_el vk0 ?_; intros hA kc0 kc1 kc2 kc3 kc4 kc5 kc6 kc7 kc8 kc9 kc10 kc11 kc12 kc13 kc14 kc15 kc16 kc17 kc18 kc19 kc20 kc21 kc22 kc23 kc24 kc25 kc26 kc27 kc28 kc29 kc30 kc31 kc32 kc33 kc34 kc35 kc36 kc37 kc38 kc39 kz kt kn3 kn4 kn18 kn21 kn23 kn24 kn25 kn26 kn27 kn29 kn30 kr0_0 kr0_1 kr0_2 kr0_3 kr0_4 kr0_5 kr0_7 kr0_8 kr0_9 kr0_10 kr1_0 kr2_0 kr5_0 kr5_1 kr6_0 kr6_1 kr7_0 kr7_1 kr8_0 kr9_0 kr10_0 kr11_0 kr12_0 kr13_0 kr14_0 kr15_0 kr16_0 kr17_0 kr19_0 kr19_1 kr22_0 kr22_1 kr22_2 kr22_3 kr22_4 kr22_5 kr22_7 kr22_8 kr25_0 kr25_1 kr25_2 kr26_0 kr26_1 kr26_2 kr29_0 kr29_1)
  (refine Cn_el vcn0 ?_; intros ki5_2 ki6_2 ki7_2 ki8_1 ki8_2 ki8_3 ki9_1 ki9_2 ki9_3 ki10_1 ki10_2 ki10_3 ki11_1 ki11_2 ki11_3 ki12_1 ki12_2 ki12_3 ki13_1 ki13_2 ki13_3 ki14_1 ki14_2 ki14_3 ki28_0 ki28_1 ki31_0 ki31_1 ki32_0 ki32_1 ki33_0 ki33_1 ki34_0 ki34_1 ki35_0 ki35_1 ki36_0 ki36_1)
  have hAe : ∀ i j, i < 40 → j < 40 → (A i = A j ↔ i = j) := hA
  have b7 : (7 : Int32) = 7 := by decide
  simp only [o147_0, o147_1, o147_2, o147_3, o147_5, o147_7, o147_9, o147_12, o147_13, o147_14, o147_16, o147_19, o147_20, o147_23, o147_24, o147_27, o147_30, o147_31, c_piX0 R, c_piX1 R, c_piX2 R, c_piX3 R, c_piX4 R, c_piX5 R, c_piX6 R, c_piX7 R, o143_0, o143_1, o143_4, o143_5, o143_6, o143_7, mcs_0, mcs_l, Kn_v, true_and, and_true, not_true_eq_false, not_false_eq_true, false_implies, forall_const, Nat.reduceLeDiff, Nat.reduceSub, Nat.reduceAdd, Nat.zero_le, Nat.le_refl, Int32.reduceLT, Int32.reduceAdd, kc0, Int32.reduceLT]
  refine c_gP R (fun m f b => ?_)
  have Rm := Rl_Fx R f b
  have R0 := Rm
  obtain ⟨vk, vcn, v0, v1, v2, vp, vl0, vl1, vlr, vsr, vc, tx⟩ := R0
  have vk0 := vk
  have vcn0 := vcn
  (refine K_el vk0 ?_; intros hA kc0 kc1 kc2 kc3 kc4 kc5 kc6 kc7 kc8 kc9 kc10 kc11 kc12 kc13 kc14 kc15 kc16 kc17 kc18 kc19 kc20 kc21 kc22 kc23 kc24 kc25 kc26 kc27 kc28 kc29 kc30 kc31 kc32 kc33 kc34 kc35 kc36 kc37 kc38 kc39 kz kt kn3 kn4 kn18 kn21 kn23 kn24 kn25 kn26 kn27 kn29 kn30 kr0_0 kr0_1 kr0_2 kr0_3 kr0_4 kr0_5 kr0_7 kr0_8 kr0_9 kr0_10 kr1_0 kr2_0 kr5_0 kr5_1 kr6_0 kr6_1 kr7_0 kr7_1 kr8_0 kr9_0 kr10_0 kr11_0 kr12_0 kr13_0 kr14_0 kr15_0 kr16_0 kr17_0 kr19_0 kr19_1 kr22_0 kr22_1 kr22_2 kr22_3 kr22_4 kr22_5 kr22_7 kr22_8 kr25_0 kr25_1 kr25_2 kr26_0 kr26_1 kr26_2 kr29_0 kr29_1)
  (refine Cn_el vcn0 ?_; intros ki5_2 ki6_2 ki7_2 ki8_1 ki8_2 ki8_3 ki9_1 ki9_2 ki9_3 ki10_1 ki10_2 ki10_3 ki11_1 ki11_2 ki11_3 ki12_1 ki12_2 ki12_3 ki13_1 ki13_2 ki13_3 ki14_1 ki14_2 ki14_3 ki28_0 ki28_1 ki31_0 ki31_1 ki32_0 ki32_1 ki33_0 ki33_1 ki34_0 ki34_1 ki35_0 ki35_1 ki36_0 ki36_1)
  have hAe : ∀ i j, i < 40 → j < 40 → (A i = A j ↔ i = j) := hA
  simp only [o147_34, o147_35, o147_36, o147_39, o147_42, o147_43, o147_46, c_wlen (Wo_of Rm) b, o143_0, o143_1, o143_4, o143_5, o143_6, o143_7, mcs_0, mcs_l, Kn_v, Kn_0, mrf_some, true_and, Nat.reduceLeDiff, Nat.reduceAdd, Nat.zero_le, kc0, kc19, kr0_10]
  exact hQ m (Sm_Fx R f) Rm

theorem c_leX0_0 {A : Nat → Nat} {h : MH} {Q : MR → MH → Prop} (R : Rl A h) : Ok 96 0 [.ref (A 0), .int 0, .int 0, mk0] [] h 2 12 Q ↔ Q (.inl (some (.int (g_i h (A 15) 4)))) h := by
  have R0 := R
  obtain ⟨vk, vcn, v0, v1, v2, vp, vl0, vl1, vlr, vsr, vc, tx⟩ := R0
  have vk0 := vk
  have vcn0 := vcn
  (refine K_el vk0 ?_; intros hA kc0 kc1 kc2 kc3 kc4 kc5 kc6 kc7 kc8 kc9 kc10 kc11 kc12 kc13 kc14 kc15 kc16 kc17 kc18 kc19 kc20 kc21 kc22 kc23 kc24 kc25 kc26 kc27 kc28 kc29 kc30 kc31 kc32 kc33 kc34 kc35 kc36 kc37 kc38 kc39 kz kt kn3 kn4 kn18 kn21 kn23 kn24 kn25 kn26 kn27 kn29 kn30 kr0_0 kr0_1 kr0_2 kr0_3 kr0_4 kr0_5 kr0_7 kr0_8 kr0_9 kr0_10 kr1_0 kr2_0 kr5_0 kr5_1 kr6_0 kr6_1 kr7_0 kr7_1 kr8_0 kr9_0 kr10_0 kr11_0 kr12_0 kr13_0 kr14_0 kr15_0 kr16_0 kr17_0 kr19_0 kr19_1 kr22_0 kr22_1 kr22_2 kr22_3 kr22_4 kr22_5 kr22_7 kr22_8 kr25_0 kr25_1 kr25_2 kr26_0 kr26_1 kr26_2 kr29_0 kr29_1)
  (refine Cn_el vcn0 ?_; intros ki5_2 ki6_2 ki7_2 ki8_1 ki8_2 ki8_3 ki9_1 ki9_2 ki9_3 ki10_1 ki10_2 ki10_3 ki11_1 ki11_2 ki11_3 ki12_1 ki12_2 ki12_3 ki13_1 ki13_2 ki13_3 ki14_1 ki14_2 ki14_3 ki28_0 ki28_1 ki31_0 ki31_1 ki32_0 ki32_1 ki33_0 ki33_1 ki34_0 ki34_1 ki35_0 ki35_1 ki36_0 ki36_1)
  have hAe : ∀ i j, i < 40 → j < 40 → (A i = A j ↔ i = j) := hA
  by_cases ps : g_i h (A 15) 3 = 0
  all_goals simp only [o96_0, o96_1, o96_2, o96_5, o96_6, o96_7, o96_9, o96_12, o96_13, o96_60, o96_61, o96_64, o96_65, o96_66, o96_69, o96_70, o96_71, o96_74, o96_75, o96_76, o96_79, o96_80, o96_81, o96_84, o96_85, o96_86, o96_89, o96_92, o96_93, o96_96, o96_97, o96_98, o96_99, o96_102, o96_105, o96_106, o96_109, o96_110, o96_111, o96_112, o96_113, o96_114, o96_117, o96_120, o96_121, o96_124, o96_125, o96_128, c_lensOf_0, c_X3_rests, c_X5_checkChoice, mcs_0, Kn_v, Kn_0, Kn_x, true_and, and_true, not_true_eq_false, not_false_eq_true, false_implies, forall_const, and_self, Nat.reduceLeDiff, Nat.reduceSub, Nat.zero_le, Nat.le_refl, i01, Int32.reduceLT, Option.some.injEq, kc0, kc15, kr0_7, lne, lti, Int.reduceLT, or_self, Int32.reduceLT, ps]

theorem c_leX0_1 {A : Nat → Nat} {h : MH} {Q : MR → MH → Prop} (R : Rl A h) : Ok 96 0 [.ref (A 0), .int 0, .int 1, mk0] [] h 2 12 Q ↔ Q (.inl (some (.int (g_i h (A 15) 5)))) h := by
  have R0 := R
  obtain ⟨vk, vcn, v0, v1, v2, vp, vl0, vl1, vlr, vsr, vc, tx⟩ := R0
  have vk0 := vk
  have vcn0 := vcn
  (refine K_el vk0 ?_; intros hA kc0 kc1 kc2 kc3 kc4 kc5 kc6 kc7 kc8 kc9 kc10 kc11 kc12 kc13 kc14 kc15 kc16 kc17 kc18 kc19 kc20 kc21 kc22 kc23 kc24 kc25 kc26 kc27 kc28 kc29 kc30 kc31 kc32 kc33 kc34 kc35 kc36 kc37 kc38 kc39 kz kt kn3 kn4 kn18 kn21 kn23 kn24 kn25 kn26 kn27 kn29 kn30 kr0_0 kr0_1 kr0_2 kr0_3 kr0_4 kr0_5 kr0_7 kr0_8 kr0_9 kr0_10 kr1_0 kr2_0 kr5_0 kr5_1 kr6_0 kr6_1 kr7_0 kr7_1 kr8_0 kr9_0 kr10_0 kr11_0 kr12_0 kr13_0 kr14_0 kr15_0 kr16_0 kr17_0 kr19_0 kr19_1 kr22_0 kr22_1 kr22_2 kr22_3 kr22_4 kr22_5 kr22_7 kr22_8 kr25_0 kr25_1 kr25_2 kr26_0 kr26_1 kr26_2 kr29_0 kr29_1)
  (refine Cn_el vcn0 ?_; intros ki5_2 ki6_2 ki7_2 ki8_1 ki8_2 ki8_3 ki9_1 ki9_2 ki9_3 ki10_1 ki10_2 ki10_3 ki11_1 ki11_2 ki11_3 ki12_1 ki12_2 ki12_3 ki13_1 ki13_2 ki13_3 ki14_1 ki14_2 ki14_3 ki28_0 ki28_1 ki31_0 ki31_1 ki32_0 ki32_1 ki33_0 ki33_1 ki34_0 ki34_1 ki35_0 ki35_1 ki36_0 ki36_1)
  have hAe : ∀ i j, i < 40 → j < 40 → (A i = A j ↔ i = j) := hA
  by_cases ps : g_i h (A 15) 3 = 0
  all_goals simp only [o96_0, o96_1, o96_2, o96_5, o96_6, o96_7, o96_9, o96_12, o96_13, o96_60, o96_61, o96_64, o96_65, o96_66, o96_69, o96_70, o96_71, o96_74, o96_75, o96_76, o96_79, o96_80, o96_81, o96_84, o96_85, o96_86, o96_89, o96_92, o96_93, o96_96, o96_97, o96_98, o96_99, o96_102, o96_105, o96_106, o96_109, o96_110, o96_111, o96_112, o96_113, o96_114, o96_117, o96_120, o96_121, o96_124, o96_125, o96_128, c_lensOf_0, c_X3_rests, c_X5_checkChoice, mcs_0, Kn_v, Kn_0, Kn_x, true_and, and_true, not_true_eq_false, not_false_eq_true, false_implies, forall_const, and_self, Nat.reduceLeDiff, Nat.reduceSub, Nat.zero_le, Nat.le_refl, i10, Int32.reduceLT, Option.some.injEq, kc0, kc15, kr0_7, lne, lti, Int.reduceLT, or_self, Int32.reduceLT, ps]

theorem c_leX0_2 {A : Nat → Nat} {h : MH} {Q : MR → MH → Prop} (R : Rl A h) : Ok 96 0 [.ref (A 0), .int 0, .int 2, mk0] [] h 2 12 Q ↔ Q (.inl (some (.int (g_i h (A 15) 2)))) h := by
  have R0 := R
  obtain ⟨vk, vcn, v0, v1, v2, vp, vl0, vl1, vlr, vsr, vc, tx⟩ := R0
  have vk0 := vk
  have vcn0 := vcn
  (refine K_el vk0 ?_; intros hA kc0 kc1 kc2 kc3 kc4 kc5 kc6 kc7 kc8 kc9 kc10 kc11 kc12 kc13 kc14 kc15 kc16 kc17 kc18 kc19 kc20 kc21 kc22 kc23 kc24 kc25 kc26 kc27 kc28 kc29 kc30 kc31 kc32 kc33 kc34 kc35 kc36 kc37 kc38 kc39 kz kt kn3 kn4 kn18 kn21 kn23 kn24 kn25 kn26 kn27 kn29 kn30 kr0_0 kr0_1 kr0_2 kr0_3 kr0_4 kr0_5 kr0_7 kr0_8 kr0_9 kr0_10 kr1_0 kr2_0 kr5_0 kr5_1 kr6_0 kr6_1 kr7_0 kr7_1 kr8_0 kr9_0 kr10_0 kr11_0 kr12_0 kr13_0 kr14_0 kr15_0 kr16_0 kr17_0 kr19_0 kr19_1 kr22_0 kr22_1 kr22_2 kr22_3 kr22_4 kr22_5 kr22_7 kr22_8 kr25_0 kr25_1 kr25_2 kr26_0 kr26_1 kr26_2 kr29_0 kr29_1)
  (refine Cn_el vcn0 ?_; intros ki5_2 ki6_2 ki7_2 ki8_1 ki8_2 ki8_3 ki9_1 ki9_2 ki9_3 ki10_1 ki10_2 ki10_3 ki11_1 ki11_2 ki11_3 ki12_1 ki12_2 ki12_3 ki13_1 ki13_2 ki13_3 ki14_1 ki14_2 ki14_3 ki28_0 ki28_1 ki31_0 ki31_1 ki32_0 ki32_1 ki33_0 ki33_1 ki34_0 ki34_1 ki35_0 ki35_1 ki36_0 ki36_1)
  have hAe : ∀ i j, i < 40 → j < 40 → (A i = A j ↔ i = j) := hA
  by_cases ps : g_i h (A 15) 3 = 0
  all_goals simp only [o96_0, o96_1, o96_2, o96_5, o96_6, o96_7, o96_9, o96_12, o96_13, o96_60, o96_61, o96_64, o96_65, o96_66, o96_69, o96_70, o96_71, o96_74, o96_75, o96_76, o96_79, o96_80, o96_81, o96_84, o96_85, o96_86, o96_89, o96_92, o96_93, o96_96, o96_97, o96_98, o96_99, o96_102, o96_105, o96_106, o96_109, o96_110, o96_111, o96_112, o96_113, o96_114, o96_117, o96_120, o96_121, o96_124, o96_125, o96_128, c_lensOf_0, c_X3_rests, c_X5_checkChoice, mcs_0, Kn_v, Kn_0, Kn_x, true_and, and_true, not_true_eq_false, not_false_eq_true, false_implies, forall_const, and_self, Nat.reduceLeDiff, Nat.reduceSub, Nat.zero_le, Nat.le_refl, Int32.reduceLT, Option.some.injEq, i20, kc0, kc15, kr0_7, lne, lti, Int.reduceLT, or_self, Int32.reduceLT, ps]

theorem c_leX0_3 {A : Nat → Nat} {h : MH} {Q : MR → MH → Prop} (R : Rl A h) : Ok 96 0 [.ref (A 0), .int 0, .int 3, mk0] [] h 2 12 Q ↔ Q (.inl (some (.int (g_i h (A 15) 5 - g_i h (A 15) 4)))) h := by
  have R0 := R
  obtain ⟨vk, vcn, v0, v1, v2, vp, vl0, vl1, vlr, vsr, vc, tx⟩ := R0
  have vk0 := vk
  have vcn0 := vcn
  (refine K_el vk0 ?_; intros hA kc0 kc1 kc2 kc3 kc4 kc5 kc6 kc7 kc8 kc9 kc10 kc11 kc12 kc13 kc14 kc15 kc16 kc17 kc18 kc19 kc20 kc21 kc22 kc23 kc24 kc25 kc26 kc27 kc28 kc29 kc30 kc31 kc32 kc33 kc34 kc35 kc36 kc37 kc38 kc39 kz kt kn3 kn4 kn18 kn21 kn23 kn24 kn25 kn26 kn27 kn29 kn30 kr0_0 kr0_1 kr0_2 kr0_3 kr0_4 kr0_5 kr0_7 kr0_8 kr0_9 kr0_10 kr1_0 kr2_0 kr5_0 kr5_1 kr6_0 kr6_1 kr7_0 kr7_1 kr8_0 kr9_0 kr10_0 kr11_0 kr12_0 kr13_0 kr14_0 kr15_0 kr16_0 kr17_0 kr19_0 kr19_1 kr22_0 kr22_1 kr22_2 kr22_3 kr22_4 kr22_5 kr22_7 kr22_8 kr25_0 kr25_1 kr25_2 kr26_0 kr26_1 kr26_2 kr29_0 kr29_1)
  (refine Cn_el vcn0 ?_; intros ki5_2 ki6_2 ki7_2 ki8_1 ki8_2 ki8_3 ki9_1 ki9_2 ki9_3 ki10_1 ki10_2 ki10_3 ki11_1 ki11_2 ki11_3 ki12_1 ki12_2 ki12_3 ki13_1 ki13_2 ki13_3 ki14_1 ki14_2 ki14_3 ki28_0 ki28_1 ki31_0 ki31_1 ki32_0 ki32_1 ki33_0 ki33_1 ki34_0 ki34_1 ki35_0 ki35_1 ki36_0 ki36_1)
  have hAe : ∀ i j, i < 40 → j < 40 → (A i = A j ↔ i = j) := hA
  by_cases ps : g_i h (A 15) 3 = 0
  all_goals simp only [o96_0, o96_1, o96_2, o96_5, o96_6, o96_7, o96_9, o96_12, o96_13, o96_60, o96_61, o96_64, o96_65, o96_66, o96_69, o96_70, o96_71, o96_74, o96_75, o96_76, o96_79, o96_80, o96_81, o96_84, o96_85, o96_86, o96_89, o96_92, o96_93, o96_96, o96_97, o96_98, o96_99, o96_102, o96_105, o96_106, o96_109, o96_110, o96_111, o96_112, o96_113, o96_114, o96_117, o96_120, o96_121, o96_124, o96_125, o96_128, c_lensOf_0, c_X3_rests, c_X5_checkChoice, mcs_0, Kn_v, Kn_0, Kn_x, true_and, and_true, not_true_eq_false, not_false_eq_true, false_implies, forall_const, and_self, Nat.reduceLeDiff, Nat.reduceSub, Nat.zero_le, Nat.le_refl, Int32.reduceLT, Option.some.injEq, i30, kc0, kc15, kr0_7, lne, lti, Int.reduceLT, or_self, Int32.reduceLT, ps]

theorem c_leX0_4 {A : Nat → Nat} {h : MH} {Q : MR → MH → Prop} (R : Rl A h) : Ok 96 0 [.ref (A 0), .int 0, .int 4, mk0] [] h 2 12 Q ↔ Q (.inl (some (.int (g_i h (A 15) 6)))) h := by
  have R0 := R
  obtain ⟨vk, vcn, v0, v1, v2, vp, vl0, vl1, vlr, vsr, vc, tx⟩ := R0
  have vk0 := vk
  have vcn0 := vcn
  (refine K_el vk0 ?_; intros hA kc0 kc1 kc2 kc3 kc4 kc5 kc6 kc7 kc8 kc9 kc10 kc11 kc12 kc13 kc14 kc15 kc16 kc17 kc18 kc19 kc20 kc21 kc22 kc23 kc24 kc25 kc26 kc27 kc28 kc29 kc30 kc31 kc32 kc33 kc34 kc35 kc36 kc37 kc38 kc39 kz kt kn3 kn4 kn18 kn21 kn23 kn24 kn25 kn26 kn27 kn29 kn30 kr0_0 kr0_1 kr0_2 kr0_3 kr0_4 kr0_5 kr0_7 kr0_8 kr0_9 kr0_10 kr1_0 kr2_0 kr5_0 kr5_1 kr6_0 kr6_1 kr7_0 kr7_1 kr8_0 kr9_0 kr10_0 kr11_0 kr12_0 kr13_0 kr14_0 kr15_0 kr16_0 kr17_0 kr19_0 kr19_1 kr22_0 kr22_1 kr22_2 kr22_3 kr22_4 kr22_5 kr22_7 kr22_8 kr25_0 kr25_1 kr25_2 kr26_0 kr26_1 kr26_2 kr29_0 kr29_1)
  (refine Cn_el vcn0 ?_; intros ki5_2 ki6_2 ki7_2 ki8_1 ki8_2 ki8_3 ki9_1 ki9_2 ki9_3 ki10_1 ki10_2 ki10_3 ki11_1 ki11_2 ki11_3 ki12_1 ki12_2 ki12_3 ki13_1 ki13_2 ki13_3 ki14_1 ki14_2 ki14_3 ki28_0 ki28_1 ki31_0 ki31_1 ki32_0 ki32_1 ki33_0 ki33_1 ki34_0 ki34_1 ki35_0 ki35_1 ki36_0 ki36_1)
  have hAe : ∀ i j, i < 40 → j < 40 → (A i = A j ↔ i = j) := hA
  by_cases ps : g_i h (A 15) 3 = 0
  all_goals simp only [o96_0, o96_1, o96_2, o96_5, o96_6, o96_7, o96_9, o96_12, o96_13, o96_60, o96_61, o96_64, o96_65, o96_66, o96_69, o96_70, o96_71, o96_74, o96_75, o96_76, o96_79, o96_80, o96_81, o96_84, o96_85, o96_86, o96_89, o96_92, o96_93, o96_96, o96_97, o96_98, o96_99, o96_102, o96_105, o96_106, o96_109, o96_110, o96_111, o96_112, o96_113, o96_114, o96_117, o96_120, o96_121, o96_124, o96_125, o96_128, c_lensOf_0, c_X3_rests, c_X5_checkChoice, mcs_0, Kn_v, Kn_0, Kn_x, true_and, and_true, not_true_eq_false, not_false_eq_true, false_implies, forall_const, and_self, Nat.reduceLeDiff, Nat.reduceSub, Nat.zero_le, Nat.le_refl, Int32.reduceLT, Option.some.injEq, kc0, kc15, kr0_7, lne, lti, Int.reduceLT, or_self, Int32.reduceLT, ps]

theorem c_leX0_5 {A : Nat → Nat} {h : MH} {Q : MR → MH → Prop} (R : Rl A h) : Ok 96 0 [.ref (A 0), .int 0, .int 5, mk0] [] h 2 12 Q ↔ Q (.inl (some (.int (if g_i h (A 15) 3 = 0 then 0 else 1)))) h := by
  have R0 := R
  obtain ⟨vk, vcn, v0, v1, v2, vp, vl0, vl1, vlr, vsr, vc, tx⟩ := R0
  have vk0 := vk
  have vcn0 := vcn
  (refine K_el vk0 ?_; intros hA kc0 kc1 kc2 kc3 kc4 kc5 kc6 kc7 kc8 kc9 kc10 kc11 kc12 kc13 kc14 kc15 kc16 kc17 kc18 kc19 kc20 kc21 kc22 kc23 kc24 kc25 kc26 kc27 kc28 kc29 kc30 kc31 kc32 kc33 kc34 kc35 kc36 kc37 kc38 kc39 kz kt kn3 kn4 kn18 kn21 kn23 kn24 kn25 kn26 kn27 kn29 kn30 kr0_0 kr0_1 kr0_2 kr0_3 kr0_4 kr0_5 kr0_7 kr0_8 kr0_9 kr0_10 kr1_0 kr2_0 kr5_0 kr5_1 kr6_0 kr6_1 kr7_0 kr7_1 kr8_0 kr9_0 kr10_0 kr11_0 kr12_0 kr13_0 kr14_0 kr15_0 kr16_0 kr17_0 kr19_0 kr19_1 kr22_0 kr22_1 kr22_2 kr22_3 kr22_4 kr22_5 kr22_7 kr22_8 kr25_0 kr25_1 kr25_2 kr26_0 kr26_1 kr26_2 kr29_0 kr29_1)
  (refine Cn_el vcn0 ?_; intros ki5_2 ki6_2 ki7_2 ki8_1 ki8_2 ki8_3 ki9_1 ki9_2 ki9_3 ki10_1 ki10_2 ki10_3 ki11_1 ki11_2 ki11_3 ki12_1 ki12_2 ki12_3 ki13_1 ki13_2 ki13_3 ki14_1 ki14_2 ki14_3 ki28_0 ki28_1 ki31_0 ki31_1 ki32_0 ki32_1 ki33_0 ki33_1 ki34_0 ki34_1 ki35_0 ki35_1 ki36_0 ki36_1)
  have hAe : ∀ i j, i < 40 → j < 40 → (A i = A j ↔ i = j) := hA
  by_cases ps : g_i h (A 15) 3 = 0
  all_goals simp only [o96_0, o96_1, o96_2, o96_5, o96_6, o96_7, o96_9, o96_12, o96_13, o96_60, o96_61, o96_64, o96_65, o96_66, o96_69, o96_70, o96_71, o96_74, o96_75, o96_76, o96_79, o96_80, o96_81, o96_84, o96_85, o96_86, o96_89, o96_92, o96_93, o96_96, o96_97, o96_98, o96_99, o96_102, o96_105, o96_106, o96_109, o96_110, o96_111, o96_112, o96_113, o96_114, o96_117, o96_120, o96_121, o96_124, o96_125, o96_128, c_lensOf_0, c_X3_rests, c_X5_checkChoice, mcs_0, Kn_v, Kn_0, Kn_x, true_and, and_true, not_true_eq_false, not_false_eq_true, false_implies, forall_const, if_true, if_false, and_self, Nat.reduceLeDiff, Nat.reduceSub, Nat.zero_le, Nat.le_refl, Int32.reduceLT, Option.some.injEq, kc0, kc15, kr0_7, lne, lti, Int.reduceLT, or_self, Int32.reduceLT, ps]

theorem c_leX0_6 {A : Nat → Nat} {h : MH} {Q : MR → MH → Prop} (R : Rl A h) : Ok 96 0 [.ref (A 0), .int 0, .int 6, mk0] [] h 2 12 Q ↔ Q (.inl (some (.int (if g_i h (A 15) 3 = 0 then 1 else 0)))) h := by
  have R0 := R
  obtain ⟨vk, vcn, v0, v1, v2, vp, vl0, vl1, vlr, vsr, vc, tx⟩ := R0
  have vk0 := vk
  have vcn0 := vcn
  (refine K_el vk0 ?_; intros hA kc0 kc1 kc2 kc3 kc4 kc5 kc6 kc7 kc8 kc9 kc10 kc11 kc12 kc13 kc14 kc15 kc16 kc17 kc18 kc19 kc20 kc21 kc22 kc23 kc24 kc25 kc26 kc27 kc28 kc29 kc30 kc31 kc32 kc33 kc34 kc35 kc36 kc37 kc38 kc39 kz kt kn3 kn4 kn18 kn21 kn23 kn24 kn25 kn26 kn27 kn29 kn30 kr0_0 kr0_1 kr0_2 kr0_3 kr0_4 kr0_5 kr0_7 kr0_8 kr0_9 kr0_10 kr1_0 kr2_0 kr5_0 kr5_1 kr6_0 kr6_1 kr7_0 kr7_1 kr8_0 kr9_0 kr10_0 kr11_0 kr12_0 kr13_0 kr14_0 kr15_0 kr16_0 kr17_0 kr19_0 kr19_1 kr22_0 kr22_1 kr22_2 kr22_3 kr22_4 kr22_5 kr22_7 kr22_8 kr25_0 kr25_1 kr25_2 kr26_0 kr26_1 kr26_2 kr29_0 kr29_1)
  (refine Cn_el vcn0 ?_; intros ki5_2 ki6_2 ki7_2 ki8_1 ki8_2 ki8_3 ki9_1 ki9_2 ki9_3 ki10_1 ki10_2 ki10_3 ki11_1 ki11_2 ki11_3 ki12_1 ki12_2 ki12_3 ki13_1 ki13_2 ki13_3 ki14_1 ki14_2 ki14_3 ki28_0 ki28_1 ki31_0 ki31_1 ki32_0 ki32_1 ki33_0 ki33_1 ki34_0 ki34_1 ki35_0 ki35_1 ki36_0 ki36_1)
  have hAe : ∀ i j, i < 40 → j < 40 → (A i = A j ↔ i = j) := hA
  by_cases ps : g_i h (A 15) 3 = 0
  all_goals simp only [o96_0, o96_1, o96_2, o96_5, o96_6, o96_7, o96_9, o96_12, o96_13, o96_60, o96_61, o96_64, o96_65, o96_66, o96_69, o96_70, o96_71, o96_74, o96_75, o96_76, o96_79, o96_80, o96_81, o96_84, o96_85, o96_86, o96_89, o96_92, o96_93, o96_96, o96_97, o96_98, o96_99, o96_102, o96_105, o96_106, o96_109, o96_110, o96_111, o96_112, o96_113, o96_114, o96_117, o96_120, o96_121, o96_124, o96_125, o96_128, c_lensOf_0, c_X3_rests, c_X5_checkChoice, mcs_0, Kn_v, Kn_0, Kn_x, true_and, and_true, not_true_eq_false, not_false_eq_true, false_implies, forall_const, if_true, if_false, Nat.reduceLeDiff, Nat.reduceSub, Nat.zero_le, Nat.le_refl, Int32.reduceLT, Option.some.injEq, kc0, kc15, kr0_7, lne, lti, Int.reduceLT, or_self, Int32.reduceLT, ps]

theorem c_leX0_7 {A : Nat → Nat} {h : MH} {Q : MR → MH → Prop} (R : Rl A h) : Ok 96 0 [.ref (A 0), .int 0, .int 7, mk0] [] h 2 12 Q ↔ Q (.inl (some (.int (0)))) h := by
  have R0 := R
  obtain ⟨vk, vcn, v0, v1, v2, vp, vl0, vl1, vlr, vsr, vc, tx⟩ := R0
  have vk0 := vk
  have vcn0 := vcn
  (refine K_el vk0 ?_; intros hA kc0 kc1 kc2 kc3 kc4 kc5 kc6 kc7 kc8 kc9 kc10 kc11 kc12 kc13 kc14 kc15 kc16 kc17 kc18 kc19 kc20 kc21 kc22 kc23 kc24 kc25 kc26 kc27 kc28 kc29 kc30 kc31 kc32 kc33 kc34 kc35 kc36 kc37 kc38 kc39 kz kt kn3 kn4 kn18 kn21 kn23 kn24 kn25 kn26 kn27 kn29 kn30 kr0_0 kr0_1 kr0_2 kr0_3 kr0_4 kr0_5 kr0_7 kr0_8 kr0_9 kr0_10 kr1_0 kr2_0 kr5_0 kr5_1 kr6_0 kr6_1 kr7_0 kr7_1 kr8_0 kr9_0 kr10_0 kr11_0 kr12_0 kr13_0 kr14_0 kr15_0 kr16_0 kr17_0 kr19_0 kr19_1 kr22_0 kr22_1 kr22_2 kr22_3 kr22_4 kr22_5 kr22_7 kr22_8 kr25_0 kr25_1 kr25_2 kr26_0 kr26_1 kr26_2 kr29_0 kr29_1)
  (refine Cn_el vcn0 ?_; intros ki5_2 ki6_2 ki7_2 ki8_1 ki8_2 ki8_3 ki9_1 ki9_2 ki9_3 ki10_1 ki10_2 ki10_3 ki11_1 ki11_2 ki11_3 ki12_1 ki12_2 ki12_3 ki13_1 ki13_2 ki13_3 ki14_1 ki14_2 ki14_3 ki28_0 ki28_1 ki31_0 ki31_1 ki32_0 ki32_1 ki33_0 ki33_1 ki34_0 ki34_1 ki35_0 ki35_1 ki36_0 ki36_1)
  have hAe : ∀ i j, i < 40 → j < 40 → (A i = A j ↔ i = j) := hA
  by_cases ps : g_i h (A 15) 3 = 0
  all_goals simp only [o96_0, o96_1, o96_2, o96_5, o96_6, o96_7, o96_9, o96_12, o96_13, o96_60, o96_61, o96_64, o96_65, o96_66, o96_69, o96_70, o96_71, o96_74, o96_75, o96_76, o96_79, o96_80, o96_81, o96_84, o96_85, o96_86, o96_89, o96_92, o96_93, o96_96, o96_97, o96_98, o96_99, o96_102, o96_105, o96_106, o96_109, o96_110, o96_111, o96_112, o96_113, o96_114, o96_117, o96_120, o96_121, o96_124, o96_125, o96_128, c_lensOf_0, c_X3_rests, c_X5_checkChoice, mcs_0, Kn_v, Kn_0, Kn_x, true_and, and_true, not_true_eq_false, not_false_eq_true, false_implies, forall_const, Nat.reduceLeDiff, Nat.reduceSub, Nat.zero_le, Nat.le_refl, Int32.reduceLT, Option.some.injEq, kc0, kc15, kr0_7, lne, lti, Int.reduceLT, or_self, Int32.reduceLT, ps]

theorem c_leX0_8 {A : Nat → Nat} {h : MH} {Q : MR → MH → Prop} (R : Rl A h) : Ok 96 0 [.ref (A 0), .int 0, .int 8, mk0] [] h 2 12 Q ↔ Q (.inl (some (.int (if g_i h (A 15) 3 = 0 then g_i h (A 15) 1 else -1)))) h := by
  have R0 := R
  obtain ⟨vk, vcn, v0, v1, v2, vp, vl0, vl1, vlr, vsr, vc, tx⟩ := R0
  have vk0 := vk
  have vcn0 := vcn
  (refine K_el vk0 ?_; intros hA kc0 kc1 kc2 kc3 kc4 kc5 kc6 kc7 kc8 kc9 kc10 kc11 kc12 kc13 kc14 kc15 kc16 kc17 kc18 kc19 kc20 kc21 kc22 kc23 kc24 kc25 kc26 kc27 kc28 kc29 kc30 kc31 kc32 kc33 kc34 kc35 kc36 kc37 kc38 kc39 kz kt kn3 kn4 kn18 kn21 kn23 kn24 kn25 kn26 kn27 kn29 kn30 kr0_0 kr0_1 kr0_2 kr0_3 kr0_4 kr0_5 kr0_7 kr0_8 kr0_9 kr0_10 kr1_0 kr2_0 kr5_0 kr5_1 kr6_0 kr6_1 kr7_0 kr7_1 kr8_0 kr9_0 kr10_0 kr11_0 kr12_0 kr13_0 kr14_0 kr15_0 kr16_0 kr17_0 kr19_0 kr19_1 kr22_0 kr22_1 kr22_2 kr22_3 kr22_4 kr22_5 kr22_7 kr22_8 kr25_0 kr25_1 kr25_2 kr26_0 kr26_1 kr26_2 kr29_0 kr29_1)
  (refine Cn_el vcn0 ?_; intros ki5_2 ki6_2 ki7_2 ki8_1 ki8_2 ki8_3 ki9_1 ki9_2 ki9_3 ki10_1 ki10_2 ki10_3 ki11_1 ki11_2 ki11_3 ki12_1 ki12_2 ki12_3 ki13_1 ki13_2 ki13_3 ki14_1 ki14_2 ki14_3 ki28_0 ki28_1 ki31_0 ki31_1 ki32_0 ki32_1 ki33_0 ki33_1 ki34_0 ki34_1 ki35_0 ki35_1 ki36_0 ki36_1)
  have hAe : ∀ i j, i < 40 → j < 40 → (A i = A j ↔ i = j) := hA
  by_cases ps : g_i h (A 15) 3 = 0
  all_goals simp only [o96_0, o96_1, o96_2, o96_5, o96_6, o96_7, o96_9, o96_12, o96_13, o96_60, o96_61, o96_64, o96_65, o96_66, o96_69, o96_70, o96_71, o96_74, o96_75, o96_76, o96_79, o96_80, o96_81, o96_84, o96_85, o96_86, o96_89, o96_92, o96_93, o96_96, o96_97, o96_98, o96_99, o96_102, o96_105, o96_106, o96_109, o96_110, o96_111, o96_112, o96_113, o96_114, o96_117, o96_120, o96_121, o96_124, o96_125, o96_128, c_lensOf_0, c_X3_rests, c_X5_checkChoice, mcs_0, Kn_v, Kn_0, Kn_x, true_and, and_true, or_true, not_true_eq_false, not_false_eq_true, false_implies, forall_const, if_true, if_false, and_self, Nat.reduceLeDiff, Nat.reduceSub, Nat.zero_le, Nat.le_refl, Int32.reduceLT, Option.some.injEq, kc0, kc15, kr0_7, lne, lti, Int.reduceLT, or_self, Int32.reduceLT, ps]

theorem c_leX1_0 {A : Nat → Nat} {h : MH} {Q : MR → MH → Prop} (R : Rl A h) : Ok 96 0 [.ref (A 0), .int 1, .int 0, mk0] [] h 2 12 Q ↔ Q (.inl (some (.int (g_i h (A 16) 4)))) h := by
  have R0 := R
  obtain ⟨vk, vcn, v0, v1, v2, vp, vl0, vl1, vlr, vsr, vc, tx⟩ := R0
  have vk0 := vk
  have vcn0 := vcn
  (refine K_el vk0 ?_; intros hA kc0 kc1 kc2 kc3 kc4 kc5 kc6 kc7 kc8 kc9 kc10 kc11 kc12 kc13 kc14 kc15 kc16 kc17 kc18 kc19 kc20 kc21 kc22 kc23 kc24 kc25 kc26 kc27 kc28 kc29 kc30 kc31 kc32 kc33 kc34 kc35 kc36 kc37 kc38 kc39 kz kt kn3 kn4 kn18 kn21 kn23 kn24 kn25 kn26 kn27 kn29 kn30 kr0_0 kr0_1 kr0_2 kr0_3 kr0_4 kr0_5 kr0_7 kr0_8 kr0_9 kr0_10 kr1_0 kr2_0 kr5_0 kr5_1 kr6_0 kr6_1 kr7_0 kr7_1 kr8_0 kr9_0 kr10_0 kr11_0 kr12_0 kr13_0 kr14_0 kr15_0 kr16_0 kr17_0 kr19_0 kr19_1 kr22_0 kr22_1 kr22_2 kr22_3 kr22_4 kr22_5 kr22_7 kr22_8 kr25_0 kr25_1 kr25_2 kr26_0 kr26_1 kr26_2 kr29_0 kr29_1)
  (refine Cn_el vcn0 ?_; intros ki5_2 ki6_2 ki7_2 ki8_1 ki8_2 ki8_3 ki9_1 ki9_2 ki9_3 ki10_1 ki10_2 ki10_3 ki11_1 ki11_2 ki11_3 ki12_1 ki12_2 ki12_3 ki13_1 ki13_2 ki13_3 ki14_1 ki14_2 ki14_3 ki28_0 ki28_1 ki31_0 ki31_1 ki32_0 ki32_1 ki33_0 ki33_1 ki34_0 ki34_1 ki35_0 ki35_1 ki36_0 ki36_1)
  have hAe : ∀ i j, i < 40 → j < 40 → (A i = A j ↔ i = j) := hA
  by_cases ps : g_i h (A 16) 3 = 0
  all_goals simp only [o96_0, o96_1, o96_2, o96_5, o96_6, o96_7, o96_9, o96_12, o96_13, o96_60, o96_61, o96_64, o96_65, o96_66, o96_69, o96_70, o96_71, o96_74, o96_75, o96_76, o96_79, o96_80, o96_81, o96_84, o96_85, o96_86, o96_89, o96_92, o96_93, o96_96, o96_97, o96_98, o96_99, o96_102, o96_105, o96_106, o96_109, o96_110, o96_111, o96_112, o96_113, o96_114, o96_117, o96_120, o96_121, o96_124, o96_125, o96_128, c_lensOf_1, c_X3_rests, c_X5_checkChoice, mcs_0, Kn_v, Kn_0, Kn_x, true_and, and_true, not_true_eq_false, not_false_eq_true, false_implies, forall_const, and_self, Nat.reduceLeDiff, Nat.reduceSub, Nat.zero_le, Nat.le_refl, i01, Int32.reduceLT, Option.some.injEq, kc0, kc16, kr0_8, lne, lti, Int.reduceLT, or_self, Int32.reduceLT, ps]

theorem c_leX1_1 {A : Nat → Nat} {h : MH} {Q : MR → MH → Prop} (R : Rl A h) : Ok 96 0 [.ref (A 0), .int 1, .int 1, mk0] [] h 2 12 Q ↔ Q (.inl (some (.int (g_i h (A 16) 5)))) h := by
  have R0 := R
  obtain ⟨vk, vcn, v0, v1, v2, vp, vl0, vl1, vlr, vsr, vc, tx⟩ := R0
  have vk0 := vk
  have vcn0 := vcn
  (refine K_el vk0 ?_; intros hA kc0 kc1 kc2 kc3 kc4 kc5 kc6 kc7 kc8 kc9 kc10 kc11 kc12 kc13 kc14 kc15 kc16 kc17 kc18 kc19 kc20 kc21 kc22 kc23 kc24 kc25 kc26 kc27 kc28 kc29 kc30 kc31 kc32 kc33 kc34 kc35 kc36 kc37 kc38 kc39 kz kt kn3 kn4 kn18 kn21 kn23 kn24 kn25 kn26 kn27 kn29 kn30 kr0_0 kr0_1 kr0_2 kr0_3 kr0_4 kr0_5 kr0_7 kr0_8 kr0_9 kr0_10 kr1_0 kr2_0 kr5_0 kr5_1 kr6_0 kr6_1 kr7_0 kr7_1 kr8_0 kr9_0 kr10_0 kr11_0 kr12_0 kr13_0 kr14_0 kr15_0 kr16_0 kr17_0 kr19_0 kr19_1 kr22_0 kr22_1 kr22_2 kr22_3 kr22_4 kr22_5 kr22_7 kr22_8 kr25_0 kr25_1 kr25_2 kr26_0 kr26_1 kr26_2 kr29_0 kr29_1)
  (refine Cn_el vcn0 ?_; intros ki5_2 ki6_2 ki7_2 ki8_1 ki8_2 ki8_3 ki9_1 ki9_2 ki9_3 ki10_1 ki10_2 ki10_3 ki11_1 ki11_2 ki11_3 ki12_1 ki12_2 ki12_3 ki13_1 ki13_2 ki13_3 ki14_1 ki14_2 ki14_3 ki28_0 ki28_1 ki31_0 ki31_1 ki32_0 ki32_1 ki33_0 ki33_1 ki34_0 ki34_1 ki35_0 ki35_1 ki36_0 ki36_1)
  have hAe : ∀ i j, i < 40 → j < 40 → (A i = A j ↔ i = j) := hA
  by_cases ps : g_i h (A 16) 3 = 0
  all_goals simp only [o96_0, o96_1, o96_2, o96_5, o96_6, o96_7, o96_9, o96_12, o96_13, o96_60, o96_61, o96_64, o96_65, o96_66, o96_69, o96_70, o96_71, o96_74, o96_75, o96_76, o96_79, o96_80, o96_81, o96_84, o96_85, o96_86, o96_89, o96_92, o96_93, o96_96, o96_97, o96_98, o96_99, o96_102, o96_105, o96_106, o96_109, o96_110, o96_111, o96_112, o96_113, o96_114, o96_117, o96_120, o96_121, o96_124, o96_125, o96_128, c_lensOf_1, c_X3_rests, c_X5_checkChoice, mcs_0, Kn_v, Kn_0, Kn_x, true_and, and_true, not_true_eq_false, not_false_eq_true, false_implies, forall_const, and_self, Nat.reduceLeDiff, Nat.reduceSub, Nat.zero_le, Nat.le_refl, i10, Int32.reduceLT, Option.some.injEq, kc0, kc16, kr0_8, lne, lti, Int.reduceLT, or_self, Int32.reduceLT, ps]

theorem c_leX1_2 {A : Nat → Nat} {h : MH} {Q : MR → MH → Prop} (R : Rl A h) : Ok 96 0 [.ref (A 0), .int 1, .int 2, mk0] [] h 2 12 Q ↔ Q (.inl (some (.int (g_i h (A 16) 2)))) h := by
  have R0 := R
  obtain ⟨vk, vcn, v0, v1, v2, vp, vl0, vl1, vlr, vsr, vc, tx⟩ := R0
  have vk0 := vk
  have vcn0 := vcn
  (refine K_el vk0 ?_; intros hA kc0 kc1 kc2 kc3 kc4 kc5 kc6 kc7 kc8 kc9 kc10 kc11 kc12 kc13 kc14 kc15 kc16 kc17 kc18 kc19 kc20 kc21 kc22 kc23 kc24 kc25 kc26 kc27 kc28 kc29 kc30 kc31 kc32 kc33 kc34 kc35 kc36 kc37 kc38 kc39 kz kt kn3 kn4 kn18 kn21 kn23 kn24 kn25 kn26 kn27 kn29 kn30 kr0_0 kr0_1 kr0_2 kr0_3 kr0_4 kr0_5 kr0_7 kr0_8 kr0_9 kr0_10 kr1_0 kr2_0 kr5_0 kr5_1 kr6_0 kr6_1 kr7_0 kr7_1 kr8_0 kr9_0 kr10_0 kr11_0 kr12_0 kr13_0 kr14_0 kr15_0 kr16_0 kr17_0 kr19_0 kr19_1 kr22_0 kr22_1 kr22_2 kr22_3 kr22_4 kr22_5 kr22_7 kr22_8 kr25_0 kr25_1 kr25_2 kr26_0 kr26_1 kr26_2 kr29_0 kr29_1)
  (refine Cn_el vcn0 ?_; intros ki5_2 ki6_2 ki7_2 ki8_1 ki8_2 ki8_3 ki9_1 ki9_2 ki9_3 ki10_1 ki10_2 ki10_3 ki11_1 ki11_2 ki11_3 ki12_1 ki12_2 ki12_3 ki13_1 ki13_2 ki13_3 ki14_1 ki14_2 ki14_3 ki28_0 ki28_1 ki31_0 ki31_1 ki32_0 ki32_1 ki33_0 ki33_1 ki34_0 ki34_1 ki35_0 ki35_1 ki36_0 ki36_1)
  have hAe : ∀ i j, i < 40 → j < 40 → (A i = A j ↔ i = j) := hA
  by_cases ps : g_i h (A 16) 3 = 0
  all_goals simp only [o96_0, o96_1, o96_2, o96_5, o96_6, o96_7, o96_9, o96_12, o96_13, o96_60, o96_61, o96_64, o96_65, o96_66, o96_69, o96_70, o96_71, o96_74, o96_75, o96_76, o96_79, o96_80, o96_81, o96_84, o96_85, o96_86, o96_89, o96_92, o96_93, o96_96, o96_97, o96_98, o96_99, o96_102, o96_105, o96_106, o96_109, o96_110, o96_111, o96_112, o96_113, o96_114, o96_117, o96_120, o96_121, o96_124, o96_125, o96_128, c_lensOf_1, c_X3_rests, c_X5_checkChoice, mcs_0, Kn_v, Kn_0, Kn_x, true_and, and_true, not_true_eq_false, not_false_eq_true, false_implies, forall_const, and_self, Nat.reduceLeDiff, Nat.reduceSub, Nat.zero_le, Nat.le_refl, Int32.reduceLT, Option.some.injEq, i20, kc0, kc16, kr0_8, lne, lti, Int.reduceLT, or_self, Int32.reduceLT, ps]

theorem c_leX1_3 {A : Nat → Nat} {h : MH} {Q : MR → MH → Prop} (R : Rl A h) : Ok 96 0 [.ref (A 0), .int 1, .int 3, mk0] [] h 2 12 Q ↔ Q (.inl (some (.int (g_i h (A 16) 5 - g_i h (A 16) 4)))) h := by
  have R0 := R
  obtain ⟨vk, vcn, v0, v1, v2, vp, vl0, vl1, vlr, vsr, vc, tx⟩ := R0
  have vk0 := vk
  have vcn0 := vcn
  (refine K_el vk0 ?_; intros hA kc0 kc1 kc2 kc3 kc4 kc5 kc6 kc7 kc8 kc9 kc10 kc11 kc12 kc13 kc14 kc15 kc16 kc17 kc18 kc19 kc20 kc21 kc22 kc23 kc24 kc25 kc26 kc27 kc28 kc29 kc30 kc31 kc32 kc33 kc34 kc35 kc36 kc37 kc38 kc39 kz kt kn3 kn4 kn18 kn21 kn23 kn24 kn25 kn26 kn27 kn29 kn30 kr0_0 kr0_1 kr0_2 kr0_3 kr0_4 kr0_5 kr0_7 kr0_8 kr0_9 kr0_10 kr1_0 kr2_0 kr5_0 kr5_1 kr6_0 kr6_1 kr7_0 kr7_1 kr8_0 kr9_0 kr10_0 kr11_0 kr12_0 kr13_0 kr14_0 kr15_0 kr16_0 kr17_0 kr19_0 kr19_1 kr22_0 kr22_1 kr22_2 kr22_3 kr22_4 kr22_5 kr22_7 kr22_8 kr25_0 kr25_1 kr25_2 kr26_0 kr26_1 kr26_2 kr29_0 kr29_1)
  (refine Cn_el vcn0 ?_; intros ki5_2 ki6_2 ki7_2 ki8_1 ki8_2 ki8_3 ki9_1 ki9_2 ki9_3 ki10_1 ki10_2 ki10_3 ki11_1 ki11_2 ki11_3 ki12_1 ki12_2 ki12_3 ki13_1 ki13_2 ki13_3 ki14_1 ki14_2 ki14_3 ki28_0 ki28_1 ki31_0 ki31_1 ki32_0 ki32_1 ki33_0 ki33_1 ki34_0 ki34_1 ki35_0 ki35_1 ki36_0 ki36_1)
  have hAe : ∀ i j, i < 40 → j < 40 → (A i = A j ↔ i = j) := hA
  by_cases ps : g_i h (A 16) 3 = 0
  all_goals simp only [o96_0, o96_1, o96_2, o96_5, o96_6, o96_7, o96_9, o96_12, o96_13, o96_60, o96_61, o96_64, o96_65, o96_66, o96_69, o96_70, o96_71, o96_74, o96_75, o96_76, o96_79, o96_80, o96_81, o96_84, o96_85, o96_86, o96_89, o96_92, o96_93, o96_96, o96_97, o96_98, o96_99, o96_102, o96_105, o96_106, o96_109, o96_110, o96_111, o96_112, o96_113, o96_114, o96_117, o96_120, o96_121, o96_124, o96_125, o96_128, c_lensOf_1, c_X3_rests, c_X5_checkChoice, mcs_0, Kn_v, Kn_0, Kn_x, true_and, and_true, not_true_eq_false, not_false_eq_true, false_implies, forall_const, and_self, Nat.reduceLeDiff, Nat.reduceSub, Nat.zero_le, Nat.le_refl, Int32.reduceLT, Option.some.injEq, i30, kc0, kc16, kr0_8, lne, lti, Int.reduceLT, or_self, Int32.reduceLT, ps]

theorem c_leX1_4 {A : Nat → Nat} {h : MH} {Q : MR → MH → Prop} (R : Rl A h) : Ok 96 0 [.ref (A 0), .int 1, .int 4, mk0] [] h 2 12 Q ↔ Q (.inl (some (.int (g_i h (A 16) 6)))) h := by
  have R0 := R
  obtain ⟨vk, vcn, v0, v1, v2, vp, vl0, vl1, vlr, vsr, vc, tx⟩ := R0
  have vk0 := vk
  have vcn0 := vcn
  (refine K_el vk0 ?_; intros hA kc0 kc1 kc2 kc3 kc4 kc5 kc6 kc7 kc8 kc9 kc10 kc11 kc12 kc13 kc14 kc15 kc16 kc17 kc18 kc19 kc20 kc21 kc22 kc23 kc24 kc25 kc26 kc27 kc28 kc29 kc30 kc31 kc32 kc33 kc34 kc35 kc36 kc37 kc38 kc39 kz kt kn3 kn4 kn18 kn21 kn23 kn24 kn25 kn26 kn27 kn29 kn30 kr0_0 kr0_1 kr0_2 kr0_3 kr0_4 kr0_5 kr0_7 kr0_8 kr0_9 kr0_10 kr1_0 kr2_0 kr5_0 kr5_1 kr6_0 kr6_1 kr7_0 kr7_1 kr8_0 kr9_0 kr10_0 kr11_0 kr12_0 kr13_0 kr14_0 kr15_0 kr16_0 kr17_0 kr19_0 kr19_1 kr22_0 kr22_1 kr22_2 kr22_3 kr22_4 kr22_5 kr22_7 kr22_8 kr25_0 kr25_1 kr25_2 kr26_0 kr26_1 kr26_2 kr29_0 kr29_1)
  (refine Cn_el vcn0 ?_; intros ki5_2 ki6_2 ki7_2 ki8_1 ki8_2 ki8_3 ki9_1 ki9_2 ki9_3 ki10_1 ki10_2 ki10_3 ki11_1 ki11_2 ki11_3 ki12_1 ki12_2 ki12_3 ki13_1 ki13_2 ki13_3 ki14_1 ki14_2 ki14_3 ki28_0 ki28_1 ki31_0 ki31_1 ki32_0 ki32_1 ki33_0 ki33_1 ki34_0 ki34_1 ki35_0 ki35_1 ki36_0 ki36_1)
  have hAe : ∀ i j, i < 40 → j < 40 → (A i = A j ↔ i = j) := hA
  by_cases ps : g_i h (A 16) 3 = 0
  all_goals simp only [o96_0, o96_1, o96_2, o96_5, o96_6, o96_7, o96_9, o96_12, o96_13, o96_60, o96_61, o96_64, o96_65, o96_66, o96_69, o96_70, o96_71, o96_74, o96_75, o96_76, o96_79, o96_80, o96_81, o96_84, o96_85, o96_86, o96_89, o96_92, o96_93, o96_96, o96_97, o96_98, o96_99, o96_102, o96_105, o96_106, o96_109, o96_110, o96_111, o96_112, o96_113, o96_114, o96_117, o96_120, o96_121, o96_124, o96_125, o96_128, c_lensOf_1, c_X3_rests, c_X5_checkChoice, mcs_0, Kn_v, Kn_0, Kn_x, true_and, and_true, not_true_eq_false, not_false_eq_true, false_implies, forall_const, and_self, Nat.reduceLeDiff, Nat.reduceSub, Nat.zero_le, Nat.le_refl, Int32.reduceLT, Option.some.injEq, kc0, kc16, kr0_8, lne, lti, Int.reduceLT, or_self, Int32.reduceLT, ps]

theorem c_leX1_5 {A : Nat → Nat} {h : MH} {Q : MR → MH → Prop} (R : Rl A h) : Ok 96 0 [.ref (A 0), .int 1, .int 5, mk0] [] h 2 12 Q ↔ Q (.inl (some (.int (if g_i h (A 16) 3 = 0 then 0 else 1)))) h := by
  have R0 := R
  obtain ⟨vk, vcn, v0, v1, v2, vp, vl0, vl1, vlr, vsr, vc, tx⟩ := R0
  have vk0 := vk
  have vcn0 := vcn
  (refine K_el vk0 ?_; intros hA kc0 kc1 kc2 kc3 kc4 kc5 kc6 kc7 kc8 kc9 kc10 kc11 kc12 kc13 kc14 kc15 kc16 kc17 kc18 kc19 kc20 kc21 kc22 kc23 kc24 kc25 kc26 kc27 kc28 kc29 kc30 kc31 kc32 kc33 kc34 kc35 kc36 kc37 kc38 kc39 kz kt kn3 kn4 kn18 kn21 kn23 kn24 kn25 kn26 kn27 kn29 kn30 kr0_0 kr0_1 kr0_2 kr0_3 kr0_4 kr0_5 kr0_7 kr0_8 kr0_9 kr0_10 kr1_0 kr2_0 kr5_0 kr5_1 kr6_0 kr6_1 kr7_0 kr7_1 kr8_0 kr9_0 kr10_0 kr11_0 kr12_0 kr13_0 kr14_0 kr15_0 kr16_0 kr17_0 kr19_0 kr19_1 kr22_0 kr22_1 kr22_2 kr22_3 kr22_4 kr22_5 kr22_7 kr22_8 kr25_0 kr25_1 kr25_2 kr26_0 kr26_1 kr26_2 kr29_0 kr29_1)
  (refine Cn_el vcn0 ?_; intros ki5_2 ki6_2 ki7_2 ki8_1 ki8_2 ki8_3 ki9_1 ki9_2 ki9_3 ki10_1 ki10_2 ki10_3 ki11_1 ki11_2 ki11_3 ki12_1 ki12_2 ki12_3 ki13_1 ki13_2 ki13_3 ki14_1 ki14_2 ki14_3 ki28_0 ki28_1 ki31_0 ki31_1 ki32_0 ki32_1 ki33_0 ki33_1 ki34_0 ki34_1 ki35_0 ki35_1 ki36_0 ki36_1)
  have hAe : ∀ i j, i < 40 → j < 40 → (A i = A j ↔ i = j) := hA
  by_cases ps : g_i h (A 16) 3 = 0
  all_goals simp only [o96_0, o96_1, o96_2, o96_5, o96_6, o96_7, o96_9, o96_12, o96_13, o96_60, o96_61, o96_64, o96_65, o96_66, o96_69, o96_70, o96_71, o96_74, o96_75, o96_76, o96_79, o96_80, o96_81, o96_84, o96_85, o96_86, o96_89, o96_92, o96_93, o96_96, o96_97, o96_98, o96_99, o96_102, o96_105, o96_106, o96_109, o96_110, o96_111, o96_112, o96_113, o96_114, o96_117, o96_120, o96_121, o96_124, o96_125, o96_128, c_lensOf_1, c_X3_rests, c_X5_checkChoice, mcs_0, Kn_v, Kn_0, Kn_x, true_and, and_true, not_true_eq_false, not_false_eq_true, false_implies, forall_const, if_true, if_false, and_self, Nat.reduceLeDiff, Nat.reduceSub, Nat.zero_le, Nat.le_refl, Int32.reduceLT, Option.some.injEq, kc0, kc16, kr0_8, lne, lti, Int.reduceLT, or_self, Int32.reduceLT, ps]

theorem c_leX1_6 {A : Nat → Nat} {h : MH} {Q : MR → MH → Prop} (R : Rl A h) : Ok 96 0 [.ref (A 0), .int 1, .int 6, mk0] [] h 2 12 Q ↔ Q (.inl (some (.int (if g_i h (A 16) 3 = 0 then 1 else 0)))) h := by
  have R0 := R
  obtain ⟨vk, vcn, v0, v1, v2, vp, vl0, vl1, vlr, vsr, vc, tx⟩ := R0
  have vk0 := vk
  have vcn0 := vcn
  (refine K_el vk0 ?_; intros hA kc0 kc1 kc2 kc3 kc4 kc5 kc6 kc7 kc8 kc9 kc10 kc11 kc12 kc13 kc14 kc15 kc16 kc17 kc18 kc19 kc20 kc21 kc22 kc23 kc24 kc25 kc26 kc27 kc28 kc29 kc30 kc31 kc32 kc33 kc34 kc35 kc36 kc37 kc38 kc39 kz kt kn3 kn4 kn18 kn21 kn23 kn24 kn25 kn26 kn27 kn29 kn30 kr0_0 kr0_1 kr0_2 kr0_3 kr0_4 kr0_5 kr0_7 kr0_8 kr0_9 kr0_10 kr1_0 kr2_0 kr5_0 kr5_1 kr6_0 kr6_1 kr7_0 kr7_1 kr8_0 kr9_0 kr10_0 kr11_0 kr12_0 kr13_0 kr14_0 kr15_0 kr16_0 kr17_0 kr19_0 kr19_1 kr22_0 kr22_1 kr22_2 kr22_3 kr22_4 kr22_5 kr22_7 kr22_8 kr25_0 kr25_1 kr25_2 kr26_0 kr26_1 kr26_2 kr29_0 kr29_1)
  (refine Cn_el vcn0 ?_; intros ki5_2 ki6_2 ki7_2 ki8_1 ki8_2 ki8_3 ki9_1 ki9_2 ki9_3 ki10_1 ki10_2 ki10_3 ki11_1 ki11_2 ki11_3 ki12_1 ki12_2 ki12_3 ki13_1 ki13_2 ki13_3 ki14_1 ki14_2 ki14_3 ki28_0 ki28_1 ki31_0 ki31_1 ki32_0 ki32_1 ki33_0 ki33_1 ki34_0 ki34_1 ki35_0 ki35_1 ki36_0 ki36_1)
  have hAe : ∀ i j, i < 40 → j < 40 → (A i = A j ↔ i = j) := hA
  by_cases ps : g_i h (A 16) 3 = 0
  all_goals simp only [o96_0, o96_1, o96_2, o96_5, o96_6, o96_7, o96_9, o96_12, o96_13, o96_60, o96_61, o96_64, o96_65, o96_66, o96_69, o96_70, o96_71, o96_74, o96_75, o96_76, o96_79, o96_80, o96_81, o96_84, o96_85, o96_86, o96_89, o96_92, o96_93, o96_96, o96_97, o96_98, o96_99, o96_102, o96_105, o96_106, o96_109, o96_110, o96_111, o96_112, o96_113, o96_114, o96_117, o96_120, o96_121, o96_124, o96_125, o96_128, c_lensOf_1, c_X3_rests, c_X5_checkChoice, mcs_0, Kn_v, Kn_0, Kn_x, true_and, and_true, not_true_eq_false, not_false_eq_true, false_implies, forall_const, if_true, if_false, Nat.reduceLeDiff, Nat.reduceSub, Nat.zero_le, Nat.le_refl, Int32.reduceLT, Option.some.injEq, kc0, kc16, kr0_8, lne, lti, Int.reduceLT, or_self, Int32.reduceLT, ps]

theorem c_leX1_7 {A : Nat → Nat} {h : MH} {Q : MR → MH → Prop} (R : Rl A h) : Ok 96 0 [.ref (A 0), .int 1, .int 7, mk0] [] h 2 12 Q ↔ Q (.inl (some (.int (0)))) h := by
  have R0 := R
  obtain ⟨vk, vcn, v0, v1, v2, vp, vl0, vl1, vlr, vsr, vc, tx⟩ := R0
  have vk0 := vk
  have vcn0 := vcn
  (refine K_el vk0 ?_; intros hA kc0 kc1 kc2 kc3 kc4 kc5 kc6 kc7 kc8 kc9 kc10 kc11 kc12 kc13 kc14 kc15 kc16 kc17 kc18 kc19 kc20 kc21 kc22 kc23 kc24 kc25 kc26 kc27 kc28 kc29 kc30 kc31 kc32 kc33 kc34 kc35 kc36 kc37 kc38 kc39 kz kt kn3 kn4 kn18 kn21 kn23 kn24 kn25 kn26 kn27 kn29 kn30 kr0_0 kr0_1 kr0_2 kr0_3 kr0_4 kr0_5 kr0_7 kr0_8 kr0_9 kr0_10 kr1_0 kr2_0 kr5_0 kr5_1 kr6_0 kr6_1 kr7_0 kr7_1 kr8_0 kr9_0 kr10_0 kr11_0 kr12_0 kr13_0 kr14_0 kr15_0 kr16_0 kr17_0 kr19_0 kr19_1 kr22_0 kr22_1 kr22_2 kr22_3 kr22_4 kr22_5 kr22_7 kr22_8 kr25_0 kr25_1 kr25_2 kr26_0 kr26_1 kr26_2 kr29_0 kr29_1)
  (refine Cn_el vcn0 ?_; intros ki5_2 ki6_2 ki7_2 ki8_1 ki8_2 ki8_3 ki9_1 ki9_2 ki9_3 ki10_1 ki10_2 ki10_3 ki11_1 ki11_2 ki11_3 ki12_1 ki12_2 ki12_3 ki13_1 ki13_2 ki13_3 ki14_1 ki14_2 ki14_3 ki28_0 ki28_1 ki31_0 ki31_1 ki32_0 ki32_1 ki33_0 ki33_1 ki34_0 ki34_1 ki35_0 ki35_1 ki36_0 ki36_1)
  have hAe : ∀ i j, i < 40 → j < 40 → (A i = A j ↔ i = j) := hA
  by_cases ps : g_i h (A 16) 3 = 0
  all_goals simp only [o96_0, o96_1, o96_2, o96_5, o96_6, o96_7, o96_9, o96_12, o96_13, o96_60, o96_61, o96_64, o96_65, o96_66, o96_69, o96_70, o96_71, o96_74, o96_75, o96_76, o96_79, o96_80, o96_81, o96_84, o96_85, o96_86, o96_89, o96_92, o96_93, o96_96, o96_97, o96_98, o96_99, o96_102, o96_105, o96_106, o96_109, o96_110, o96_111, o96_112, o96_113, o96_114, o96_117, o96_120, o96_121, o96_124, o96_125, o96_128, c_lensOf_1, c_X3_rests, c_X5_checkChoice, mcs_0, Kn_v, Kn_0, Kn_x, true_and, and_true, not_true_eq_false, not_false_eq_true, false_implies, forall_const, Nat.reduceLeDiff, Nat.reduceSub, Nat.zero_le, Nat.le_refl, Int32.reduceLT, Option.some.injEq, kc0, kc16, kr0_8, lne, lti, Int.reduceLT, or_self, Int32.reduceLT, ps]

theorem c_leX1_8 {A : Nat → Nat} {h : MH} {Q : MR → MH → Prop} (R : Rl A h) : Ok 96 0 [.ref (A 0), .int 1, .int 8, mk0] [] h 2 12 Q ↔ Q (.inl (some (.int (if g_i h (A 16) 3 = 0 then g_i h (A 16) 1 else -1)))) h := by
  have R0 := R
  obtain ⟨vk, vcn, v0, v1, v2, vp, vl0, vl1, vlr, vsr, vc, tx⟩ := R0
  have vk0 := vk
  have vcn0 := vcn
  (refine K_el vk0 ?_; intros hA kc0 kc1 kc2 kc3 kc4 kc5 kc6 kc7 kc8 kc9 kc10 kc11 kc12 kc13 kc14 kc15 kc16 kc17 kc18 kc19 kc20 kc21 kc22 kc23 kc24 kc25 kc26 kc27 kc28 kc29 kc30 kc31 kc32 kc33 kc34 kc35 kc36 kc37 kc38 kc39 kz kt kn3 kn4 kn18 kn21 kn23 kn24 kn25 kn26 kn27 kn29 kn30 kr0_0 kr0_1 kr0_2 kr0_3 kr0_4 kr0_5 kr0_7 kr0_8 kr0_9 kr0_10 kr1_0 kr2_0 kr5_0 kr5_1 kr6_0 kr6_1 kr7_0 kr7_1 kr8_0 kr9_0 kr10_0 kr11_0 kr12_0 kr13_0 kr14_0 kr15_0 kr16_0 kr17_0 kr19_0 kr19_1 kr22_0 kr22_1 kr22_2 kr22_3 kr22_4 kr22_5 kr22_7 kr22_8 kr25_0 kr25_1 kr25_2 kr26_0 kr26_1 kr26_2 kr29_0 kr29_1)
  (refine Cn_el vcn0 ?_; intros ki5_2 ki6_2 ki7_2 ki8_1 ki8_2 ki8_3 ki9_1 ki9_2 ki9_3 ki10_1 ki10_2 ki10_3 ki11_1 ki11_2 ki11_3 ki12_1 ki12_2 ki12_3 ki13_1 ki13_2 ki13_3 ki14_1 ki14_2 ki14_3 ki28_0 ki28_1 ki31_0 ki31_1 ki32_0 ki32_1 ki33_0 ki33_1 ki34_0 ki34_1 ki35_0 ki35_1 ki36_0 ki36_1)
  have hAe : ∀ i j, i < 40 → j < 40 → (A i = A j ↔ i = j) := hA
  by_cases ps : g_i h (A 16) 3 = 0
  all_goals simp only [o96_0, o96_1, o96_2, o96_5, o96_6, o96_7, o96_9, o96_12, o96_13, o96_60, o96_61, o96_64, o96_65, o96_66, o96_69, o96_70, o96_71, o96_74, o96_75, o96_76, o96_79, o96_80, o96_81, o96_84, o96_85, o96_86, o96_89, o96_92, o96_93, o96_96, o96_97, o96_98, o96_99, o96_102, o96_105, o96_106, o96_109, o96_110, o96_111, o96_112, o96_113, o96_114, o96_117, o96_120, o96_121, o96_124, o96_125, o96_128, c_lensOf_1, c_X3_rests, c_X5_checkChoice, mcs_0, Kn_v, Kn_0, Kn_x, true_and, and_true, or_true, not_true_eq_false, not_false_eq_true, false_implies, forall_const, if_true, if_false, and_self, Nat.reduceLeDiff, Nat.reduceSub, Nat.zero_le, Nat.le_refl, Int32.reduceLT, Option.some.injEq, kc0, kc16, kr0_8, lne, lti, Int.reduceLT, or_self, Int32.reduceLT, ps]

def dE (A : Nat → Nat) (h : MH) (d : Int64) : Int64 := dg1 (dg1 (dg1 (dg1 (dg1 (dg1 (dg1 (dg1 (dg1 (dg1 (dg1 (dg1 (dg1 (dg1 (dg1 (dg1 (dg1 (dg1 (d) (g_i h (A 15) 4)) (g_i h (A 15) 5)) (g_i h (A 15) 2)) (g_i h (A 15) 5 - g_i h (A 15) 4)) (g_i h (A 15) 6)) (if g_i h (A 15) 3 = 0 then 0 else 1)) (if g_i h (A 15) 3 = 0 then 1 else 0)) (0)) (if g_i h (A 15) 3 = 0 then g_i h (A 15) 1 else -1)) (g_i h (A 16) 4)) (g_i h (A 16) 5)) (g_i h (A 16) 2)) (g_i h (A 16) 5 - g_i h (A 16) 4)) (g_i h (A 16) 6)) (if g_i h (A 16) 3 = 0 then 0 else 1)) (if g_i h (A 16) 3 = 0 then 1 else 0)) (0)) (if g_i h (A 16) 3 = 0 then g_i h (A 16) 1 else -1)
set_option maxHeartbeats 4000000 in
theorem c_wE {A : Nat → Nat} {h : MH} {d : Int64} {Q : MR → MH → Prop} (R : Rl A h) : Ok 148 0 [.ref (A 0), .long d, mk0, mk0, mk0, mk0, mk0] [] h 36 216 Q ↔ Q (.inl (some (.long (dE A h d)))) h := by
  have R0 := R
  obtain ⟨vk, vcn, v0, v1, v2, vp, vl0, vl1, vlr, vsr, vc, tx⟩ := R0
  have vk0 := vk
  have vcn0 := vcn
  (refine K_el vk0 ?_; intros hA kc0 kc1 kc2 kc3 kc4 kc5 kc6 kc7 kc8 kc9 kc10 kc11 kc12 kc13 kc14 kc15 kc16 kc17 kc18 kc19 kc20 kc21 kc22 kc23 kc24 kc25 kc26 kc27 kc28 kc29 kc30 kc31 kc32 kc33 kc34 kc35 kc36 kc37 kc38 kc39 kz kt kn3 kn4 kn18 kn21 kn23 kn24 kn25 kn26 kn27 kn29 kn30 kr0_0 kr0_1 kr0_2 kr0_3 kr0_4 kr0_5 kr0_7 kr0_8 kr0_9 kr0_10 kr1_0 kr2_0 kr5_0 kr5_1 kr6_0 kr6_1 kr7_0 kr7_1 kr8_0 kr9_0 kr10_0 kr11_0 kr12_0 kr13_0 kr14_0 kr15_0 kr16_0 kr17_0 kr19_0 kr19_1 kr22_0 kr22_1 kr22_2 kr22_3 kr22_4 kr22_5 kr22_7 kr22_8 kr25_0 kr25_1 kr25_2 kr26_0 kr26_1 kr26_2 kr29_0 kr29_1)
  (refine Cn_el vcn0 ?_; intros ki5_2 ki6_2 ki7_2 ki8_1 ki8_2 ki8_3 ki9_1 ki9_2 ki9_3 ki10_1 ki10_2 ki10_3 ki11_1 ki11_2 ki11_3 ki12_1 ki12_2 ki12_3 ki13_1 ki13_2 ki13_3 ki14_1 ki14_2 ki14_3 ki28_0 ki28_1 ki31_0 ki31_1 ki32_0 ki32_1 ki33_0 ki33_1 ki34_0 ki34_1 ki35_0 ki35_1 ki36_0 ki36_1)
  have hAe : ∀ i j, i < 40 → j < 40 → (A i = A j ↔ i = j) := hA
  simp only [o148_0, o148_1, o148_2, o148_3]
  rw [o148_5]
  simp only [o148_7, o148_8, o148_11, o148_12, o148_47, o148_48, true_and, not_true_eq_false, not_false_eq_true, false_implies, forall_const, lt_le, Int32.reduceLT, Int32.reduceLT]
  rw [o148_14]
  simp only [o148_16, o148_18, o148_21, o148_22, o148_23, o148_25, o148_27, o148_30, o148_31, o148_34, o148_35, o148_38, o148_41, o148_44, c_leX0_0 R, o143_0, o143_1, o143_4, o143_5, o143_6, o143_7, mcs_0, mcs_l, Kn_v, true_and, not_false_eq_true, false_implies, forall_const, Nat.reduceLeDiff, Nat.reduceSub, Nat.reduceAdd, Nat.zero_le, Int32.reduceLT, Int32.reduceAdd, kc0, Int32.reduceLT]
  rw [o148_14]
  simp only [o148_16, o148_18, o148_21, o148_22, o148_23, o148_25, o148_27, o148_30, o148_31, o148_34, o148_35, o148_38, o148_41, o148_44, c_leX0_1 R, o143_0, o143_1, o143_4, o143_5, o143_6, o143_7, mcs_0, mcs_l, Kn_v, true_and, not_false_eq_true, false_implies, forall_const, Nat.reduceLeDiff, Nat.reduceSub, Nat.reduceAdd, Nat.zero_le, Int32.reduceLT, Int32.reduceAdd, kc0, Int32.reduceLT]
  rw [o148_14]
  simp only [o148_16, o148_18, o148_21, o148_22, o148_23, o148_25, o148_27, o148_30, o148_31, o148_34, o148_35, o148_38, o148_41, o148_44, c_leX0_2 R, o143_0, o143_1, o143_4, o143_5, o143_6, o143_7, mcs_0, mcs_l, Kn_v, true_and, not_false_eq_true, false_implies, forall_const, Nat.reduceLeDiff, Nat.reduceSub, Nat.reduceAdd, Nat.zero_le, Int32.reduceLT, Int32.reduceAdd, kc0, Int32.reduceLT]
  rw [o148_14]
  simp only [o148_16, o148_18, o148_21, o148_22, o148_23, o148_25, o148_27, o148_30, o148_31, o148_34, o148_35, o148_38, o148_41, o148_44, c_leX0_3 R, o143_0, o143_1, o143_4, o143_5, o143_6, o143_7, mcs_0, mcs_l, Kn_v, true_and, not_false_eq_true, false_implies, forall_const, Nat.reduceLeDiff, Nat.reduceSub, Nat.reduceAdd, Nat.zero_le, Int32.reduceLT, Int32.reduceAdd, kc0, Int32.reduceLT]
  rw [o148_14]
  simp only [o148_16, o148_18, o148_21, o148_22, o148_23, o148_25, o148_27, o148_30, o148_31, o148_34, o148_35, o148_38, o148_41, o148_44, c_leX0_4 R, o143_0, o143_1, o143_4, o143_5, o143_6, o143_7, mcs_0, mcs_l, Kn_v, true_and, not_false_eq_true, false_implies, forall_const, Nat.reduceLeDiff, Nat.reduceSub, Nat.reduceAdd, Nat.zero_le, Int32.reduceLT, Int32.reduceAdd, kc0, Int32.reduceLT]
  rw [o148_14]
  simp only [o148_16, o148_18, o148_21, o148_22, o148_23, o148_25, o148_27, o148_30, o148_31, o148_34, o148_35, o148_38, o148_41, o148_44, c_leX0_5 R, o143_0, o143_1, o143_4, o143_5, o143_6, o143_7, mcs_0, mcs_l, Kn_v, true_and, not_false_eq_true, false_implies, forall_const, Nat.reduceLeDiff, Nat.reduceSub, Nat.reduceAdd, Nat.zero_le, Int32.reduceLT, Int32.reduceAdd, kc0, Int32.reduceLT]
  rw [o148_14]
  simp only [o148_16, o148_18, o148_21, o148_22, o148_23, o148_25, o148_27, o148_30, o148_31, o148_34, o148_35, o148_38, o148_41, o148_44, c_leX0_6 R, o143_0, o143_1, o143_4, o143_5, o143_6, o143_7, mcs_0, mcs_l, Kn_v, true_and, not_false_eq_true, false_implies, forall_const, Nat.reduceLeDiff, Nat.reduceSub, Nat.reduceAdd, Nat.zero_le, Int32.reduceLT, Int32.reduceAdd, kc0, Int32.reduceLT]
  rw [o148_14]
  simp only [o148_16, o148_18, o148_21, o148_22, o148_23, o148_25, o148_27, o148_30, o148_31, o148_34, o148_35, o148_38, o148_41, o148_44, c_leX0_7 R, o143_0, o143_1, o143_4, o143_5, o143_6, o143_7, mcs_0, mcs_l, Kn_v, true_and, not_false_eq_true, false_implies, forall_const, Nat.reduceLeDiff, Nat.reduceSub, Nat.reduceAdd, Nat.zero_le, Int32.reduceLT, Int32.reduceAdd, kc0, Int32.reduceLT]
  rw [o148_14]
  simp only [o148_16, o148_18, o148_21, o148_22, o148_23, o148_25, o148_27, o148_30, o148_31, o148_34, o148_35, o148_38, o148_41, o148_44, c_leX0_8 R, o143_0, o143_1, o143_4, o143_5, o143_6, o143_7, mcs_0, mcs_l, Kn_v, true_and, not_false_eq_true, false_implies, forall_const, Nat.reduceLeDiff, Nat.reduceSub, Nat.reduceAdd, Nat.zero_le, Int32.reduceLT, Int32.reduceAdd, kc0, Int32.reduceLT]
  rw [o148_14]
  simp only [o148_16, o148_18, o148_21, o148_22, o148_23, o148_25, o148_27, o148_41, o148_44, mcs_0, mcs_l, true_and, and_true, not_true_eq_false, false_implies, forall_const, Nat.reduceLeDiff, Nat.reduceSub, Nat.reduceAdd, Int32.reduceLT, Int32.reduceAdd, kc0, Int32.reduceLT]
  rw [o148_5]
  simp only [o148_7, o148_8, o148_11, o148_12, o148_47, o148_48, true_and, not_true_eq_false, not_false_eq_true, false_implies, forall_const, lt_le, Int32.reduceLT, Int32.reduceLT]
  rw [o148_14]
  simp only [o148_16, o148_18, o148_21, o148_22, o148_23, o148_25, o148_27, o148_30, o148_31, o148_34, o148_35, o148_38, o148_41, o148_44, c_leX1_0 R, o143_0, o143_1, o143_4, o143_5, o143_6, o143_7, mcs_0, mcs_l, Kn_v, true_and, not_false_eq_true, false_implies, forall_const, Nat.reduceLeDiff, Nat.reduceSub, Nat.reduceAdd, Nat.zero_le, Int32.reduceLT, Int32.reduceAdd, kc0, Int32.reduceLT]
  rw [o148_14]
  simp only [o148_16, o148_18, o148_21, o148_22, o148_23, o148_25, o148_27, o148_30, o148_31, o148_34, o148_35, o148_38, o148_41, o148_44, c_leX1_1 R, o143_0, o143_1, o143_4, o143_5, o143_6, o143_7, mcs_0, mcs_l, Kn_v, true_and, not_false_eq_true, false_implies, forall_const, Nat.reduceLeDiff, Nat.reduceSub, Nat.reduceAdd, Nat.zero_le, Int32.reduceLT, Int32.reduceAdd, kc0, Int32.reduceLT]
  rw [o148_14]
  simp only [o148_16, o148_18, o148_21, o148_22, o148_23, o148_25, o148_27, o148_30, o148_31, o148_34, o148_35, o148_38, o148_41, o148_44, c_leX1_2 R, o143_0, o143_1, o143_4, o143_5, o143_6, o143_7, mcs_0, mcs_l, Kn_v, true_and, not_false_eq_true, false_implies, forall_const, Nat.reduceLeDiff, Nat.reduceSub, Nat.reduceAdd, Nat.zero_le, Int32.reduceLT, Int32.reduceAdd, kc0, Int32.reduceLT]
  rw [o148_14]
  simp only [o148_16, o148_18, o148_21, o148_22, o148_23, o148_25, o148_27, o148_30, o148_31, o148_34, o148_35, o148_38, o148_41, o148_44, c_leX1_3 R, o143_0, o143_1, o143_4, o143_5, o143_6, o143_7, mcs_0, mcs_l, Kn_v, true_and, not_false_eq_true, false_implies, forall_const, Nat.reduceLeDiff, Nat.reduceSub, Nat.reduceAdd, Nat.zero_le, Int32.reduceLT, Int32.reduceAdd, kc0, Int32.reduceLT]
  rw [o148_14]
  simp only [o148_16, o148_18, o148_21, o148_22, o148_23, o148_25, o148_27, o148_30, o148_31, o148_34, o148_35, o148_38, o148_41, o148_44, c_leX1_4 R, o143_0, o143_1, o143_4, o143_5, o143_6, o143_7, mcs_0, mcs_l, Kn_v, true_and, not_false_eq_true, false_implies, forall_const, Nat.reduceLeDiff, Nat.reduceSub, Nat.reduceAdd, Nat.zero_le, Int32.reduceLT, Int32.reduceAdd, kc0, Int32.reduceLT]
  rw [o148_14]
  simp only [o148_16, o148_18, o148_21, o148_22, o148_23, o148_25, o148_27, o148_30, o148_31, o148_34, o148_35, o148_38, o148_41, o148_44, c_leX1_5 R, o143_0, o143_1, o143_4, o143_5, o143_6, o143_7, mcs_0, mcs_l, Kn_v, true_and, not_false_eq_true, false_implies, forall_const, Nat.reduceLeDiff, Nat.reduceSub, Nat.reduceAdd, Nat.zero_le, Int32.reduceLT, Int32.reduceAdd, kc0, Int32.reduceLT]
  rw [o148_14]
  simp only [o148_16, o148_18, o148_21, o148_22, o148_23, o148_25, o148_27, o148_30, o148_31, o148_34, o148_35, o148_38, o148_41, o148_44, c_leX1_6 R, o143_0, o143_1, o143_4, o143_5, o143_6, o143_7, mcs_0, mcs_l, Kn_v, true_and, not_false_eq_true, false_implies, forall_const, Nat.reduceLeDiff, Nat.reduceSub, Nat.reduceAdd, Nat.zero_le, Int32.reduceLT, Int32.reduceAdd, kc0, Int32.reduceLT]
  rw [o148_14]
  simp only [o148_16, o148_18, o148_21, o148_22, o148_23, o148_25, o148_27, o148_30, o148_31, o148_34, o148_35, o148_38, o148_41, o148_44, c_leX1_7 R, o143_0, o143_1, o143_4, o143_5, o143_6, o143_7, mcs_0, mcs_l, Kn_v, true_and, not_false_eq_true, false_implies, forall_const, Nat.reduceLeDiff, Nat.reduceSub, Nat.reduceAdd, Nat.zero_le, Int32.reduceLT, Int32.reduceAdd, kc0, Int32.reduceLT]
  rw [o148_14]
  simp only [o148_16, o148_18, o148_21, o148_22, o148_23, o148_25, o148_27, o148_30, o148_31, o148_34, o148_35, o148_38, o148_41, o148_44, c_leX1_8 R, o143_0, o143_1, o143_4, o143_5, o143_6, o143_7, mcs_0, mcs_l, Kn_v, true_and, not_false_eq_true, false_implies, forall_const, Nat.reduceLeDiff, Nat.reduceSub, Nat.reduceAdd, Nat.zero_le, Nat.le_refl, Int32.reduceLT, Int32.reduceAdd, kc0, Int32.reduceLT]
  rw [o148_14]
  simp only [o148_16, o148_18, o148_21, o148_22, o148_23, o148_25, o148_27, o148_41, o148_44, mcs_0, mcs_l, true_and, and_true, false_and, and_false, not_true_eq_false, false_implies, forall_const, and_self, Nat.reduceLeDiff, Nat.reduceSub, Nat.reduceAdd, Int32.reduceLT, Int32.reduceAdd, kc0, Int32.reduceLT]
  rw [o148_5]
  simp only [o148_7, o148_8, o148_11, o148_12, o148_47, o148_48, and_true, not_true_eq_false, not_false_eq_true, false_implies, forall_const, lt_le, Int32.reduceLT, Int32.reduceLT]
  all_goals exact Iff.rfl

def dH (A : Nat → Nat) (h : MH) (d : Int64) : Nat → Int64
  | 0 => d
  | n + 1 => dg1 (dH A h d n) (g_i h (A 18) n)
theorem c_hoX {A : Nat → Nat} {h : MH} {s : Nat} {Q : MR → MH → Prop} (R : Rl A h) (hs : s < 8) : Ok 104 0 [.ref (A 0), .int (Int32.ofNat s)] [] h 1 6 Q ↔ Q (.inl (some (.int (g_i h (A 18) s)))) h := by
  have R0 := R
  obtain ⟨vk, vcn, v0, v1, v2, vp, vl0, vl1, vlr, vsr, vc, tx⟩ := R0
  have vk0 := vk
  have vcn0 := vcn
  (refine K_el vk0 ?_; intros hA kc0 kc1 kc2 kc3 kc4 kc5 kc6 kc7 kc8 kc9 kc10 kc11 kc12 kc13 kc14 kc15 kc16 kc17 kc18 kc19 kc20 kc21 kc22 kc23 kc24 kc25 kc26 kc27 kc28 kc29 kc30 kc31 kc32 kc33 kc34 kc35 kc36 kc37 kc38 kc39 kz kt kn3 kn4 kn18 kn21 kn23 kn24 kn25 kn26 kn27 kn29 kn30 kr0_0 kr0_1 kr0_2 kr0_3 kr0_4 kr0_5 kr0_7 kr0_8 kr0_9 kr0_10 kr1_0 kr2_0 kr5_0 kr5_1 kr6_0 kr6_1 kr7_0 kr7_1 kr8_0 kr9_0 kr10_0 kr11_0 kr12_0 kr13_0 kr14_0 kr15_0 kr16_0 kr17_0 kr19_0 kr19_1 kr22_0 kr22_1 kr22_2 kr22_3 kr22_4 kr22_5 kr22_7 kr22_8 kr25_0 kr25_1 kr25_2 kr26_0 kr26_1 kr26_2 kr29_0 kr29_1)
  (refine Cn_el vcn0 ?_; intros ki5_2 ki6_2 ki7_2 ki8_1 ki8_2 ki8_3 ki9_1 ki9_2 ki9_3 ki10_1 ki10_2 ki10_3 ki11_1 ki11_2 ki11_3 ki12_1 ki12_2 ki12_3 ki13_1 ki13_2 ki13_3 ki14_1 ki14_2 ki14_3 ki28_0 ki28_1 ki31_0 ki31_1 ki32_0 ki32_1 ki33_0 ki33_1 ki34_0 ki34_1 ki35_0 ki35_1 ki36_0 ki36_1)
  have hAe : ∀ i j, i < 40 → j < 40 → (A i = A j ↔ i = j) := hA
  have e0 : (Int32.ofNat s < 0) = False := n_z (by omega)
  have e7 : (7 < Int32.ofNat s) = False := by rw [show (7 : Int32) = Int32.ofNat 7 from rfl, n_lt (by omega) (by omega)]; exact eq_false (by omega)
  have e8 : vp_in (Int32.ofNat s) 8 := vp_of (by omega) (by omega)
  have e9 : (Int32.ofNat s).toNatClampNeg = s := n_cl (by omega)
  simp only [o104_0, o104_1, o104_3, o104_6, o104_7, o104_10, o104_11, o104_14, c_X5_checkChoice, c_X0_told (cs := A 18), mcs_0, Kn_v, Kn_0, Kn_x, mrf_some, true_and, not_false_eq_true, false_implies, forall_const, Nat.reduceSub, Nat.zero_le, Nat.le_refl, Nat.reduceLT, kc0, kc17, kc18, kn18, kr0_9, kr17_0, kz, e0, e7, e8, e9, or_self]

theorem dh_loop {A : Nat → Nat} {h : MH} {d : Int64} {Q : MR → MH → Prop} (R : Rl A h) (hQ : Ok 107 73 [.ref (A 0), .long (dH A h d 8), mk0, .int (Int32.ofNat 8)] [] h 0 0 Q) : ∀ (k s : Nat), s + k = 8 → Ok 107 50 [.ref (A 0), .long (dH A h d s), mk0, .int (Int32.ofNat s)] [] h (1 * k) (6 * k) Q
  | 0, s, hs => by
    have : s = 8 := by omega
    subst this
    have c1 : ((7 : Int32) < Int32.ofNat 8) = True := by decide
    rw [o107_50]
    simp only [o107_51, o107_53, and_true, not_true_eq_false, false_implies, forall_const, c1]
    exact hQ
  | k + 1, s, hs => by
    have ih := dh_loop R hQ k (s + 1) (by omega)
    have R0 := R
    obtain ⟨vk, vcn, v0, v1, v2, vp, vl0, vl1, vlr, vsr, vc, tx⟩ := R0
    have vk0 := vk
    have vcn0 := vcn
    (refine K_el vk0 ?_; intros hA kc0 kc1 kc2 kc3 kc4 kc5 kc6 kc7 kc8 kc9 kc10 kc11 kc12 kc13 kc14 kc15 kc16 kc17 kc18 kc19 kc20 kc21 kc22 kc23 kc24 kc25 kc26 kc27 kc28 kc29 kc30 kc31 kc32 kc33 kc34 kc35 kc36 kc37 kc38 kc39 kz kt kn3 kn4 kn18 kn21 kn23 kn24 kn25 kn26 kn27 kn29 kn30 kr0_0 kr0_1 kr0_2 kr0_3 kr0_4 kr0_5 kr0_7 kr0_8 kr0_9 kr0_10 kr1_0 kr2_0 kr5_0 kr5_1 kr6_0 kr6_1 kr7_0 kr7_1 kr8_0 kr9_0 kr10_0 kr11_0 kr12_0 kr13_0 kr14_0 kr15_0 kr16_0 kr17_0 kr19_0 kr19_1 kr22_0 kr22_1 kr22_2 kr22_3 kr22_4 kr22_5 kr22_7 kr22_8 kr25_0 kr25_1 kr25_2 kr26_0 kr26_1 kr26_2 kr29_0 kr29_1)
    (refine Cn_el vcn0 ?_; intros ki5_2 ki6_2 ki7_2 ki8_1 ki8_2 ki8_3 ki9_1 ki9_2 ki9_3 ki10_1 ki10_2 ki10_3 ki11_1 ki11_2 ki11_3 ki12_1 ki12_2 ki12_3 ki13_1 ki13_2 ki13_3 ki14_1 ki14_2 ki14_3 ki28_0 ki28_1 ki31_0 ki31_1 ki32_0 ki32_1 ki33_0 ki33_1 ki34_0 ki34_1 ki35_0 ki35_1 ki36_0 ki36_1)
    have hAe : ∀ i j, i < 40 → j < 40 → (A i = A j ↔ i = j) := hA
    have c1 : ((7 : Int32) < Int32.ofNat s) = False := by
      rw [show (7 : Int32) = Int32.ofNat 7 by decide, n_lt (by omega) (by omega)]
      exact eq_false (by omega)
    have c6 : Int32.ofNat s + 1 = Int32.ofNat (s + 1) := n_add s 1
    have c2 : (1 ≤ 1 * (k + 1)) = True := eq_true (by omega)
    have c3 : (6 ≤ 6 * (k + 1)) = True := eq_true (by omega)
    have c4 : 1 * (k + 1) - 1 = 1 * k := by omega
    have c5 : 6 * (k + 1) - 6 = 6 * k := by omega
    rw [o107_50]
    simp only [o107_51, o107_53, o107_56, o107_57, o107_58, o107_59, o107_62, o107_63, o107_66, o107_67, o107_70, c_hoX R (s := s) (by omega), o143_0, o143_1, o143_4, o143_5, o143_6, o143_7, mcs_0, mcs_l, Kn_v, true_and, not_false_eq_true, false_implies, forall_const, Nat.reduceLeDiff, Nat.reduceAdd, Nat.zero_le, kc0, c1, c2, c3, c4, c5, c6]
    exact ih
theorem Sm_cT {A : Nat → Nat} {h m : MH} (s : Sm A h m) : (cT m (A 5) (A 8) (A 9)) = (cT h (A 5) (A 8) (A 9)) ∧ (cT m (A 6) (A 10) (A 11)) = (cT h (A 6) (A 10) (A 11)) ∧ (cT m (A 7) (A 12) (A 13)) = (cT h (A 7) (A 12) (A 13)) := by
  (refine Sm_el s ?_; intros i0 l0 i1 l1 i2 l2 i3 l3 i4 l4 i5 l5 i6 l6 i7 l7 i8 l8 i9 l9 i10 l10 i11 l11 i12 l12 i13 l13 i14 l14 i15 l15 i16 l16 i17 l17 i18 l18 i19 l19 i23 l23 i24 l24 i25 l25 i26 l26 i27 l27 i28 l28 i29 l29 i30 l30 i31 l31 i32 l32 i33 l33 i34 l34 i35 l35 i36 l36 i37 l37 i38 l38 i39 l39 i22)
  refine ⟨?_, ?_, ?_⟩ <;> simp only [cT, i5, i6, i7, i8, i9, i10, i11, i12, i13]
theorem Sm_qv {A : Nat → Nat} {h m : MH} (s : Sm A h m) : qv0 A m = qv0 A h ∧ qv1 A m = qv1 A h ∧ qv2 A m = qv2 A h ∧ pv A m = pv A h ∧ pNn A m = pNn A h := by
  obtain ⟨c0, c1, c2⟩ := Sm_cT s
  (refine Sm_el s ?_; intros i0 l0 i1 l1 i2 l2 i3 l3 i4 l4 i5 l5 i6 l6 i7 l7 i8 l8 i9 l9 i10 l10 i11 l11 i12 l12 i13 l13 i14 l14 i15 l15 i16 l16 i17 l17 i18 l18 i19 l19 i23 l23 i24 l24 i25 l25 i26 l26 i27 l27 i28 l28 i29 l29 i30 l30 i31 l31 i32 l32 i33 l33 i34 l34 i35 l35 i36 l36 i37 l37 i38 l38 i39 l39 i22)
  refine ⟨funext fun j => ?_, funext fun j => ?_, funext fun j => ?_, funext fun j => ?_, ?_⟩
  · simp only [qv0, c0, l3]
  · simp only [qv1, c1, l3]
  · simp only [qv2, c2, l3]
  · simp only [pv, pS, i0, i14, l4]
  · simp only [pNn, i0, i14]
theorem Sm_dL {A : Nat → Nat} {h m : MH} {d : Int64} (s : Sm A h m) : ∀ n, dL A m d n = dL A h d n
  | 0 => rfl
  | n + 1 => by
    (refine Sm_el s ?_; intros i0 l0 i1 l1 i2 l2 i3 l3 i4 l4 i5 l5 i6 l6 i7 l7 i8 l8 i9 l9 i10 l10 i11 l11 i12 l12 i13 l13 i14 l14 i15 l15 i16 l16 i17 l17 i18 l18 i19 l19 i23 l23 i24 l24 i25 l25 i26 l26 i27 l27 i28 l28 i29 l29 i30 l30 i31 l31 i32 l32 i33 l33 i34 l34 i35 l35 i36 l36 i37 l37 i38 l38 i39 l39 i22)
    simp only [dL, Sm_dL s n, l3]
theorem Sm_dH {A : Nat → Nat} {h m : MH} {d : Int64} (s : Sm A h m) : ∀ n, dH A m d n = dH A h d n
  | 0 => rfl
  | n + 1 => by
    (refine Sm_el s ?_; intros i0 l0 i1 l1 i2 l2 i3 l3 i4 l4 i5 l5 i6 l6 i7 l7 i8 l8 i9 l9 i10 l10 i11 l11 i12 l12 i13 l13 i14 l14 i15 l15 i16 l16 i17 l17 i18 l18 i19 l19 i23 l23 i24 l24 i25 l25 i26 l26 i27 l27 i28 l28 i29 l29 i30 l30 i31 l31 i32 l32 i33 l33 i34 l34 i35 l35 i36 l36 i37 l37 i38 l38 i39 l39 i22)
    simp only [dH, Sm_dH s n, i18]
theorem Sm_d {A : Nat → Nat} {h m : MH} {d : Int64} (s : Sm A h m) : dQ0 A m d = dQ0 A h d ∧ dQ1 A m d = dQ1 A h d ∧ dQ2 A m d = dQ2 A h d ∧ dT A m d = dT A h d ∧ dE A m d = dE A h d := by
  obtain ⟨c0, c1, c2⟩ := Sm_cT s
  obtain ⟨q0, q1, q2, q3, q4⟩ := Sm_qv s
  (refine Sm_el s ?_; intros i0 l0 i1 l1 i2 l2 i3 l3 i4 l4 i5 l5 i6 l6 i7 l7 i8 l8 i9 l9 i10 l10 i11 l11 i12 l12 i13 l13 i14 l14 i15 l15 i16 l16 i17 l17 i18 l18 i19 l19 i23 l23 i24 l24 i25 l25 i26 l26 i27 l27 i28 l28 i29 l29 i30 l30 i31 l31 i32 l32 i33 l33 i34 l34 i35 l35 i36 l36 i37 l37 i38 l38 i39 l39 i22)
  refine ⟨?_, ?_, ?_, ?_, ?_⟩
  · simp only [dQ0, dP0, c0, q0, i8, i9]
  · simp only [dQ1, dP1, c1, q1, i10, i11]
  · simp only [dQ2, dP2, c2, q2, i12, i13]
  · simp only [dT, dI, q3, q4, i0, i14]
  · simp only [dE, i15, i16]
theorem Sm_ed {A : Nat → Nat} {h m : MH} {v : Int32} (s : Sm A h m) (e : edV A h v) : edV A m v := by
  (refine Sm_el s ?_; intros i0 l0 i1 l1 i2 l2 i3 l3 i4 l4 i5 l5 i6 l6 i7 l7 i8 l8 i9 l9 i10 l10 i11 l11 i12 l12 i13 l13 i14 l14 i15 l15 i16 l16 i17 l17 i18 l18 i19 l19 i23 l23 i24 l24 i25 l25 i26 l26 i27 l27 i28 l28 i29 l29 i30 l30 i31 l31 i32 l32 i33 l33 i34 l34 i35 l35 i36 l36 i37 l37 i38 l38 i39 l39 i22)
  unfold edV edg at e ⊢
  simp only [l23, i24]
  exact e
/-- the checksum -/
def DG (A : Nat → Nat) (h : MH) (v : Int32) : Int64 := dg1 (dH A h (dE A h (dT A h (dL A h (dQ2 A h (dQ1 A h (dQ0 A h (dS A h 7701 6)))) 16))) 8) v
theorem c_digest {A : Nat → Nat} {h : MH} {v : Int32} {Q : MR → MH → Prop} (R : Rl A h) (hv : edV A h v) (hQ : ∀ m, Sm A h m → Rl A m → Q (.inl (some (.long (DG A h v)))) m) : Ok 107 0 [.ref (A 0), mk0, mk0, mk0] [] h 707 89490 Q := by
  have R0 := R
  obtain ⟨vk, vcn, v0, v1, v2, vp, vl0, vl1, vlr, vsr, vc, tx⟩ := R0
  have vk0 := vk
  have vcn0 := vcn
  (refine K_el vk0 ?_; intros hA kc0 kc1 kc2 kc3 kc4 kc5 kc6 kc7 kc8 kc9 kc10 kc11 kc12 kc13 kc14 kc15 kc16 kc17 kc18 kc19 kc20 kc21 kc22 kc23 kc24 kc25 kc26 kc27 kc28 kc29 kc30 kc31 kc32 kc33 kc34 kc35 kc36 kc37 kc38 kc39 kz kt kn3 kn4 kn18 kn21 kn23 kn24 kn25 kn26 kn27 kn29 kn30 kr0_0 kr0_1 kr0_2 kr0_3 kr0_4 kr0_5 kr0_7 kr0_8 kr0_9 kr0_10 kr1_0 kr2_0 kr5_0 kr5_1 kr6_0 kr6_1 kr7_0 kr7_1 kr8_0 kr9_0 kr10_0 kr11_0 kr12_0 kr13_0 kr14_0 kr15_0 kr16_0 kr17_0 kr19_0 kr19_1 kr22_0 kr22_1 kr22_2 kr22_3 kr22_4 kr22_5 kr22_7 kr22_8 kr25_0 kr25_1 kr25_2 kr26_0 kr26_1 kr26_2 kr29_0 kr29_1)
  (refine Cn_el vcn0 ?_; intros ki5_2 ki6_2 ki7_2 ki8_1 ki8_2 ki8_3 ki9_1 ki9_2 ki9_3 ki10_1 ki10_2 ki10_3 ki11_1 ki11_2 ki11_3 ki12_1 ki12_2 ki12_3 ki13_1 ki13_2 ki13_3 ki14_1 ki14_2 ki14_3 ki28_0 ki28_1 ki31_0 ki31_1 ki32_0 ki32_1 ki33_0 ki33_1 ki34_0 ki34_1 ki35_0 ki35_1 ki36_0 ki36_1)
  have hAe : ∀ i j, i < 40 → j < 40 → (A i = A j ↔ i = j) := hA
  simp only [o107_0, o107_3, o107_4, o107_5, o107_6, mcs_0, true_and, Nat.reduceLeDiff, Nat.reduceSub, Nat.zero_le, kc0]
  refine c_wS R ?_
  simp only [o107_9, o107_10, o107_11, o107_12, o107_13, o107_14, o107_17, o107_18, o107_19, o107_20, mcs_0, Kn_v, true_and, not_true_eq_false, not_false_eq_true, false_implies, forall_const, Nat.reduceLeDiff, Nat.reduceSub, Nat.zero_le, lt_le, Int32.reduceLT, kc0, Int32.reduceLT]
  refine c_wQ0 R (fun m1 s1 R1 => ?_)
  have R0 := R1
  obtain ⟨vk, vcn, v0, v1, v2, vp, vl0, vl1, vlr, vsr, vc, tx⟩ := R0
  have vk0 := vk
  have vcn0 := vcn
  (refine K_el vk0 ?_; intros hA kc0 kc1 kc2 kc3 kc4 kc5 kc6 kc7 kc8 kc9 kc10 kc11 kc12 kc13 kc14 kc15 kc16 kc17 kc18 kc19 kc20 kc21 kc22 kc23 kc24 kc25 kc26 kc27 kc28 kc29 kc30 kc31 kc32 kc33 kc34 kc35 kc36 kc37 kc38 kc39 kz kt kn3 kn4 kn18 kn21 kn23 kn24 kn25 kn26 kn27 kn29 kn30 kr0_0 kr0_1 kr0_2 kr0_3 kr0_4 kr0_5 kr0_7 kr0_8 kr0_9 kr0_10 kr1_0 kr2_0 kr5_0 kr5_1 kr6_0 kr6_1 kr7_0 kr7_1 kr8_0 kr9_0 kr10_0 kr11_0 kr12_0 kr13_0 kr14_0 kr15_0 kr16_0 kr17_0 kr19_0 kr19_1 kr22_0 kr22_1 kr22_2 kr22_3 kr22_4 kr22_5 kr22_7 kr22_8 kr25_0 kr25_1 kr25_2 kr26_0 kr26_1 kr26_2 kr29_0 kr29_1)
  (refine Cn_el vcn0 ?_; intros ki5_2 ki6_2 ki7_2 ki8_1 ki8_2 ki8_3 ki9_1 ki9_2 ki9_3 ki10_1 ki10_2 ki10_3 ki11_1 ki11_2 ki11_3 ki12_1 ki12_2 ki12_3 ki13_1 ki13_2 ki13_3 ki14_1 ki14_2 ki14_3 ki28_0 ki28_1 ki31_0 ki31_1 ki32_0 ki32_1 ki33_0 ki33_1 ki34_0 ki34_1 ki35_0 ki35_1 ki36_0 ki36_1)
  have hAe : ∀ i j, i < 40 → j < 40 → (A i = A j ↔ i = j) := hA
  simp only [o107_12, o107_13, o107_14, o107_17, o107_18, o107_19, o107_20, o107_23, o107_24, o107_27, mcs_0, Kn_v, true_and, not_true_eq_false, not_false_eq_true, false_implies, forall_const, Nat.reduceLeDiff, Nat.reduceSub, Nat.zero_le, lt_le, Int32.reduceLT, Int32.reduceAdd, kc0, Int32.reduceLT]
  refine c_wQ1 R1 (fun m2 s2 R2 => ?_)
  replace s2 := Sm_tr s1 s2
  have R0 := R2
  obtain ⟨vk, vcn, v0, v1, v2, vp, vl0, vl1, vlr, vsr, vc, tx⟩ := R0
  have vk0 := vk
  have vcn0 := vcn
  (refine K_el vk0 ?_; intros hA kc0 kc1 kc2 kc3 kc4 kc5 kc6 kc7 kc8 kc9 kc10 kc11 kc12 kc13 kc14 kc15 kc16 kc17 kc18 kc19 kc20 kc21 kc22 kc23 kc24 kc25 kc26 kc27 kc28 kc29 kc30 kc31 kc32 kc33 kc34 kc35 kc36 kc37 kc38 kc39 kz kt kn3 kn4 kn18 kn21 kn23 kn24 kn25 kn26 kn27 kn29 kn30 kr0_0 kr0_1 kr0_2 kr0_3 kr0_4 kr0_5 kr0_7 kr0_8 kr0_9 kr0_10 kr1_0 kr2_0 kr5_0 kr5_1 kr6_0 kr6_1 kr7_0 kr7_1 kr8_0 kr9_0 kr10_0 kr11_0 kr12_0 kr13_0 kr14_0 kr15_0 kr16_0 kr17_0 kr19_0 kr19_1 kr22_0 kr22_1 kr22_2 kr22_3 kr22_4 kr22_5 kr22_7 kr22_8 kr25_0 kr25_1 kr25_2 kr26_0 kr26_1 kr26_2 kr29_0 kr29_1)
  (refine Cn_el vcn0 ?_; intros ki5_2 ki6_2 ki7_2 ki8_1 ki8_2 ki8_3 ki9_1 ki9_2 ki9_3 ki10_1 ki10_2 ki10_3 ki11_1 ki11_2 ki11_3 ki12_1 ki12_2 ki12_3 ki13_1 ki13_2 ki13_3 ki14_1 ki14_2 ki14_3 ki28_0 ki28_1 ki31_0 ki31_1 ki32_0 ki32_1 ki33_0 ki33_1 ki34_0 ki34_1 ki35_0 ki35_1 ki36_0 ki36_1)
  have hAe : ∀ i j, i < 40 → j < 40 → (A i = A j ↔ i = j) := hA
  simp only [o107_12, o107_13, o107_14, o107_17, o107_18, o107_19, o107_20, o107_23, o107_24, o107_27, mcs_0, Kn_v, true_and, not_true_eq_false, not_false_eq_true, false_implies, forall_const, Nat.reduceLeDiff, Nat.reduceSub, Nat.zero_le, lt_le, Int32.reduceLT, Int32.reduceAdd, kc0, Int32.reduceLT]
  refine c_wQ2 R2 (fun m3 s3 R3 => ?_)
  replace s3 := Sm_tr s2 s3
  have R0 := R3
  obtain ⟨vk, vcn, v0, v1, v2, vp, vl0, vl1, vlr, vsr, vc, tx⟩ := R0
  have vk0 := vk
  have vcn0 := vcn
  (refine K_el vk0 ?_; intros hA kc0 kc1 kc2 kc3 kc4 kc5 kc6 kc7 kc8 kc9 kc10 kc11 kc12 kc13 kc14 kc15 kc16 kc17 kc18 kc19 kc20 kc21 kc22 kc23 kc24 kc25 kc26 kc27 kc28 kc29 kc30 kc31 kc32 kc33 kc34 kc35 kc36 kc37 kc38 kc39 kz kt kn3 kn4 kn18 kn21 kn23 kn24 kn25 kn26 kn27 kn29 kn30 kr0_0 kr0_1 kr0_2 kr0_3 kr0_4 kr0_5 kr0_7 kr0_8 kr0_9 kr0_10 kr1_0 kr2_0 kr5_0 kr5_1 kr6_0 kr6_1 kr7_0 kr7_1 kr8_0 kr9_0 kr10_0 kr11_0 kr12_0 kr13_0 kr14_0 kr15_0 kr16_0 kr17_0 kr19_0 kr19_1 kr22_0 kr22_1 kr22_2 kr22_3 kr22_4 kr22_5 kr22_7 kr22_8 kr25_0 kr25_1 kr25_2 kr26_0 kr26_1 kr26_2 kr29_0 kr29_1)
  (refine Cn_el vcn0 ?_; intros ki5_2 ki6_2 ki7_2 ki8_1 ki8_2 ki8_3 ki9_1 ki9_2 ki9_3 ki10_1 ki10_2 ki10_3 ki11_1 ki11_2 ki11_3 ki12_1 ki12_2 ki12_3 ki13_1 ki13_2 ki13_3 ki14_1 ki14_2 ki14_3 ki28_0 ki28_1 ki31_0 ki31_1 ki32_0 ki32_1 ki33_0 ki33_1 ki34_0 ki34_1 ki35_0 ki35_1 ki36_0 ki36_1)
  have hAe : ∀ i j, i < 40 → j < 40 → (A i = A j ↔ i = j) := hA
  simp only [o107_12, o107_13, o107_14, o107_17, o107_18, o107_19, o107_20, o107_23, o107_24, o107_27, o107_30, o107_31, o107_32, o107_35, o107_36, o107_37, o107_38, c_wL R3, mcs_0, Kn_v, true_and, and_true, not_true_eq_false, not_false_eq_true, false_implies, forall_const, Nat.reduceLeDiff, Nat.reduceSub, Nat.zero_le, lt_le, Int32.reduceLT, Int32.reduceAdd, kc0, Int32.reduceLT]
  refine c_wP R3 (fun m4 s4 R4 => ?_)
  replace s4 := Sm_tr s3 s4
  have R0 := R4
  obtain ⟨vk, vcn, v0, v1, v2, vp, vl0, vl1, vlr, vsr, vc, tx⟩ := R0
  have vk0 := vk
  have vcn0 := vcn
  (refine K_el vk0 ?_; intros hA kc0 kc1 kc2 kc3 kc4 kc5 kc6 kc7 kc8 kc9 kc10 kc11 kc12 kc13 kc14 kc15 kc16 kc17 kc18 kc19 kc20 kc21 kc22 kc23 kc24 kc25 kc26 kc27 kc28 kc29 kc30 kc31 kc32 kc33 kc34 kc35 kc36 kc37 kc38 kc39 kz kt kn3 kn4 kn18 kn21 kn23 kn24 kn25 kn26 kn27 kn29 kn30 kr0_0 kr0_1 kr0_2 kr0_3 kr0_4 kr0_5 kr0_7 kr0_8 kr0_9 kr0_10 kr1_0 kr2_0 kr5_0 kr5_1 kr6_0 kr6_1 kr7_0 kr7_1 kr8_0 kr9_0 kr10_0 kr11_0 kr12_0 kr13_0 kr14_0 kr15_0 kr16_0 kr17_0 kr19_0 kr19_1 kr22_0 kr22_1 kr22_2 kr22_3 kr22_4 kr22_5 kr22_7 kr22_8 kr25_0 kr25_1 kr25_2 kr26_0 kr26_1 kr26_2 kr29_0 kr29_1)
  (refine Cn_el vcn0 ?_; intros ki5_2 ki6_2 ki7_2 ki8_1 ki8_2 ki8_3 ki9_1 ki9_2 ki9_3 ki10_1 ki10_2 ki10_3 ki11_1 ki11_2 ki11_3 ki12_1 ki12_2 ki12_3 ki13_1 ki13_2 ki13_3 ki14_1 ki14_2 ki14_3 ki28_0 ki28_1 ki31_0 ki31_1 ki32_0 ki32_1 ki33_0 ki33_1 ki34_0 ki34_1 ki35_0 ki35_1 ki36_0 ki36_1)
  have hAe : ∀ i j, i < 40 → j < 40 → (A i = A j ↔ i = j) := hA
  simp only [o107_41, o107_42, o107_43, o107_44, o107_47, o107_48, o107_49, c_wE R4, mcs_0, Kn_v, true_and, Nat.reduceLeDiff, Nat.reduceSub, Nat.zero_le, kc0]
  have e4 := Sm_ed s4 hv
  refine Ok_le (dh_loop (d := dE A m4 _) R4 ?_ 8 0 rfl) _ _ (by decide) (by decide)
  rw [(Sm_d (d := _) s4).2.2.2.2, (Sm_d s3).2.2.2.1, Sm_dH s4, Sm_dL s3, (Sm_d s2).2.2.1, (Sm_d s1).2.1]
  rcases e4 with ⟨z, rfl⟩ | ⟨z, rfl⟩
  · have cs1 := fun {Q : MR → MH → Prop} => c_sound (Q := Q) R4 (Or.inl ⟨z, rfl⟩)
    simp only [o107_73, o107_74, o107_75, o107_78, o107_81, o107_82, o107_85, o107_86, o107_89, o143_0, o143_1, o143_4, o143_5, o143_6, o143_7, cs1, mcs_0, mcs_l, Kn_v, true_and, not_false_eq_true, false_implies, forall_const, Nat.reduceLeDiff, Nat.reduceAdd, Nat.zero_le, i10, kc0]
    exact hQ m4 s4 R4
  · have cs1 := fun {Q : MR → MH → Prop} => c_sound (Q := Q) R4 (Or.inr ⟨z, rfl⟩)
    simp only [o107_73, o107_74, o107_75, o107_78, o107_81, o107_82, o107_85, o107_86, o107_89, o143_0, o143_1, o143_4, o143_5, o143_6, o143_7, cs1, mcs_0, mcs_l, Kn_v, true_and, and_true, not_true_eq_false, false_implies, forall_const, Nat.reduceLeDiff, Nat.reduceAdd, Nat.zero_le, kc0]
    exact hQ m4 s4 R4
end

section
set_option maxRecDepth 16384
/-! THE CHECKSUM, the reference -/
theorem m_plX0_0 {A : Nat → Nat} {h : MH} {Q : MR → MH → Prop} (R : Rl A h) (hQ : ∀ m, Fr (p_i h (A 22) 9 0) m → Q (.inl (some (.int (g_i h (A 8) 4)))) m) : Ok 203 0 [.ref (A 22), .int 0, .int 0, mk0] [] h 1 7 Q := by
  have R0 := R
  obtain ⟨vk, vcn, v0, v1, v2, vp, vl0, vl1, vlr, vsr, vc, tx⟩ := R0
  have vk0 := vk
  have vcn0 := vcn
  (refine K_el vk0 ?_; intros hA kc0 kc1 kc2 kc3 kc4 kc5 kc6 kc7 kc8 kc9 kc10 kc11 kc12 kc13 kc14 kc15 kc16 kc17 kc18 kc19 kc20 kc21 kc22 kc23 kc24 kc25 kc26 kc27 kc28 kc29 kc30 kc31 kc32 kc33 kc34 kc35 kc36 kc37 kc38 kc39 kz kt kn3 kn4 kn18 kn21 kn23 kn24 kn25 kn26 kn27 kn29 kn30 kr0_0 kr0_1 kr0_2 kr0_3 kr0_4 kr0_5 kr0_7 kr0_8 kr0_9 kr0_10 kr1_0 kr2_0 kr5_0 kr5_1 kr6_0 kr6_1 kr7_0 kr7_1 kr8_0 kr9_0 kr10_0 kr11_0 kr12_0 kr13_0 kr14_0 kr15_0 kr16_0 kr17_0 kr19_0 kr19_1 kr22_0 kr22_1 kr22_2 kr22_3 kr22_4 kr22_5 kr22_7 kr22_8 kr25_0 kr25_1 kr25_2 kr26_0 kr26_1 kr26_2 kr29_0 kr29_1)
  (refine Cn_el vcn0 ?_; intros ki5_2 ki6_2 ki7_2 ki8_1 ki8_2 ki8_3 ki9_1 ki9_2 ki9_3 ki10_1 ki10_2 ki10_3 ki11_1 ki11_2 ki11_3 ki12_1 ki12_2 ki12_3 ki13_1 ki13_2 ki13_3 ki14_1 ki14_2 ki14_3 ki28_0 ki28_1 ki31_0 ki31_1 ki32_0 ki32_1 ki33_0 ki33_1 ki34_0 ki34_1 ki35_0 ki35_1 ki36_0 ki36_1)
  have hAe : ∀ i j, i < 40 → j < 40 → (A i = A j ↔ i = j) := hA
  have hta : ∀ i, i < 40 → (A i = g_t h) = False := fun i hi => eq_false (fun z => by have := kt i hi; omega)
  have hta2 : ∀ i, i < 40 → (g_t h = A i) = False := fun i hi => eq_false (fun z => by have := kt i hi; omega)
  have hzt : g_z h ≤ g_t h := Nat.le_trans (kz 0 (by decide)) (Nat.le_of_lt (kt 0 (by decide)))
  have he2 := v0.1
  simp only [cT, mT, Prod.mk.injEq] at he2
  obtain ⟨g1, g2, g3, g4, g5, g6, g7⟩ := he2
  replace g1 := g1.symm
  replace g2 := g2.symm
  replace g3 := g3.symm
  replace g4 := g4.symm
  replace g5 := g5.symm
  replace g6 := g6.symm
  simp only [o203_0, o203_1, o203_2, o203_5, o203_8, o203_9, o203_12, o203_13, o203_14, o203_17, o203_18, o203_20, o203_23, o203_24, o203_27, o203_28, o203_31, o203_34, o203_35, o203_36, o203_38, o203_40, o203_41, o203_42, o203_43, o203_46, o203_47, o203_48, o203_51, o203_52, o203_53, o203_54, o203_55, o203_58, o203_59, o203_60, o203_63, o203_64, o203_65, o203_66, o203_67, o203_70, o203_71, o203_72, o203_75, o203_76, o203_77, o203_78, o203_79, o203_82, o203_83, o203_84, o203_87, o203_88, o203_89, o203_90, o203_91, o203_94, o203_95, o203_96, o203_99, o203_100, o203_101, o203_102, o203_103, o203_106, o203_107, o203_108, o203_111, o203_112, o203_113, o203_115, o203_116, o203_119, o203_120, o203_121, o203_124, o203_125, o203_126, o203_127, o203_128, o203_129, c_X8_isQueue, c_X8_isThrown_, mc_pi, mc_pN, mn_pi, mn_pN, mi_pi, mi_pN, mr_pi, mr_pN, mt_pi, mz_pi, mz_pN, mcs_0, mcs_r, Kn_v, mrf_some, true_and, and_true, and_false, not_true_eq_false, not_false_eq_true, false_implies, forall_const, if_true, if_false, and_self, Nat.reduceEqDiff, Nat.reduceLeDiff, Nat.reduceSub, Nat.reduceAdd, Nat.zero_le, Nat.le_refl, i10, lt_le, Int32.reduceLT, cl0, cl1, cl2, cl3, cl4, cl5, cl6, cl7, Nat.reduceLT, hAe, kc22, kc25, kc26, kc31, kc34, kn25, kn26, kr22_2, kr22_3, kr25_0, kr26_0, kz, ki34_0, ki34_1, vq3, hta, hta2, hzt, vpk, Int32.reduceLT, g1, g2, g4, g5, g6]
  exact hQ _ (show Fr (p_i h (A 22) 9 0) _ from (Fr_pi (Fr_pi (Fr_pi (Fr_pi (Fr_pi (Fr_pi (Fr_pi (Fr_pN Fr_rfl) (Nat.le_refl _)) (Nat.le_refl _)) (Nat.le_refl _)) (Nat.le_refl _)) (Nat.le_refl _)) (Nat.le_refl _)) (Nat.le_refl _)))

theorem m_plX0_1 {A : Nat → Nat} {h : MH} {Q : MR → MH → Prop} (R : Rl A h) (hQ : ∀ m, Fr (p_i h (A 22) 9 0) m → Q (.inl (some (.int (g_i h (A 8) 5)))) m) : Ok 203 0 [.ref (A 22), .int 0, .int 1, mk0] [] h 1 7 Q := by
  have R0 := R
  obtain ⟨vk, vcn, v0, v1, v2, vp, vl0, vl1, vlr, vsr, vc, tx⟩ := R0
  have vk0 := vk
  have vcn0 := vcn
  (refine K_el vk0 ?_; intros hA kc0 kc1 kc2 kc3 kc4 kc5 kc6 kc7 kc8 kc9 kc10 kc11 kc12 kc13 kc14 kc15 kc16 kc17 kc18 kc19 kc20 kc21 kc22 kc23 kc24 kc25 kc26 kc27 kc28 kc29 kc30 kc31 kc32 kc33 kc34 kc35 kc36 kc37 kc38 kc39 kz kt kn3 kn4 kn18 kn21 kn23 kn24 kn25 kn26 kn27 kn29 kn30 kr0_0 kr0_1 kr0_2 kr0_3 kr0_4 kr0_5 kr0_7 kr0_8 kr0_9 kr0_10 kr1_0 kr2_0 kr5_0 kr5_1 kr6_0 kr6_1 kr7_0 kr7_1 kr8_0 kr9_0 kr10_0 kr11_0 kr12_0 kr13_0 kr14_0 kr15_0 kr16_0 kr17_0 kr19_0 kr19_1 kr22_0 kr22_1 kr22_2 kr22_3 kr22_4 kr22_5 kr22_7 kr22_8 kr25_0 kr25_1 kr25_2 kr26_0 kr26_1 kr26_2 kr29_0 kr29_1)
  (refine Cn_el vcn0 ?_; intros ki5_2 ki6_2 ki7_2 ki8_1 ki8_2 ki8_3 ki9_1 ki9_2 ki9_3 ki10_1 ki10_2 ki10_3 ki11_1 ki11_2 ki11_3 ki12_1 ki12_2 ki12_3 ki13_1 ki13_2 ki13_3 ki14_1 ki14_2 ki14_3 ki28_0 ki28_1 ki31_0 ki31_1 ki32_0 ki32_1 ki33_0 ki33_1 ki34_0 ki34_1 ki35_0 ki35_1 ki36_0 ki36_1)
  have hAe : ∀ i j, i < 40 → j < 40 → (A i = A j ↔ i = j) := hA
  have hta : ∀ i, i < 40 → (A i = g_t h) = False := fun i hi => eq_false (fun z => by have := kt i hi; omega)
  have hta2 : ∀ i, i < 40 → (g_t h = A i) = False := fun i hi => eq_false (fun z => by have := kt i hi; omega)
  have hzt : g_z h ≤ g_t h := Nat.le_trans (kz 0 (by decide)) (Nat.le_of_lt (kt 0 (by decide)))
  have he2 := v0.1
  simp only [cT, mT, Prod.mk.injEq] at he2
  obtain ⟨g1, g2, g3, g4, g5, g6, g7⟩ := he2
  replace g1 := g1.symm
  replace g2 := g2.symm
  replace g3 := g3.symm
  replace g4 := g4.symm
  replace g5 := g5.symm
  replace g6 := g6.symm
  simp only [o203_0, o203_1, o203_2, o203_5, o203_8, o203_9, o203_12, o203_13, o203_14, o203_17, o203_18, o203_20, o203_23, o203_24, o203_27, o203_28, o203_31, o203_34, o203_35, o203_36, o203_38, o203_40, o203_41, o203_42, o203_43, o203_46, o203_47, o203_48, o203_51, o203_52, o203_53, o203_54, o203_55, o203_58, o203_59, o203_60, o203_63, o203_64, o203_65, o203_66, o203_67, o203_70, o203_71, o203_72, o203_75, o203_76, o203_77, o203_78, o203_79, o203_82, o203_83, o203_84, o203_87, o203_88, o203_89, o203_90, o203_91, o203_94, o203_95, o203_96, o203_99, o203_100, o203_101, o203_102, o203_103, o203_106, o203_107, o203_108, o203_111, o203_112, o203_113, o203_115, o203_116, o203_119, o203_120, o203_121, o203_124, o203_125, o203_126, o203_127, o203_128, o203_129, c_X8_isQueue, c_X8_isThrown_, mc_pi, mc_pN, mn_pi, mn_pN, mi_pi, mi_pN, mr_pi, mr_pN, mt_pi, mz_pi, mz_pN, mcs_0, mcs_r, Kn_v, mrf_some, true_and, and_true, and_false, not_true_eq_false, not_false_eq_true, false_implies, forall_const, if_true, if_false, and_self, Nat.reduceEqDiff, Nat.reduceLeDiff, Nat.reduceSub, Nat.reduceAdd, Nat.zero_le, Nat.le_refl, i10, lt_le, Int32.reduceLT, cl0, cl1, cl2, cl3, cl4, cl5, cl6, cl7, Nat.reduceLT, hAe, kc22, kc25, kc26, kc31, kc34, kn25, kn26, kr22_2, kr22_3, kr25_0, kr26_0, kz, ki34_0, ki34_1, vq3, hta, hta2, hzt, vpk, Int32.reduceLT, g1, g2, g4, g5, g6]
  exact hQ _ (show Fr (p_i h (A 22) 9 0) _ from (Fr_pi (Fr_pi (Fr_pi (Fr_pi (Fr_pi (Fr_pi (Fr_pi (Fr_pN Fr_rfl) (Nat.le_refl _)) (Nat.le_refl _)) (Nat.le_refl _)) (Nat.le_refl _)) (Nat.le_refl _)) (Nat.le_refl _)) (Nat.le_refl _)))

theorem m_plX0_2 {A : Nat → Nat} {h : MH} {Q : MR → MH → Prop} (R : Rl A h) (hQ : ∀ m, Fr (p_i h (A 22) 9 0) m → Q (.inl (some (.int (g_i h (A 9) 4)))) m) : Ok 203 0 [.ref (A 22), .int 0, .int 2, mk0] [] h 1 7 Q := by
  have R0 := R
  obtain ⟨vk, vcn, v0, v1, v2, vp, vl0, vl1, vlr, vsr, vc, tx⟩ := R0
  have vk0 := vk
  have vcn0 := vcn
  (refine K_el vk0 ?_; intros hA kc0 kc1 kc2 kc3 kc4 kc5 kc6 kc7 kc8 kc9 kc10 kc11 kc12 kc13 kc14 kc15 kc16 kc17 kc18 kc19 kc20 kc21 kc22 kc23 kc24 kc25 kc26 kc27 kc28 kc29 kc30 kc31 kc32 kc33 kc34 kc35 kc36 kc37 kc38 kc39 kz kt kn3 kn4 kn18 kn21 kn23 kn24 kn25 kn26 kn27 kn29 kn30 kr0_0 kr0_1 kr0_2 kr0_3 kr0_4 kr0_5 kr0_7 kr0_8 kr0_9 kr0_10 kr1_0 kr2_0 kr5_0 kr5_1 kr6_0 kr6_1 kr7_0 kr7_1 kr8_0 kr9_0 kr10_0 kr11_0 kr12_0 kr13_0 kr14_0 kr15_0 kr16_0 kr17_0 kr19_0 kr19_1 kr22_0 kr22_1 kr22_2 kr22_3 kr22_4 kr22_5 kr22_7 kr22_8 kr25_0 kr25_1 kr25_2 kr26_0 kr26_1 kr26_2 kr29_0 kr29_1)
  (refine Cn_el vcn0 ?_; intros ki5_2 ki6_2 ki7_2 ki8_1 ki8_2 ki8_3 ki9_1 ki9_2 ki9_3 ki10_1 ki10_2 ki10_3 ki11_1 ki11_2 ki11_3 ki12_1 ki12_2 ki12_3 ki13_1 ki13_2 ki13_3 ki14_1 ki14_2 ki14_3 ki28_0 ki28_1 ki31_0 ki31_1 ki32_0 ki32_1 ki33_0 ki33_1 ki34_0 ki34_1 ki35_0 ki35_1 ki36_0 ki36_1)
  have hAe : ∀ i j, i < 40 → j < 40 → (A i = A j ↔ i = j) := hA
  have hta : ∀ i, i < 40 → (A i = g_t h) = False := fun i hi => eq_false (fun z => by have := kt i hi; omega)
  have hta2 : ∀ i, i < 40 → (g_t h = A i) = False := fun i hi => eq_false (fun z => by have := kt i hi; omega)
  have hzt : g_z h ≤ g_t h := Nat.le_trans (kz 0 (by decide)) (Nat.le_of_lt (kt 0 (by decide)))
  have he2 := v0.1
  simp only [cT, mT, Prod.mk.injEq] at he2
  obtain ⟨g1, g2, g3, g4, g5, g6, g7⟩ := he2
  replace g1 := g1.symm
  replace g2 := g2.symm
  replace g3 := g3.symm
  replace g4 := g4.symm
  replace g5 := g5.symm
  replace g6 := g6.symm
  simp only [o203_0, o203_1, o203_2, o203_5, o203_8, o203_9, o203_12, o203_13, o203_14, o203_17, o203_18, o203_20, o203_23, o203_24, o203_27, o203_28, o203_31, o203_34, o203_35, o203_36, o203_38, o203_40, o203_41, o203_42, o203_43, o203_46, o203_47, o203_48, o203_51, o203_52, o203_53, o203_54, o203_55, o203_58, o203_59, o203_60, o203_63, o203_64, o203_65, o203_66, o203_67, o203_70, o203_71, o203_72, o203_75, o203_76, o203_77, o203_78, o203_79, o203_82, o203_83, o203_84, o203_87, o203_88, o203_89, o203_90, o203_91, o203_94, o203_95, o203_96, o203_99, o203_100, o203_101, o203_102, o203_103, o203_106, o203_107, o203_108, o203_111, o203_112, o203_113, o203_115, o203_116, o203_119, o203_120, o203_121, o203_124, o203_125, o203_126, o203_127, o203_128, o203_129, c_X8_isQueue, c_X8_isThrown_, mc_pi, mc_pN, mn_pi, mn_pN, mi_pi, mi_pN, mr_pi, mr_pN, mt_pi, mz_pi, mz_pN, mcs_0, mcs_r, Kn_v, mrf_some, true_and, and_true, and_false, not_true_eq_false, not_false_eq_true, false_implies, forall_const, if_true, if_false, and_self, Nat.reduceEqDiff, Nat.reduceLeDiff, Nat.reduceSub, Nat.reduceAdd, Nat.zero_le, Nat.le_refl, i10, lt_le, Int32.reduceLT, cl0, cl1, cl2, cl3, cl4, cl5, cl6, cl7, Nat.reduceLT, hAe, kc22, kc25, kc26, kc31, kc34, kn25, kn26, kr22_2, kr22_3, kr25_0, kr26_0, kz, ki34_0, ki34_1, vq3, hta, hta2, hzt, vpk, Int32.reduceLT, g1, g2, g4, g5, g6]
  exact hQ _ (show Fr (p_i h (A 22) 9 0) _ from (Fr_pi (Fr_pi (Fr_pi (Fr_pi (Fr_pi (Fr_pi (Fr_pi (Fr_pN Fr_rfl) (Nat.le_refl _)) (Nat.le_refl _)) (Nat.le_refl _)) (Nat.le_refl _)) (Nat.le_refl _)) (Nat.le_refl _)) (Nat.le_refl _)))

theorem m_plX0_3 {A : Nat → Nat} {h : MH} {Q : MR → MH → Prop} (R : Rl A h) (hQ : ∀ m, Fr (p_i h (A 22) 9 0) m → Q (.inl (some (.int (g_i h (A 9) 5)))) m) : Ok 203 0 [.ref (A 22), .int 0, .int 3, mk0] [] h 1 7 Q := by
  have R0 := R
  obtain ⟨vk, vcn, v0, v1, v2, vp, vl0, vl1, vlr, vsr, vc, tx⟩ := R0
  have vk0 := vk
  have vcn0 := vcn
  (refine K_el vk0 ?_; intros hA kc0 kc1 kc2 kc3 kc4 kc5 kc6 kc7 kc8 kc9 kc10 kc11 kc12 kc13 kc14 kc15 kc16 kc17 kc18 kc19 kc20 kc21 kc22 kc23 kc24 kc25 kc26 kc27 kc28 kc29 kc30 kc31 kc32 kc33 kc34 kc35 kc36 kc37 kc38 kc39 kz kt kn3 kn4 kn18 kn21 kn23 kn24 kn25 kn26 kn27 kn29 kn30 kr0_0 kr0_1 kr0_2 kr0_3 kr0_4 kr0_5 kr0_7 kr0_8 kr0_9 kr0_10 kr1_0 kr2_0 kr5_0 kr5_1 kr6_0 kr6_1 kr7_0 kr7_1 kr8_0 kr9_0 kr10_0 kr11_0 kr12_0 kr13_0 kr14_0 kr15_0 kr16_0 kr17_0 kr19_0 kr19_1 kr22_0 kr22_1 kr22_2 kr22_3 kr22_4 kr22_5 kr22_7 kr22_8 kr25_0 kr25_1 kr25_2 kr26_0 kr26_1 kr26_2 kr29_0 kr29_1)
  (refine Cn_el vcn0 ?_; intros ki5_2 ki6_2 ki7_2 ki8_1 ki8_2 ki8_3 ki9_1 ki9_2 ki9_3 ki10_1 ki10_2 ki10_3 ki11_1 ki11_2 ki11_3 ki12_1 ki12_2 ki12_3 ki13_1 ki13_2 ki13_3 ki14_1 ki14_2 ki14_3 ki28_0 ki28_1 ki31_0 ki31_1 ki32_0 ki32_1 ki33_0 ki33_1 ki34_0 ki34_1 ki35_0 ki35_1 ki36_0 ki36_1)
  have hAe : ∀ i j, i < 40 → j < 40 → (A i = A j ↔ i = j) := hA
  have hta : ∀ i, i < 40 → (A i = g_t h) = False := fun i hi => eq_false (fun z => by have := kt i hi; omega)
  have hta2 : ∀ i, i < 40 → (g_t h = A i) = False := fun i hi => eq_false (fun z => by have := kt i hi; omega)
  have hzt : g_z h ≤ g_t h := Nat.le_trans (kz 0 (by decide)) (Nat.le_of_lt (kt 0 (by decide)))
  have he2 := v0.1
  simp only [cT, mT, Prod.mk.injEq] at he2
  obtain ⟨g1, g2, g3, g4, g5, g6, g7⟩ := he2
  replace g1 := g1.symm
  replace g2 := g2.symm
  replace g3 := g3.symm
  replace g4 := g4.symm
  replace g5 := g5.symm
  replace g6 := g6.symm
  simp only [o203_0, o203_1, o203_2, o203_5, o203_8, o203_9, o203_12, o203_13, o203_14, o203_17, o203_18, o203_20, o203_23, o203_24, o203_27, o203_28, o203_31, o203_34, o203_35, o203_36, o203_38, o203_40, o203_41, o203_42, o203_43, o203_46, o203_47, o203_48, o203_51, o203_52, o203_53, o203_54, o203_55, o203_58, o203_59, o203_60, o203_63, o203_64, o203_65, o203_66, o203_67, o203_70, o203_71, o203_72, o203_75, o203_76, o203_77, o203_78, o203_79, o203_82, o203_83, o203_84, o203_87, o203_88, o203_89, o203_90, o203_91, o203_94, o203_95, o203_96, o203_99, o203_100, o203_101, o203_102, o203_103, o203_106, o203_107, o203_108, o203_111, o203_112, o203_113, o203_115, o203_116, o203_119, o203_120, o203_121, o203_124, o203_125, o203_126, o203_127, o203_128, o203_129, c_X8_isQueue, c_X8_isThrown_, mc_pi, mc_pN, mn_pi, mn_pN, mi_pi, mi_pN, mr_pi, mr_pN, mt_pi, mz_pi, mz_pN, mcs_0, mcs_r, Kn_v, mrf_some, true_and, and_true, and_false, not_true_eq_false, not_false_eq_true, false_implies, forall_const, if_true, if_false, and_self, Nat.reduceEqDiff, Nat.reduceLeDiff, Nat.reduceSub, Nat.reduceAdd, Nat.zero_le, Nat.le_refl, i10, lt_le, Int32.reduceLT, cl0, cl1, cl2, cl3, cl4, cl5, cl6, cl7, Nat.reduceLT, hAe, kc22, kc25, kc26, kc31, kc34, kn25, kn26, kr22_2, kr22_3, kr25_0, kr26_0, kz, ki34_0, ki34_1, vq3, hta, hta2, hzt, vpk, Int32.reduceLT, g1, g2, g4, g5, g6]
  exact hQ _ (show Fr (p_i h (A 22) 9 0) _ from (Fr_pi (Fr_pi (Fr_pi (Fr_pi (Fr_pi (Fr_pi (Fr_pi (Fr_pN Fr_rfl) (Nat.le_refl _)) (Nat.le_refl _)) (Nat.le_refl _)) (Nat.le_refl _)) (Nat.le_refl _)) (Nat.le_refl _)) (Nat.le_refl _)))

theorem m_plX0_4 {A : Nat → Nat} {h : MH} {Q : MR → MH → Prop} (R : Rl A h) (hQ : ∀ m, Fr (p_i h (A 22) 9 0) m → Q (.inl (some (.int (g_i h (A 9) 6)))) m) : Ok 203 0 [.ref (A 22), .int 0, .int 4, mk0] [] h 1 7 Q := by
  have R0 := R
  obtain ⟨vk, vcn, v0, v1, v2, vp, vl0, vl1, vlr, vsr, vc, tx⟩ := R0
  have vk0 := vk
  have vcn0 := vcn
  (refine K_el vk0 ?_; intros hA kc0 kc1 kc2 kc3 kc4 kc5 kc6 kc7 kc8 kc9 kc10 kc11 kc12 kc13 kc14 kc15 kc16 kc17 kc18 kc19 kc20 kc21 kc22 kc23 kc24 kc25 kc26 kc27 kc28 kc29 kc30 kc31 kc32 kc33 kc34 kc35 kc36 kc37 kc38 kc39 kz kt kn3 kn4 kn18 kn21 kn23 kn24 kn25 kn26 kn27 kn29 kn30 kr0_0 kr0_1 kr0_2 kr0_3 kr0_4 kr0_5 kr0_7 kr0_8 kr0_9 kr0_10 kr1_0 kr2_0 kr5_0 kr5_1 kr6_0 kr6_1 kr7_0 kr7_1 kr8_0 kr9_0 kr10_0 kr11_0 kr12_0 kr13_0 kr14_0 kr15_0 kr16_0 kr17_0 kr19_0 kr19_1 kr22_0 kr22_1 kr22_2 kr22_3 kr22_4 kr22_5 kr22_7 kr22_8 kr25_0 kr25_1 kr25_2 kr26_0 kr26_1 kr26_2 kr29_0 kr29_1)
  (refine Cn_el vcn0 ?_; intros ki5_2 ki6_2 ki7_2 ki8_1 ki8_2 ki8_3 ki9_1 ki9_2 ki9_3 ki10_1 ki10_2 ki10_3 ki11_1 ki11_2 ki11_3 ki12_1 ki12_2 ki12_3 ki13_1 ki13_2 ki13_3 ki14_1 ki14_2 ki14_3 ki28_0 ki28_1 ki31_0 ki31_1 ki32_0 ki32_1 ki33_0 ki33_1 ki34_0 ki34_1 ki35_0 ki35_1 ki36_0 ki36_1)
  have hAe : ∀ i j, i < 40 → j < 40 → (A i = A j ↔ i = j) := hA
  have hta : ∀ i, i < 40 → (A i = g_t h) = False := fun i hi => eq_false (fun z => by have := kt i hi; omega)
  have hta2 : ∀ i, i < 40 → (g_t h = A i) = False := fun i hi => eq_false (fun z => by have := kt i hi; omega)
  have hzt : g_z h ≤ g_t h := Nat.le_trans (kz 0 (by decide)) (Nat.le_of_lt (kt 0 (by decide)))
  have he2 := v0.1
  simp only [cT, mT, Prod.mk.injEq] at he2
  obtain ⟨g1, g2, g3, g4, g5, g6, g7⟩ := he2
  replace g1 := g1.symm
  replace g2 := g2.symm
  replace g3 := g3.symm
  replace g4 := g4.symm
  replace g5 := g5.symm
  replace g6 := g6.symm
  simp only [o203_0, o203_1, o203_2, o203_5, o203_8, o203_9, o203_12, o203_13, o203_14, o203_17, o203_18, o203_20, o203_23, o203_24, o203_27, o203_28, o203_31, o203_34, o203_35, o203_36, o203_38, o203_40, o203_41, o203_42, o203_43, o203_46, o203_47, o203_48, o203_51, o203_52, o203_53, o203_54, o203_55, o203_58, o203_59, o203_60, o203_63, o203_64, o203_65, o203_66, o203_67, o203_70, o203_71, o203_72, o203_75, o203_76, o203_77, o203_78, o203_79, o203_82, o203_83, o203_84, o203_87, o203_88, o203_89, o203_90, o203_91, o203_94, o203_95, o203_96, o203_99, o203_100, o203_101, o203_102, o203_103, o203_106, o203_107, o203_108, o203_111, o203_112, o203_113, o203_115, o203_116, o203_119, o203_120, o203_121, o203_124, o203_125, o203_126, o203_127, o203_128, o203_129, c_X8_isQueue, c_X8_isThrown_, mc_pi, mc_pN, mn_pi, mn_pN, mi_pi, mi_pN, mr_pi, mr_pN, mt_pi, mz_pi, mz_pN, mcs_0, mcs_r, Kn_v, mrf_some, true_and, and_true, and_false, not_true_eq_false, not_false_eq_true, false_implies, forall_const, if_true, if_false, and_self, Nat.reduceEqDiff, Nat.reduceLeDiff, Nat.reduceSub, Nat.reduceAdd, Nat.zero_le, Nat.le_refl, i10, lt_le, Int32.reduceLT, cl0, cl1, cl2, cl3, cl4, cl5, cl6, cl7, Nat.reduceLT, hAe, kc22, kc25, kc26, kc31, kc34, kn25, kn26, kr22_2, kr22_3, kr25_0, kr26_0, kz, ki34_0, ki34_1, vq3, hta, hta2, hzt, vpk, Int32.reduceLT, g1, g2, g4, g5, g6]
  exact hQ _ (show Fr (p_i h (A 22) 9 0) _ from (Fr_pi (Fr_pi (Fr_pi (Fr_pi (Fr_pi (Fr_pi (Fr_pi (Fr_pN Fr_rfl) (Nat.le_refl _)) (Nat.le_refl _)) (Nat.le_refl _)) (Nat.le_refl _)) (Nat.le_refl _)) (Nat.le_refl _)) (Nat.le_refl _)))

theorem m_plX0_5 {A : Nat → Nat} {h : MH} {Q : MR → MH → Prop} (R : Rl A h) (hQ : ∀ m, Fr (p_i h (A 22) 9 0) m → Q (.inl (some (.int (5)))) m) : Ok 203 0 [.ref (A 22), .int 0, .int 5, mk0] [] h 1 7 Q := by
  have R0 := R
  obtain ⟨vk, vcn, v0, v1, v2, vp, vl0, vl1, vlr, vsr, vc, tx⟩ := R0
  have vk0 := vk
  have vcn0 := vcn
  (refine K_el vk0 ?_; intros hA kc0 kc1 kc2 kc3 kc4 kc5 kc6 kc7 kc8 kc9 kc10 kc11 kc12 kc13 kc14 kc15 kc16 kc17 kc18 kc19 kc20 kc21 kc22 kc23 kc24 kc25 kc26 kc27 kc28 kc29 kc30 kc31 kc32 kc33 kc34 kc35 kc36 kc37 kc38 kc39 kz kt kn3 kn4 kn18 kn21 kn23 kn24 kn25 kn26 kn27 kn29 kn30 kr0_0 kr0_1 kr0_2 kr0_3 kr0_4 kr0_5 kr0_7 kr0_8 kr0_9 kr0_10 kr1_0 kr2_0 kr5_0 kr5_1 kr6_0 kr6_1 kr7_0 kr7_1 kr8_0 kr9_0 kr10_0 kr11_0 kr12_0 kr13_0 kr14_0 kr15_0 kr16_0 kr17_0 kr19_0 kr19_1 kr22_0 kr22_1 kr22_2 kr22_3 kr22_4 kr22_5 kr22_7 kr22_8 kr25_0 kr25_1 kr25_2 kr26_0 kr26_1 kr26_2 kr29_0 kr29_1)
  (refine Cn_el vcn0 ?_; intros ki5_2 ki6_2 ki7_2 ki8_1 ki8_2 ki8_3 ki9_1 ki9_2 ki9_3 ki10_1 ki10_2 ki10_3 ki11_1 ki11_2 ki11_3 ki12_1 ki12_2 ki12_3 ki13_1 ki13_2 ki13_3 ki14_1 ki14_2 ki14_3 ki28_0 ki28_1 ki31_0 ki31_1 ki32_0 ki32_1 ki33_0 ki33_1 ki34_0 ki34_1 ki35_0 ki35_1 ki36_0 ki36_1)
  have hAe : ∀ i j, i < 40 → j < 40 → (A i = A j ↔ i = j) := hA
  have hta : ∀ i, i < 40 → (A i = g_t h) = False := fun i hi => eq_false (fun z => by have := kt i hi; omega)
  have hta2 : ∀ i, i < 40 → (g_t h = A i) = False := fun i hi => eq_false (fun z => by have := kt i hi; omega)
  have hzt : g_z h ≤ g_t h := Nat.le_trans (kz 0 (by decide)) (Nat.le_of_lt (kt 0 (by decide)))
  have he2 := v0.1
  simp only [cT, mT, Prod.mk.injEq] at he2
  obtain ⟨g1, g2, g3, g4, g5, g6, g7⟩ := he2
  replace g1 := g1.symm
  replace g2 := g2.symm
  replace g3 := g3.symm
  replace g4 := g4.symm
  replace g5 := g5.symm
  replace g6 := g6.symm
  simp only [o203_0, o203_1, o203_2, o203_5, o203_8, o203_9, o203_12, o203_13, o203_14, o203_17, o203_18, o203_20, o203_23, o203_24, o203_27, o203_28, o203_31, o203_34, o203_35, o203_36, o203_38, o203_40, o203_41, o203_42, o203_43, o203_46, o203_47, o203_48, o203_51, o203_52, o203_53, o203_54, o203_55, o203_58, o203_59, o203_60, o203_63, o203_64, o203_65, o203_66, o203_67, o203_70, o203_71, o203_72, o203_75, o203_76, o203_77, o203_78, o203_79, o203_82, o203_83, o203_84, o203_87, o203_88, o203_89, o203_90, o203_91, o203_94, o203_95, o203_96, o203_99, o203_100, o203_101, o203_102, o203_103, o203_106, o203_107, o203_108, o203_111, o203_112, o203_113, o203_115, o203_116, o203_119, o203_120, o203_121, o203_124, o203_125, o203_126, o203_127, o203_128, o203_129, c_X8_isQueue, c_X8_isThrown_, mc_pi, mc_pN, mn_pi, mn_pN, mi_pi, mi_pN, mr_pi, mr_pN, mt_pi, mz_pi, mz_pN, mcs_0, mcs_r, Kn_v, mrf_some, true_and, and_true, and_false, not_true_eq_false, not_false_eq_true, false_implies, forall_const, if_true, if_false, and_self, Nat.reduceEqDiff, Nat.reduceLeDiff, Nat.reduceSub, Nat.reduceAdd, Nat.zero_le, Nat.le_refl, i10, lt_le, Int32.reduceLT, cl0, cl1, cl2, cl3, cl4, cl5, cl6, cl7, Nat.reduceLT, hAe, kc22, kc25, kc26, kc31, kc34, kn25, kn26, kr22_2, kr22_3, kr25_0, kr26_0, kz, ki34_0, ki34_1, vq3, hta, hta2, hzt, vpk, Int32.reduceLT, g1, g2, g4, g5, g6]
  exact hQ _ (show Fr (p_i h (A 22) 9 0) _ from (Fr_pi (Fr_pi (Fr_pi (Fr_pi (Fr_pi (Fr_pi (Fr_pi (Fr_pN Fr_rfl) (Nat.le_refl _)) (Nat.le_refl _)) (Nat.le_refl _)) (Nat.le_refl _)) (Nat.le_refl _)) (Nat.le_refl _)) (Nat.le_refl _)))

theorem m_plX0_6 {A : Nat → Nat} {h : MH} {Q : MR → MH → Prop} (R : Rl A h) (hQ : ∀ m, Fr (p_i h (A 22) 9 0) m → Q (.inl (some (.int (1)))) m) : Ok 203 0 [.ref (A 22), .int 0, .int 6, mk0] [] h 1 7 Q := by
  have R0 := R
  obtain ⟨vk, vcn, v0, v1, v2, vp, vl0, vl1, vlr, vsr, vc, tx⟩ := R0
  have vk0 := vk
  have vcn0 := vcn
  (refine K_el vk0 ?_; intros hA kc0 kc1 kc2 kc3 kc4 kc5 kc6 kc7 kc8 kc9 kc10 kc11 kc12 kc13 kc14 kc15 kc16 kc17 kc18 kc19 kc20 kc21 kc22 kc23 kc24 kc25 kc26 kc27 kc28 kc29 kc30 kc31 kc32 kc33 kc34 kc35 kc36 kc37 kc38 kc39 kz kt kn3 kn4 kn18 kn21 kn23 kn24 kn25 kn26 kn27 kn29 kn30 kr0_0 kr0_1 kr0_2 kr0_3 kr0_4 kr0_5 kr0_7 kr0_8 kr0_9 kr0_10 kr1_0 kr2_0 kr5_0 kr5_1 kr6_0 kr6_1 kr7_0 kr7_1 kr8_0 kr9_0 kr10_0 kr11_0 kr12_0 kr13_0 kr14_0 kr15_0 kr16_0 kr17_0 kr19_0 kr19_1 kr22_0 kr22_1 kr22_2 kr22_3 kr22_4 kr22_5 kr22_7 kr22_8 kr25_0 kr25_1 kr25_2 kr26_0 kr26_1 kr26_2 kr29_0 kr29_1)
  (refine Cn_el vcn0 ?_; intros ki5_2 ki6_2 ki7_2 ki8_1 ki8_2 ki8_3 ki9_1 ki9_2 ki9_3 ki10_1 ki10_2 ki10_3 ki11_1 ki11_2 ki11_3 ki12_1 ki12_2 ki12_3 ki13_1 ki13_2 ki13_3 ki14_1 ki14_2 ki14_3 ki28_0 ki28_1 ki31_0 ki31_1 ki32_0 ki32_1 ki33_0 ki33_1 ki34_0 ki34_1 ki35_0 ki35_1 ki36_0 ki36_1)
  have hAe : ∀ i j, i < 40 → j < 40 → (A i = A j ↔ i = j) := hA
  have hta : ∀ i, i < 40 → (A i = g_t h) = False := fun i hi => eq_false (fun z => by have := kt i hi; omega)
  have hta2 : ∀ i, i < 40 → (g_t h = A i) = False := fun i hi => eq_false (fun z => by have := kt i hi; omega)
  have hzt : g_z h ≤ g_t h := Nat.le_trans (kz 0 (by decide)) (Nat.le_of_lt (kt 0 (by decide)))
  have he2 := v0.1
  simp only [cT, mT, Prod.mk.injEq] at he2
  obtain ⟨g1, g2, g3, g4, g5, g6, g7⟩ := he2
  replace g1 := g1.symm
  replace g2 := g2.symm
  replace g3 := g3.symm
  replace g4 := g4.symm
  replace g5 := g5.symm
  replace g6 := g6.symm
  simp only [o203_0, o203_1, o203_2, o203_5, o203_8, o203_9, o203_12, o203_13, o203_14, o203_17, o203_18, o203_20, o203_23, o203_24, o203_27, o203_28, o203_31, o203_34, o203_35, o203_36, o203_38, o203_40, o203_41, o203_42, o203_43, o203_46, o203_47, o203_48, o203_51, o203_52, o203_53, o203_54, o203_55, o203_58, o203_59, o203_60, o203_63, o203_64, o203_65, o203_66, o203_67, o203_70, o203_71, o203_72, o203_75, o203_76, o203_77, o203_78, o203_79, o203_82, o203_83, o203_84, o203_87, o203_88, o203_89, o203_90, o203_91, o203_94, o203_95, o203_96, o203_99, o203_100, o203_101, o203_102, o203_103, o203_106, o203_107, o203_108, o203_111, o203_112, o203_113, o203_115, o203_116, o203_119, o203_120, o203_121, o203_124, o203_125, o203_126, o203_127, o203_128, o203_129, c_X8_isQueue, c_X8_isThrown_, mc_pi, mc_pN, mn_pi, mn_pN, mi_pi, mi_pN, mr_pi, mr_pN, mt_pi, mz_pi, mz_pN, mcs_0, mcs_r, Kn_v, mrf_some, true_and, and_true, and_false, not_true_eq_false, not_false_eq_true, false_implies, forall_const, if_true, if_false, and_self, Nat.reduceEqDiff, Nat.reduceLeDiff, Nat.reduceSub, Nat.reduceAdd, Nat.zero_le, Nat.le_refl, i10, lt_le, Int32.reduceLT, cl0, cl1, cl2, cl3, cl4, cl5, cl6, cl7, Nat.reduceLT, hAe, kc22, kc25, kc26, kc31, kc34, kn25, kn26, kr22_2, kr22_3, kr25_0, kr26_0, kz, ki34_0, ki34_1, vq3, hta, hta2, hzt, vpk, Int32.reduceLT, g1, g2, g4, g5, g6]
  exact hQ _ (show Fr (p_i h (A 22) 9 0) _ from (Fr_pi (Fr_pi (Fr_pi (Fr_pi (Fr_pi (Fr_pi (Fr_pi (Fr_pN Fr_rfl) (Nat.le_refl _)) (Nat.le_refl _)) (Nat.le_refl _)) (Nat.le_refl _)) (Nat.le_refl _)) (Nat.le_refl _)) (Nat.le_refl _)))

theorem m_plX1_0 {A : Nat → Nat} {h : MH} {Q : MR → MH → Prop} (R : Rl A h) (hQ : ∀ m, Fr (p_i h (A 22) 9 0) m → Q (.inl (some (.int (g_i h (A 10) 4)))) m) : Ok 203 0 [.ref (A 22), .int 1, .int 0, mk0] [] h 1 7 Q := by
  have R0 := R
  obtain ⟨vk, vcn, v0, v1, v2, vp, vl0, vl1, vlr, vsr, vc, tx⟩ := R0
  have vk0 := vk
  have vcn0 := vcn
  (refine K_el vk0 ?_; intros hA kc0 kc1 kc2 kc3 kc4 kc5 kc6 kc7 kc8 kc9 kc10 kc11 kc12 kc13 kc14 kc15 kc16 kc17 kc18 kc19 kc20 kc21 kc22 kc23 kc24 kc25 kc26 kc27 kc28 kc29 kc30 kc31 kc32 kc33 kc34 kc35 kc36 kc37 kc38 kc39 kz kt kn3 kn4 kn18 kn21 kn23 kn24 kn25 kn26 kn27 kn29 kn30 kr0_0 kr0_1 kr0_2 kr0_3 kr0_4 kr0_5 kr0_7 kr0_8 kr0_9 kr0_10 kr1_0 kr2_0 kr5_0 kr5_1 kr6_0 kr6_1 kr7_0 kr7_1 kr8_0 kr9_0 kr10_0 kr11_0 kr12_0 kr13_0 kr14_0 kr15_0 kr16_0 kr17_0 kr19_0 kr19_1 kr22_0 kr22_1 kr22_2 kr22_3 kr22_4 kr22_5 kr22_7 kr22_8 kr25_0 kr25_1 kr25_2 kr26_0 kr26_1 kr26_2 kr29_0 kr29_1)
  (refine Cn_el vcn0 ?_; intros ki5_2 ki6_2 ki7_2 ki8_1 ki8_2 ki8_3 ki9_1 ki9_2 ki9_3 ki10_1 ki10_2 ki10_3 ki11_1 ki11_2 ki11_3 ki12_1 ki12_2 ki12_3 ki13_1 ki13_2 ki13_3 ki14_1 ki14_2 ki14_3 ki28_0 ki28_1 ki31_0 ki31_1 ki32_0 ki32_1 ki33_0 ki33_1 ki34_0 ki34_1 ki35_0 ki35_1 ki36_0 ki36_1)
  have hAe : ∀ i j, i < 40 → j < 40 → (A i = A j ↔ i = j) := hA
  have hta : ∀ i, i < 40 → (A i = g_t h) = False := fun i hi => eq_false (fun z => by have := kt i hi; omega)
  have hta2 : ∀ i, i < 40 → (g_t h = A i) = False := fun i hi => eq_false (fun z => by have := kt i hi; omega)
  have hzt : g_z h ≤ g_t h := Nat.le_trans (kz 0 (by decide)) (Nat.le_of_lt (kt 0 (by decide)))
  have he2 := v1.1
  simp only [cT, mT, Prod.mk.injEq] at he2
  obtain ⟨g1, g2, g3, g4, g5, g6, g7⟩ := he2
  replace g1 := g1.symm
  replace g2 := g2.symm
  replace g3 := g3.symm
  replace g4 := g4.symm
  replace g5 := g5.symm
  replace g6 := g6.symm
  simp only [o203_0, o203_1, o203_2, o203_5, o203_8, o203_9, o203_12, o203_13, o203_14, o203_17, o203_18, o203_20, o203_23, o203_24, o203_27, o203_28, o203_31, o203_34, o203_35, o203_36, o203_38, o203_40, o203_41, o203_42, o203_43, o203_46, o203_47, o203_48, o203_51, o203_52, o203_53, o203_54, o203_55, o203_58, o203_59, o203_60, o203_63, o203_64, o203_65, o203_66, o203_67, o203_70, o203_71, o203_72, o203_75, o203_76, o203_77, o203_78, o203_79, o203_82, o203_83, o203_84, o203_87, o203_88, o203_89, o203_90, o203_91, o203_94, o203_95, o203_96, o203_99, o203_100, o203_101, o203_102, o203_103, o203_106, o203_107, o203_108, o203_111, o203_112, o203_113, o203_115, o203_116, o203_119, o203_120, o203_121, o203_124, o203_125, o203_126, o203_127, o203_128, o203_129, c_X8_isQueue, c_X8_isThrown_, mc_pi, mc_pN, mn_pi, mn_pN, mi_pi, mi_pN, mr_pi, mr_pN, mt_pi, mz_pi, mz_pN, mcs_0, mcs_r, Kn_v, mrf_some, true_and, and_true, and_false, not_true_eq_false, not_false_eq_true, false_implies, forall_const, if_true, if_false, and_self, Nat.reduceEqDiff, Nat.reduceLeDiff, Nat.reduceSub, Nat.reduceAdd, Nat.zero_le, Nat.le_refl, i10, lt_le, Int32.reduceLT, cl0, cl1, cl2, cl3, cl4, cl5, cl6, cl7, Nat.reduceLT, hAe, kc22, kc25, kc26, kc32, kc35, kn25, kn26, kr22_2, kr22_3, kr25_1, kr26_1, kz, ki35_0, ki35_1, vq3, hta, hta2, hzt, vpk, Int32.reduceLT, g1, g2, g4, g5, g6]
  exact hQ _ (show Fr (p_i h (A 22) 9 0) _ from (Fr_pi (Fr_pi (Fr_pi (Fr_pi (Fr_pi (Fr_pi (Fr_pi (Fr_pN Fr_rfl) (Nat.le_refl _)) (Nat.le_refl _)) (Nat.le_refl _)) (Nat.le_refl _)) (Nat.le_refl _)) (Nat.le_refl _)) (Nat.le_refl _)))

theorem m_plX1_1 {A : Nat → Nat} {h : MH} {Q : MR → MH → Prop} (R : Rl A h) (hQ : ∀ m, Fr (p_i h (A 22) 9 0) m → Q (.inl (some (.int (g_i h (A 10) 5)))) m) : Ok 203 0 [.ref (A 22), .int 1, .int 1, mk0] [] h 1 7 Q := by
  have R0 := R
  obtain ⟨vk, vcn, v0, v1, v2, vp, vl0, vl1, vlr, vsr, vc, tx⟩ := R0
  have vk0 := vk
  have vcn0 := vcn
  (refine K_el vk0 ?_; intros hA kc0 kc1 kc2 kc3 kc4 kc5 kc6 kc7 kc8 kc9 kc10 kc11 kc12 kc13 kc14 kc15 kc16 kc17 kc18 kc19 kc20 kc21 kc22 kc23 kc24 kc25 kc26 kc27 kc28 kc29 kc30 kc31 kc32 kc33 kc34 kc35 kc36 kc37 kc38 kc39 kz kt kn3 kn4 kn18 kn21 kn23 kn24 kn25 kn26 kn27 kn29 kn30 kr0_0 kr0_1 kr0_2 kr0_3 kr0_4 kr0_5 kr0_7 kr0_8 kr0_9 kr0_10 kr1_0 kr2_0 kr5_0 kr5_1 kr6_0 kr6_1 kr7_0 kr7_1 kr8_0 kr9_0 kr10_0 kr11_0 kr12_0 kr13_0 kr14_0 kr15_0 kr16_0 kr17_0 kr19_0 kr19_1 kr22_0 kr22_1 kr22_2 kr22_3 kr22_4 kr22_5 kr22_7 kr22_8 kr25_0 kr25_1 kr25_2 kr26_0 kr26_1 kr26_2 kr29_0 kr29_1)
  (refine Cn_el vcn0 ?_; intros ki5_2 ki6_2 ki7_2 ki8_1 ki8_2 ki8_3 ki9_1 ki9_2 ki9_3 ki10_1 ki10_2 ki10_3 ki11_1 ki11_2 ki11_3 ki12_1 ki12_2 ki12_3 ki13_1 ki13_2 ki13_3 ki14_1 ki14_2 ki14_3 ki28_0 ki28_1 ki31_0 ki31_1 ki32_0 ki32_1 ki33_0 ki33_1 ki34_0 ki34_1 ki35_0 ki35_1 ki36_0 ki36_1)
  have hAe : ∀ i j, i < 40 → j < 40 → (A i = A j ↔ i = j) := hA
  have hta : ∀ i, i < 40 → (A i = g_t h) = False := fun i hi => eq_false (fun z => by have := kt i hi; omega)
  have hta2 : ∀ i, i < 40 → (g_t h = A i) = False := fun i hi => eq_false (fun z => by have := kt i hi; omega)
  have hzt : g_z h ≤ g_t h := Nat.le_trans (kz 0 (by decide)) (Nat.le_of_lt (kt 0 (by decide)))
  have he2 := v1.1
  simp only [cT, mT, Prod.mk.injEq] at he2
  obtain ⟨g1, g2, g3, g4, g5, g6, g7⟩ := he2
  replace g1 := g1.symm
  replace g2 := g2.symm
  replace g3 := g3.symm
  replace g4 := g4.symm
  replace g5 := g5.symm
  replace g6 := g6.symm
  simp only [o203_0, o203_1, o203_2, o203_5, o203_8, o203_9, o203_12, o203_13, o203_14, o203_17, o203_18, o203_20, o203_23, o203_24, o203_27, o203_28, o203_31, o203_34, o203_35, o203_36, o203_38, o203_40, o203_41, o203_42, o203_43, o203_46, o203_47, o203_48, o203_51, o203_52, o203_53, o203_54, o203_55, o203_58, o203_59, o203_60, o203_63, o203_64, o203_65, o203_66, o203_67, o203_70, o203_71, o203_72, o203_75, o203_76, o203_77, o203_78, o203_79, o203_82, o203_83, o203_84, o203_87, o203_88, o203_89, o203_90, o203_91, o203_94, o203_95, o203_96, o203_99, o203_100, o203_101, o203_102, o203_103, o203_106, o203_107, o203_108, o203_111, o203_112, o203_113, o203_115, o203_116, o203_119, o203_120, o203_121, o203_124, o203_125, o203_126, o203_127, o203_128, o203_129, c_X8_isQueue, c_X8_isThrown_, mc_pi, mc_pN, mn_pi, mn_pN, mi_pi, mi_pN, mr_pi, mr_pN, mt_pi, mz_pi, mz_pN, mcs_0, mcs_r, Kn_v, mrf_some, true_and, and_true, and_false, not_true_eq_false, not_false_eq_true, false_implies, forall_const, if_true, if_false, and_self, Nat.reduceEqDiff, Nat.reduceLeDiff, Nat.reduceSub, Nat.reduceAdd, Nat.zero_le, Nat.le_refl, i10, lt_le, Int32.reduceLT, cl0, cl1, cl2, cl3, cl4, cl5, cl6, cl7, Nat.reduceLT, hAe, kc22, kc25, kc26, kc32, kc35, kn25, kn26, kr22_2, kr22_3, kr25_1, kr26_1, kz, ki35_0, ki35_1, vq3, hta, hta2, hzt, vpk, Int32.reduceLT, g1, g2, g4, g5, g6]
  exact hQ _ (show Fr (p_i h (A 22) 9 0) _ from (Fr_pi (Fr_pi (Fr_pi (Fr_pi (Fr_pi (Fr_pi (Fr_pi (Fr_pN Fr_rfl) (Nat.le_refl _)) (Nat.le_refl _)) (Nat.le_refl _)) (Nat.le_refl _)) (Nat.le_refl _)) (Nat.le_refl _)) (Nat.le_refl _)))

theorem m_plX1_2 {A : Nat → Nat} {h : MH} {Q : MR → MH → Prop} (R : Rl A h) (hQ : ∀ m, Fr (p_i h (A 22) 9 0) m → Q (.inl (some (.int (g_i h (A 11) 4)))) m) : Ok 203 0 [.ref (A 22), .int 1, .int 2, mk0] [] h 1 7 Q := by
  have R0 := R
  obtain ⟨vk, vcn, v0, v1, v2, vp, vl0, vl1, vlr, vsr, vc, tx⟩ := R0
  have vk0 := vk
  have vcn0 := vcn
  (refine K_el vk0 ?_; intros hA kc0 kc1 kc2 kc3 kc4 kc5 kc6 kc7 kc8 kc9 kc10 kc11 kc12 kc13 kc14 kc15 kc16 kc17 kc18 kc19 kc20 kc21 kc22 kc23 kc24 kc25 kc26 kc27 kc28 kc29 kc30 kc31 kc32 kc33 kc34 kc35 kc36 kc37 kc38 kc39 kz kt kn3 kn4 kn18 kn21 kn23 kn24 kn25 kn26 kn27 kn29 kn30 kr0_0 kr0_1 kr0_2 kr0_3 kr0_4 kr0_5 kr0_7 kr0_8 kr0_9 kr0_10 kr1_0 kr2_0 kr5_0 kr5_1 kr6_0 kr6_1 kr7_0 kr7_1 kr8_0 kr9_0 kr10_0 kr11_0 kr12_0 kr13_0 kr14_0 kr15_0 kr16_0 kr17_0 kr19_0 kr19_1 kr22_0 kr22_1 kr22_2 kr22_3 kr22_4 kr22_5 kr22_7 kr22_8 kr25_0 kr25_1 kr25_2 kr26_0 kr26_1 kr26_2 kr29_0 kr29_1)
  (refine Cn_el vcn0 ?_; intros ki5_2 ki6_2 ki7_2 ki8_1 ki8_2 ki8_3 ki9_1 ki9_2 ki9_3 ki10_1 ki10_2 ki10_3 ki11_1 ki11_2 ki11_3 ki12_1 ki12_2 ki12_3 ki13_1 ki13_2 ki13_3 ki14_1 ki14_2 ki14_3 ki28_0 ki28_1 ki31_0 ki31_1 ki32_0 ki32_1 ki33_0 ki33_1 ki34_0 ki34_1 ki35_0 ki35_1 ki36_0 ki36_1)
  have hAe : ∀ i j, i < 40 → j < 40 → (A i = A j ↔ i = j) := hA
  have hta : ∀ i, i < 40 → (A i = g_t h) = False := fun i hi => eq_false (fun z => by have := kt i hi; omega)
  have hta2 : ∀ i, i < 40 → (g_t h = A i) = False := fun i hi => eq_false (fun z => by have := kt i hi; omega)
  have hzt : g_z h ≤ g_t h := Nat.le_trans (kz 0 (by decide)) (Nat.le_of_lt (kt 0 (by decide)))
  have he2 := v1.1
  simp only [cT, mT, Prod.mk.injEq] at he2
  obtain ⟨g1, g2, g3, g4, g5, g6, g7⟩ := he2
  replace g1 := g1.symm
  replace g2 := g2.symm
  replace g3 := g3.symm
  replace g4 := g4.symm
  replace g5 := g5.symm
  replace g6 := g6.symm
  simp only [o203_0, o203_1, o203_2, o203_5, o203_8, o203_9, o203_12, o203_13, o203_14, o203_17, o203_18, o203_20, o203_23, o203_24, o203_27, o203_28, o203_31, o203_34, o203_35, o203_36, o203_38, o203_40, o203_41, o203_42, o203_43, o203_46, o203_47, o203_48, o203_51, o203_52, o203_53, o203_54, o203_55, o203_58, o203_59, o203_60, o203_63, o203_64, o203_65, o203_66, o203_67, o203_70, o203_71, o203_72, o203_75, o203_76, o203_77, o203_78, o203_79, o203_82, o203_83, o203_84, o203_87, o203_88, o203_89, o203_90, o203_91, o203_94, o203_95, o203_96, o203_99, o203_100, o203_101, o203_102, o203_103, o203_106, o203_107, o203_108, o203_111, o203_112, o203_113, o203_115, o203_116, o203_119, o203_120, o203_121, o203_124, o203_125, o203_126, o203_127, o203_128, o203_129, c_X8_isQueue, c_X8_isThrown_, mc_pi, mc_pN, mn_pi, mn_pN, mi_pi, mi_pN, mr_pi, mr_pN, mt_pi, mz_pi, mz_pN, mcs_0, mcs_r, Kn_v, mrf_some, true_and, and_true, and_false, not_true_eq_false, not_false_eq_true, false_implies, forall_const, if_true, if_false, and_self, Nat.reduceEqDiff, Nat.reduceLeDiff, Nat.reduceSub, Nat.reduceAdd, Nat.zero_le, Nat.le_refl, i10, lt_le, Int32.reduceLT, cl0, cl1, cl2, cl3, cl4, cl5, cl6, cl7, Nat.reduceLT, hAe, kc22, kc25, kc26, kc32, kc35, kn25, kn26, kr22_2, kr22_3, kr25_1, kr26_1, kz, ki35_0, ki35_1, vq3, hta, hta2, hzt, vpk, Int32.reduceLT, g1, g2, g4, g5, g6]
  exact hQ _ (show Fr (p_i h (A 22) 9 0) _ from (Fr_pi (Fr_pi (Fr_pi (Fr_pi (Fr_pi (Fr_pi (Fr_pi (Fr_pN Fr_rfl) (Nat.le_refl _)) (Nat.le_refl _)) (Nat.le_refl _)) (Nat.le_refl _)) (Nat.le_refl _)) (Nat.le_refl _)) (Nat.le_refl _)))

theorem m_plX1_3 {A : Nat → Nat} {h : MH} {Q : MR → MH → Prop} (R : Rl A h) (hQ : ∀ m, Fr (p_i h (A 22) 9 0) m → Q (.inl (some (.int (g_i h (A 11) 5)))) m) : Ok 203 0 [.ref (A 22), .int 1, .int 3, mk0] [] h 1 7 Q := by
  have R0 := R
  obtain ⟨vk, vcn, v0, v1, v2, vp, vl0, vl1, vlr, vsr, vc, tx⟩ := R0
  have vk0 := vk
  have vcn0 := vcn
  (refine K_el vk0 ?_; intros hA kc0 kc1 kc2 kc3 kc4 kc5 kc6 kc7 kc8 kc9 kc10 kc11 kc12 kc13 kc14 kc15 kc16 kc17 kc18 kc19 kc20 kc21 kc22 kc23 kc24 kc25 kc26 kc27 kc28 kc29 kc30 kc31 kc32 kc33 kc34 kc35 kc36 kc37 kc38 kc39 kz kt kn3 kn4 kn18 kn21 kn23 kn24 kn25 kn26 kn27 kn29 kn30 kr0_0 kr0_1 kr0_2 kr0_3 kr0_4 kr0_5 kr0_7 kr0_8 kr0_9 kr0_10 kr1_0 kr2_0 kr5_0 kr5_1 kr6_0 kr6_1 kr7_0 kr7_1 kr8_0 kr9_0 kr10_0 kr11_0 kr12_0 kr13_0 kr14_0 kr15_0 kr16_0 kr17_0 kr19_0 kr19_1 kr22_0 kr22_1 kr22_2 kr22_3 kr22_4 kr22_5 kr22_7 kr22_8 kr25_0 kr25_1 kr25_2 kr26_0 kr26_1 kr26_2 kr29_0 kr29_1)
  (refine Cn_el vcn0 ?_; intros ki5_2 ki6_2 ki7_2 ki8_1 ki8_2 ki8_3 ki9_1 ki9_2 ki9_3 ki10_1 ki10_2 ki10_3 ki11_1 ki11_2 ki11_3 ki12_1 ki12_2 ki12_3 ki13_1 ki13_2 ki13_3 ki14_1 ki14_2 ki14_3 ki28_0 ki28_1 ki31_0 ki31_1 ki32_0 ki32_1 ki33_0 ki33_1 ki34_0 ki34_1 ki35_0 ki35_1 ki36_0 ki36_1)
  have hAe : ∀ i j, i < 40 → j < 40 → (A i = A j ↔ i = j) := hA
  have hta : ∀ i, i < 40 → (A i = g_t h) = False := fun i hi => eq_false (fun z => by have := kt i hi; omega)
  have hta2 : ∀ i, i < 40 → (g_t h = A i) = False := fun i hi => eq_false (fun z => by have := kt i hi; omega)
  have hzt : g_z h ≤ g_t h := Nat.le_trans (kz 0 (by decide)) (Nat.le_of_lt (kt 0 (by decide)))
  have he2 := v1.1
  simp only [cT, mT, Prod.mk.injEq] at he2
  obtain ⟨g1, g2, g3, g4, g5, g6, g7⟩ := he2
  replace g1 := g1.symm
  replace g2 := g2.symm
  replace g3 := g3.symm
  replace g4 := g4.symm
  replace g5 := g5.symm
  replace g6 := g6.symm
  simp only [o203_0, o203_1, o203_2, o203_5, o203_8, o203_9, o203_12, o203_13, o203_14, o203_17, o203_18, o203_20, o203_23, o203_24, o203_27, o203_28, o203_31, o203_34, o203_35, o203_36, o203_38, o203_40, o203_41, o203_42, o203_43, o203_46, o203_47, o203_48, o203_51, o203_52, o203_53, o203_54, o203_55, o203_58, o203_59, o203_60, o203_63, o203_64, o203_65, o203_66, o203_67, o203_70, o203_71, o203_72, o203_75, o203_76, o203_77, o203_78, o203_79, o203_82, o203_83, o203_84, o203_87, o203_88, o203_89, o203_90, o203_91, o203_94, o203_95, o203_96, o203_99, o203_100, o203_101, o203_102, o203_103, o203_106, o203_107, o203_108, o203_111, o203_112, o203_113, o203_115, o203_116, o203_119, o203_120, o203_121, o203_124, o203_125, o203_126, o203_127, o203_128, o203_129, c_X8_isQueue, c_X8_isThrown_, mc_pi, mc_pN, mn_pi, mn_pN, mi_pi, mi_pN, mr_pi, mr_pN, mt_pi, mz_pi, mz_pN, mcs_0, mcs_r, Kn_v, mrf_some, true_and, and_true, and_false, not_true_eq_false, not_false_eq_true, false_implies, forall_const, if_true, if_false, and_self, Nat.reduceEqDiff, Nat.reduceLeDiff, Nat.reduceSub, Nat.reduceAdd, Nat.zero_le, Nat.le_refl, i10, lt_le, Int32.reduceLT, cl0, cl1, cl2, cl3, cl4, cl5, cl6, cl7, Nat.reduceLT, hAe, kc22, kc25, kc26, kc32, kc35, kn25, kn26, kr22_2, kr22_3, kr25_1, kr26_1, kz, ki35_0, ki35_1, vq3, hta, hta2, hzt, vpk, Int32.reduceLT, g1, g2, g4, g5, g6]
  exact hQ _ (show Fr (p_i h (A 22) 9 0) _ from (Fr_pi (Fr_pi (Fr_pi (Fr_pi (Fr_pi (Fr_pi (Fr_pi (Fr_pN Fr_rfl) (Nat.le_refl _)) (Nat.le_refl _)) (Nat.le_refl _)) (Nat.le_refl _)) (Nat.le_refl _)) (Nat.le_refl _)) (Nat.le_refl _)))

theorem m_plX1_4 {A : Nat → Nat} {h : MH} {Q : MR → MH → Prop} (R : Rl A h) (hQ : ∀ m, Fr (p_i h (A 22) 9 0) m → Q (.inl (some (.int (g_i h (A 11) 6)))) m) : Ok 203 0 [.ref (A 22), .int 1, .int 4, mk0] [] h 1 7 Q := by
  have R0 := R
  obtain ⟨vk, vcn, v0, v1, v2, vp, vl0, vl1, vlr, vsr, vc, tx⟩ := R0
  have vk0 := vk
  have vcn0 := vcn
  (refine K_el vk0 ?_; intros hA kc0 kc1 kc2 kc3 kc4 kc5 kc6 kc7 kc8 kc9 kc10 kc11 kc12 kc13 kc14 kc15 kc16 kc17 kc18 kc19 kc20 kc21 kc22 kc23 kc24 kc25 kc26 kc27 kc28 kc29 kc30 kc31 kc32 kc33 kc34 kc35 kc36 kc37 kc38 kc39 kz kt kn3 kn4 kn18 kn21 kn23 kn24 kn25 kn26 kn27 kn29 kn30 kr0_0 kr0_1 kr0_2 kr0_3 kr0_4 kr0_5 kr0_7 kr0_8 kr0_9 kr0_10 kr1_0 kr2_0 kr5_0 kr5_1 kr6_0 kr6_1 kr7_0 kr7_1 kr8_0 kr9_0 kr10_0 kr11_0 kr12_0 kr13_0 kr14_0 kr15_0 kr16_0 kr17_0 kr19_0 kr19_1 kr22_0 kr22_1 kr22_2 kr22_3 kr22_4 kr22_5 kr22_7 kr22_8 kr25_0 kr25_1 kr25_2 kr26_0 kr26_1 kr26_2 kr29_0 kr29_1)
  (refine Cn_el vcn0 ?_; intros ki5_2 ki6_2 ki7_2 ki8_1 ki8_2 ki8_3 ki9_1 ki9_2 ki9_3 ki10_1 ki10_2 ki10_3 ki11_1 ki11_2 ki11_3 ki12_1 ki12_2 ki12_3 ki13_1 ki13_2 ki13_3 ki14_1 ki14_2 ki14_3 ki28_0 ki28_1 ki31_0 ki31_1 ki32_0 ki32_1 ki33_0 ki33_1 ki34_0 ki34_1 ki35_0 ki35_1 ki36_0 ki36_1)
  have hAe : ∀ i j, i < 40 → j < 40 → (A i = A j ↔ i = j) := hA
  have hta : ∀ i, i < 40 → (A i = g_t h) = False := fun i hi => eq_false (fun z => by have := kt i hi; omega)
  have hta2 : ∀ i, i < 40 → (g_t h = A i) = False := fun i hi => eq_false (fun z => by have := kt i hi; omega)
  have hzt : g_z h ≤ g_t h := Nat.le_trans (kz 0 (by decide)) (Nat.le_of_lt (kt 0 (by decide)))
  have he2 := v1.1
  simp only [cT, mT, Prod.mk.injEq] at he2
  obtain ⟨g1, g2, g3, g4, g5, g6, g7⟩ := he2
  replace g1 := g1.symm
  replace g2 := g2.symm
  replace g3 := g3.symm
  replace g4 := g4.symm
  replace g5 := g5.symm
  replace g6 := g6.symm
  simp only [o203_0, o203_1, o203_2, o203_5, o203_8, o203_9, o203_12, o203_13, o203_14, o203_17, o203_18, o203_20, o203_23, o203_24, o203_27, o203_28, o203_31, o203_34, o203_35, o203_36, o203_38, o203_40, o203_41, o203_42, o203_43, o203_46, o203_47, o203_48, o203_51, o203_52, o203_53, o203_54, o203_55, o203_58, o203_59, o203_60, o203_63, o203_64, o203_65, o203_66, o203_67, o203_70, o203_71, o203_72, o203_75, o203_76, o203_77, o203_78, o203_79, o203_82, o203_83, o203_84, o203_87, o203_88, o203_89, o203_90, o203_91, o203_94, o203_95, o203_96, o203_99, o203_100, o203_101, o203_102, o203_103, o203_106, o203_107, o203_108, o203_111, o203_112, o203_113, o203_115, o203_116, o203_119, o203_120, o203_121, o203_124, o203_125, o203_126, o203_127, o203_128, o203_129, c_X8_isQueue, c_X8_isThrown_, mc_pi, mc_pN, mn_pi, mn_pN, mi_pi, mi_pN, mr_pi, mr_pN, mt_pi, mz_pi, mz_pN, mcs_0, mcs_r, Kn_v, mrf_some, true_and, and_true, and_false, not_true_eq_false, not_false_eq_true, false_implies, forall_const, if_true, if_false, and_self, Nat.reduceEqDiff, Nat.reduceLeDiff, Nat.reduceSub, Nat.reduceAdd, Nat.zero_le, Nat.le_refl, i10, lt_le, Int32.reduceLT, cl0, cl1, cl2, cl3, cl4, cl5, cl6, cl7, Nat.reduceLT, hAe, kc22, kc25, kc26, kc32, kc35, kn25, kn26, kr22_2, kr22_3, kr25_1, kr26_1, kz, ki35_0, ki35_1, vq3, hta, hta2, hzt, vpk, Int32.reduceLT, g1, g2, g4, g5, g6]
  exact hQ _ (show Fr (p_i h (A 22) 9 0) _ from (Fr_pi (Fr_pi (Fr_pi (Fr_pi (Fr_pi (Fr_pi (Fr_pi (Fr_pN Fr_rfl) (Nat.le_refl _)) (Nat.le_refl _)) (Nat.le_refl _)) (Nat.le_refl _)) (Nat.le_refl _)) (Nat.le_refl _)) (Nat.le_refl _)))

theorem m_plX1_5 {A : Nat → Nat} {h : MH} {Q : MR → MH → Prop} (R : Rl A h) (hQ : ∀ m, Fr (p_i h (A 22) 9 0) m → Q (.inl (some (.int (3)))) m) : Ok 203 0 [.ref (A 22), .int 1, .int 5, mk0] [] h 1 7 Q := by
  have R0 := R
  obtain ⟨vk, vcn, v0, v1, v2, vp, vl0, vl1, vlr, vsr, vc, tx⟩ := R0
  have vk0 := vk
  have vcn0 := vcn
  (refine K_el vk0 ?_; intros hA kc0 kc1 kc2 kc3 kc4 kc5 kc6 kc7 kc8 kc9 kc10 kc11 kc12 kc13 kc14 kc15 kc16 kc17 kc18 kc19 kc20 kc21 kc22 kc23 kc24 kc25 kc26 kc27 kc28 kc29 kc30 kc31 kc32 kc33 kc34 kc35 kc36 kc37 kc38 kc39 kz kt kn3 kn4 kn18 kn21 kn23 kn24 kn25 kn26 kn27 kn29 kn30 kr0_0 kr0_1 kr0_2 kr0_3 kr0_4 kr0_5 kr0_7 kr0_8 kr0_9 kr0_10 kr1_0 kr2_0 kr5_0 kr5_1 kr6_0 kr6_1 kr7_0 kr7_1 kr8_0 kr9_0 kr10_0 kr11_0 kr12_0 kr13_0 kr14_0 kr15_0 kr16_0 kr17_0 kr19_0 kr19_1 kr22_0 kr22_1 kr22_2 kr22_3 kr22_4 kr22_5 kr22_7 kr22_8 kr25_0 kr25_1 kr25_2 kr26_0 kr26_1 kr26_2 kr29_0 kr29_1)
  (refine Cn_el vcn0 ?_; intros ki5_2 ki6_2 ki7_2 ki8_1 ki8_2 ki8_3 ki9_1 ki9_2 ki9_3 ki10_1 ki10_2 ki10_3 ki11_1 ki11_2 ki11_3 ki12_1 ki12_2 ki12_3 ki13_1 ki13_2 ki13_3 ki14_1 ki14_2 ki14_3 ki28_0 ki28_1 ki31_0 ki31_1 ki32_0 ki32_1 ki33_0 ki33_1 ki34_0 ki34_1 ki35_0 ki35_1 ki36_0 ki36_1)
  have hAe : ∀ i j, i < 40 → j < 40 → (A i = A j ↔ i = j) := hA
  have hta : ∀ i, i < 40 → (A i = g_t h) = False := fun i hi => eq_false (fun z => by have := kt i hi; omega)
  have hta2 : ∀ i, i < 40 → (g_t h = A i) = False := fun i hi => eq_false (fun z => by have := kt i hi; omega)
  have hzt : g_z h ≤ g_t h := Nat.le_trans (kz 0 (by decide)) (Nat.le_of_lt (kt 0 (by decide)))
  have he2 := v1.1
  simp only [cT, mT, Prod.mk.injEq] at he2
  obtain ⟨g1, g2, g3, g4, g5, g6, g7⟩ := he2
  replace g1 := g1.symm
  replace g2 := g2.symm
  replace g3 := g3.symm
  replace g4 := g4.symm
  replace g5 := g5.symm
  replace g6 := g6.symm
  simp only [o203_0, o203_1, o203_2, o203_5, o203_8, o203_9, o203_12, o203_13, o203_14, o203_17, o203_18, o203_20, o203_23, o203_24, o203_27, o203_28, o203_31, o203_34, o203_35, o203_36, o203_38, o203_40, o203_41, o203_42, o203_43, o203_46, o203_47, o203_48, o203_51, o203_52, o203_53, o203_54, o203_55, o203_58, o203_59, o203_60, o203_63, o203_64, o203_65, o203_66, o203_67, o203_70, o203_71, o203_72, o203_75, o203_76, o203_77, o203_78, o203_79, o203_82, o203_83, o203_84, o203_87, o203_88, o203_89, o203_90, o203_91, o203_94, o203_95, o203_96, o203_99, o203_100, o203_101, o203_102, o203_103, o203_106, o203_107, o203_108, o203_111, o203_112, o203_113, o203_115, o203_116, o203_119, o203_120, o203_121, o203_124, o203_125, o203_126, o203_127, o203_128, o203_129, c_X8_isQueue, c_X8_isThrown_, mc_pi, mc_pN, mn_pi, mn_pN, mi_pi, mi_pN, mr_pi, mr_pN, mt_pi, mz_pi, mz_pN, mcs_0, mcs_r, Kn_v, mrf_some, true_and, and_true, and_false, not_true_eq_false, not_false_eq_true, false_implies, forall_const, if_true, if_false, and_self, Nat.reduceEqDiff, Nat.reduceLeDiff, Nat.reduceSub, Nat.reduceAdd, Nat.zero_le, Nat.le_refl, i10, lt_le, Int32.reduceLT, cl0, cl1, cl2, cl3, cl4, cl5, cl6, cl7, Nat.reduceLT, hAe, kc22, kc25, kc26, kc32, kc35, kn25, kn26, kr22_2, kr22_3, kr25_1, kr26_1, kz, ki35_0, ki35_1, vq3, hta, hta2, hzt, vpk, Int32.reduceLT, g1, g2, g4, g5, g6]
  exact hQ _ (show Fr (p_i h (A 22) 9 0) _ from (Fr_pi (Fr_pi (Fr_pi (Fr_pi (Fr_pi (Fr_pi (Fr_pi (Fr_pN Fr_rfl) (Nat.le_refl _)) (Nat.le_refl _)) (Nat.le_refl _)) (Nat.le_refl _)) (Nat.le_refl _)) (Nat.le_refl _)) (Nat.le_refl _)))

theorem m_plX1_6 {A : Nat → Nat} {h : MH} {Q : MR → MH → Prop} (R : Rl A h) (hQ : ∀ m, Fr (p_i h (A 22) 9 0) m → Q (.inl (some (.int (6)))) m) : Ok 203 0 [.ref (A 22), .int 1, .int 6, mk0] [] h 1 7 Q := by
  have R0 := R
  obtain ⟨vk, vcn, v0, v1, v2, vp, vl0, vl1, vlr, vsr, vc, tx⟩ := R0
  have vk0 := vk
  have vcn0 := vcn
  (refine K_el vk0 ?_; intros hA kc0 kc1 kc2 kc3 kc4 kc5 kc6 kc7 kc8 kc9 kc10 kc11 kc12 kc13 kc14 kc15 kc16 kc17 kc18 kc19 kc20 kc21 kc22 kc23 kc24 kc25 kc26 kc27 kc28 kc29 kc30 kc31 kc32 kc33 kc34 kc35 kc36 kc37 kc38 kc39 kz kt kn3 kn4 kn18 kn21 kn23 kn24 kn25 kn26 kn27 kn29 kn30 kr0_0 kr0_1 kr0_2 kr0_3 kr0_4 kr0_5 kr0_7 kr0_8 kr0_9 kr0_10 kr1_0 kr2_0 kr5_0 kr5_1 kr6_0 kr6_1 kr7_0 kr7_1 kr8_0 kr9_0 kr10_0 kr11_0 kr12_0 kr13_0 kr14_0 kr15_0 kr16_0 kr17_0 kr19_0 kr19_1 kr22_0 kr22_1 kr22_2 kr22_3 kr22_4 kr22_5 kr22_7 kr22_8 kr25_0 kr25_1 kr25_2 kr26_0 kr26_1 kr26_2 kr29_0 kr29_1)
  (refine Cn_el vcn0 ?_; intros ki5_2 ki6_2 ki7_2 ki8_1 ki8_2 ki8_3 ki9_1 ki9_2 ki9_3 ki10_1 ki10_2 ki10_3 ki11_1 ki11_2 ki11_3 ki12_1 ki12_2 ki12_3 ki13_1 ki13_2 ki13_3 ki14_1 ki14_2 ki14_3 ki28_0 ki28_1 ki31_0 ki31_1 ki32_0 ki32_1 ki33_0 ki33_1 ki34_0 ki34_1 ki35_0 ki35_1 ki36_0 ki36_1)
  have hAe : ∀ i j, i < 40 → j < 40 → (A i = A j ↔ i = j) := hA
  have hta : ∀ i, i < 40 → (A i = g_t h) = False := fun i hi => eq_false (fun z => by have := kt i hi; omega)
  have hta2 : ∀ i, i < 40 → (g_t h = A i) = False := fun i hi => eq_false (fun z => by have := kt i hi; omega)
  have hzt : g_z h ≤ g_t h := Nat.le_trans (kz 0 (by decide)) (Nat.le_of_lt (kt 0 (by decide)))
  have he2 := v1.1
  simp only [cT, mT, Prod.mk.injEq] at he2
  obtain ⟨g1, g2, g3, g4, g5, g6, g7⟩ := he2
  replace g1 := g1.symm
  replace g2 := g2.symm
  replace g3 := g3.symm
  replace g4 := g4.symm
  replace g5 := g5.symm
  replace g6 := g6.symm
  simp only [o203_0, o203_1, o203_2, o203_5, o203_8, o203_9, o203_12, o203_13, o203_14, o203_17, o203_18, o203_20, o203_23, o203_24, o203_27, o203_28, o203_31, o203_34, o203_35, o203_36, o203_38, o203_40, o203_41, o203_42, o203_43, o203_46, o203_47, o203_48, o203_51, o203_52, o203_53, o203_54, o203_55, o203_58, o203_59, o203_60, o203_63, o203_64, o203_65, o203_66, o203_67, o203_70, o203_71, o203_72, o203_75, o203_76, o203_77, o203_78, o203_79, o203_82, o203_83, o203_84, o203_87, o203_88, o203_89, o203_90, o203_91, o203_94, o203_95, o203_96, o203_99, o203_100, o203_101, o203_102, o203_103, o203_106, o203_107, o203_108, o203_111, o203_112, o203_113, o203_115, o203_116, o203_119, o203_120, o203_121, o203_124, o203_125, o203_126, o203_127, o203_128, o203_129, c_X8_isQueue, c_X8_isThrown_, mc_pi, mc_pN, mn_pi, mn_pN, mi_pi, mi_pN, mr_pi, mr_pN, mt_pi, mz_pi, mz_pN, mcs_0, mcs_r, Kn_v, mrf_some, true_and, and_true, and_false, not_true_eq_false, not_false_eq_true, false_implies, forall_const, if_true, if_false, and_self, Nat.reduceEqDiff, Nat.reduceLeDiff, Nat.reduceSub, Nat.reduceAdd, Nat.zero_le, Nat.le_refl, i10, lt_le, Int32.reduceLT, cl0, cl1, cl2, cl3, cl4, cl5, cl6, cl7, Nat.reduceLT, hAe, kc22, kc25, kc26, kc32, kc35, kn25, kn26, kr22_2, kr22_3, kr25_1, kr26_1, kz, ki35_0, ki35_1, vq3, hta, hta2, hzt, vpk, Int32.reduceLT, g1, g2, g4, g5, g6]
  exact hQ _ (show Fr (p_i h (A 22) 9 0) _ from (Fr_pi (Fr_pi (Fr_pi (Fr_pi (Fr_pi (Fr_pi (Fr_pi (Fr_pN Fr_rfl) (Nat.le_refl _)) (Nat.le_refl _)) (Nat.le_refl _)) (Nat.le_refl _)) (Nat.le_refl _)) (Nat.le_refl _)) (Nat.le_refl _)))

theorem m_plX2_0 {A : Nat → Nat} {h : MH} {Q : MR → MH → Prop} (R : Rl A h) (hQ : ∀ m, Fr (p_i h (A 22) 9 0) m → Q (.inl (some (.int (g_i h (A 12) 4)))) m) : Ok 203 0 [.ref (A 22), .int 2, .int 0, mk0] [] h 1 7 Q := by
  have R0 := R
  obtain ⟨vk, vcn, v0, v1, v2, vp, vl0, vl1, vlr, vsr, vc, tx⟩ := R0
  have vk0 := vk
  have vcn0 := vcn
  (refine K_el vk0 ?_; intros hA kc0 kc1 kc2 kc3 kc4 kc5 kc6 kc7 kc8 kc9 kc10 kc11 kc12 kc13 kc14 kc15 kc16 kc17 kc18 kc19 kc20 kc21 kc22 kc23 kc24 kc25 kc26 kc27 kc28 kc29 kc30 kc31 kc32 kc33 kc34 kc35 kc36 kc37 kc38 kc39 kz kt kn3 kn4 kn18 kn21 kn23 kn24 kn25 kn26 kn27 kn29 kn30 kr0_0 kr0_1 kr0_2 kr0_3 kr0_4 kr0_5 kr0_7 kr0_8 kr0_9 kr0_10 kr1_0 kr2_0 kr5_0 kr5_1 kr6_0 kr6_1 kr7_0 kr7_1 kr8_0 kr9_0 kr10_0 kr11_0 kr12_0 kr13_0 kr14_0 kr15_0 kr16_0 kr17_0 kr19_0 kr19_1 kr22_0 kr22_1 kr22_2 kr22_3 kr22_4 kr22_5 kr22_7 kr22_8 kr25_0 kr25_1 kr25_2 kr26_0 kr26_1 kr26_2 kr29_0 kr29_1)
  (refine Cn_el vcn0 ?_; intros ki5_2 ki6_2 ki7_2 ki8_1 ki8_2 ki8_3 ki9_1 ki9_2 ki9_3 ki10_1 ki10_2 ki10_3 ki11_1 ki11_2 ki11_3 ki12_1 ki12_2 ki12_3 ki13_1 ki13_2 ki13_3 ki14_1 ki14_2 ki14_3 ki28_0 ki28_1 ki31_0 ki31_1 ki32_0 ki32_1 ki33_0 ki33_1 ki34_0 ki34_1 ki35_0 ki35_1 ki36_0 ki36_1)
  have hAe : ∀ i j, i < 40 → j < 40 → (A i = A j ↔ i = j) := hA
  have hta : ∀ i, i < 40 → (A i = g_t h) = False := fun i hi => eq_false (fun z => by have := kt i hi; omega)
  have hta2 : ∀ i, i < 40 → (g_t h = A i) = False := fun i hi => eq_false (fun z => by have := kt i hi; omega)
  have hzt : g_z h ≤ g_t h := Nat.le_trans (kz 0 (by decide)) (Nat.le_of_lt (kt 0 (by decide)))
  have he2 := v2.1
  simp only [cT, mT, Prod.mk.injEq] at he2
  obtain ⟨g1, g2, g3, g4, g5, g6, g7⟩ := he2
  replace g1 := g1.symm
  replace g2 := g2.symm
  replace g3 := g3.symm
  replace g4 := g4.symm
  replace g5 := g5.symm
  replace g6 := g6.symm
  simp only [o203_0, o203_1, o203_2, o203_5, o203_8, o203_9, o203_12, o203_13, o203_14, o203_17, o203_18, o203_20, o203_23, o203_24, o203_27, o203_28, o203_31, o203_34, o203_35, o203_36, o203_38, o203_40, o203_41, o203_42, o203_43, o203_46, o203_47, o203_48, o203_51, o203_52, o203_53, o203_54, o203_55, o203_58, o203_59, o203_60, o203_63, o203_64, o203_65, o203_66, o203_67, o203_70, o203_71, o203_72, o203_75, o203_76, o203_77, o203_78, o203_79, o203_82, o203_83, o203_84, o203_87, o203_88, o203_89, o203_90, o203_91, o203_94, o203_95, o203_96, o203_99, o203_100, o203_101, o203_102, o203_103, o203_106, o203_107, o203_108, o203_111, o203_112, o203_113, o203_115, o203_116, o203_119, o203_120, o203_121, o203_124, o203_125, o203_126, o203_127, o203_128, o203_129, c_X8_isQueue, c_X8_isThrown_, mc_pi, mc_pN, mn_pi, mn_pN, mi_pi, mi_pN, mr_pi, mr_pN, mt_pi, mz_pi, mz_pN, mcs_0, mcs_r, Kn_v, mrf_some, true_and, and_true, and_false, not_true_eq_false, not_false_eq_true, false_implies, forall_const, if_true, if_false, and_self, Nat.reduceEqDiff, Nat.reduceLeDiff, Nat.reduceSub, Nat.reduceAdd, Nat.zero_le, Nat.le_refl, i10, lt_le, Int32.reduceLT, cl0, cl1, cl2, cl3, cl4, cl5, cl6, cl7, Nat.reduceLT, hAe, kc22, kc25, kc26, kc33, kc36, kn25, kn26, kr22_2, kr22_3, kr25_2, kr26_2, kz, ki36_0, ki36_1, vq3, hta, hta2, hzt, vpk, Int32.reduceLT, g1, g2, g4, g5, g6]
  exact hQ _ (show Fr (p_i h (A 22) 9 0) _ from (Fr_pi (Fr_pi (Fr_pi (Fr_pi (Fr_pi (Fr_pi (Fr_pi (Fr_pN Fr_rfl) (Nat.le_refl _)) (Nat.le_refl _)) (Nat.le_refl _)) (Nat.le_refl _)) (Nat.le_refl _)) (Nat.le_refl _)) (Nat.le_refl _)))

theorem m_plX2_1 {A : Nat → Nat} {h : MH} {Q : MR → MH → Prop} (R : Rl A h) (hQ : ∀ m, Fr (p_i h (A 22) 9 0) m → Q (.inl (some (.int (g_i h (A 12) 5)))) m) : Ok 203 0 [.ref (A 22), .int 2, .int 1, mk0] [] h 1 7 Q := by
  have R0 := R
  obtain ⟨vk, vcn, v0, v1, v2, vp, vl0, vl1, vlr, vsr, vc, tx⟩ := R0
  have vk0 := vk
  have vcn0 := vcn
  (refine K_el vk0 ?_; intros hA kc0 kc1 kc2 kc3 kc4 kc5 kc6 kc7 kc8 kc9 kc10 kc11 kc12 kc13 kc14 kc15 kc16 kc17 kc18 kc19 kc20 kc21 kc22 kc23 kc24 kc25 kc26 kc27 kc28 kc29 kc30 kc31 kc32 kc33 kc34 kc35 kc36 kc37 kc38 kc39 kz kt kn3 kn4 kn18 kn21 kn23 kn24 kn25 kn26 kn27 kn29 kn30 kr0_0 kr0_1 kr0_2 kr0_3 kr0_4 kr0_5 kr0_7 kr0_8 kr0_9 kr0_10 kr1_0 kr2_0 kr5_0 kr5_1 kr6_0 kr6_1 kr7_0 kr7_1 kr8_0 kr9_0 kr10_0 kr11_0 kr12_0 kr13_0 kr14_0 kr15_0 kr16_0 kr17_0 kr19_0 kr19_1 kr22_0 kr22_1 kr22_2 kr22_3 kr22_4 kr22_5 kr22_7 kr22_8 kr25_0 kr25_1 kr25_2 kr26_0 kr26_1 kr26_2 kr29_0 kr29_1)
  (refine Cn_el vcn0 ?_; intros ki5_2 ki6_2 ki7_2 ki8_1 ki8_2 ki8_3 ki9_1 ki9_2 ki9_3 ki10_1 ki10_2 ki10_3 ki11_1 ki11_2 ki11_3 ki12_1 ki12_2 ki12_3 ki13_1 ki13_2 ki13_3 ki14_1 ki14_2 ki14_3 ki28_0 ki28_1 ki31_0 ki31_1 ki32_0 ki32_1 ki33_0 ki33_1 ki34_0 ki34_1 ki35_0 ki35_1 ki36_0 ki36_1)
  have hAe : ∀ i j, i < 40 → j < 40 → (A i = A j ↔ i = j) := hA
  have hta : ∀ i, i < 40 → (A i = g_t h) = False := fun i hi => eq_false (fun z => by have := kt i hi; omega)
  have hta2 : ∀ i, i < 40 → (g_t h = A i) = False := fun i hi => eq_false (fun z => by have := kt i hi; omega)
  have hzt : g_z h ≤ g_t h := Nat.le_trans (kz 0 (by decide)) (Nat.le_of_lt (kt 0 (by decide)))
  have he2 := v2.1
  simp only [cT, mT, Prod.mk.injEq] at he2
  obtain ⟨g1, g2, g3, g4, g5, g6, g7⟩ := he2
  replace g1 := g1.symm
  replace g2 := g2.symm
  replace g3 := g3.symm
  replace g4 := g4.symm
  replace g5 := g5.symm
  replace g6 := g6.symm
  simp only [o203_0, o203_1, o203_2, o203_5, o203_8, o203_9, o203_12, o203_13, o203_14, o203_17, o203_18, o203_20, o203_23, o203_24, o203_27, o203_28, o203_31, o203_34, o203_35, o203_36, o203_38, o203_40, o203_41, o203_42, o203_43, o203_46, o203_47, o203_48, o203_51, o203_52, o203_53, o203_54, o203_55, o203_58, o203_59, o203_60, o203_63, o203_64, o203_65, o203_66, o203_67, o203_70, o203_71, o203_72, o203_75, o203_76, o203_77, o203_78, o203_79, o203_82, o203_83, o203_84, o203_87, o203_88, o203_89, o203_90, o203_91, o203_94, o203_95, o203_96, o203_99, o203_100, o203_101, o203_102, o203_103, o203_106, o203_107, o203_108, o203_111, o203_112, o203_113, o203_115, o203_116, o203_119, o203_120, o203_121, o203_124, o203_125, o203_126, o203_127, o203_128, o203_129, c_X8_isQueue, c_X8_isThrown_, mc_pi, mc_pN, mn_pi, mn_pN, mi_pi, mi_pN, mr_pi, mr_pN, mt_pi, mz_pi, mz_pN, mcs_0, mcs_r, Kn_v, mrf_some, true_and, and_true, and_false, not_true_eq_false, not_false_eq_true, false_implies, forall_const, if_true, if_false, and_self, Nat.reduceEqDiff, Nat.reduceLeDiff, Nat.reduceSub, Nat.reduceAdd, Nat.zero_le, Nat.le_refl, i10, lt_le, Int32.reduceLT, cl0, cl1, cl2, cl3, cl4, cl5, cl6, cl7, Nat.reduceLT, hAe, kc22, kc25, kc26, kc33, kc36, kn25, kn26, kr22_2, kr22_3, kr25_2, kr26_2, kz, ki36_0, ki36_1, vq3, hta, hta2, hzt, vpk, Int32.reduceLT, g1, g2, g4, g5, g6]
  exact hQ _ (show Fr (p_i h (A 22) 9 0) _ from (Fr_pi (Fr_pi (Fr_pi (Fr_pi (Fr_pi (Fr_pi (Fr_pi (Fr_pN Fr_rfl) (Nat.le_refl _)) (Nat.le_refl _)) (Nat.le_refl _)) (Nat.le_refl _)) (Nat.le_refl _)) (Nat.le_refl _)) (Nat.le_refl _)))

theorem m_plX2_2 {A : Nat → Nat} {h : MH} {Q : MR → MH → Prop} (R : Rl A h) (hQ : ∀ m, Fr (p_i h (A 22) 9 0) m → Q (.inl (some (.int (g_i h (A 13) 4)))) m) : Ok 203 0 [.ref (A 22), .int 2, .int 2, mk0] [] h 1 7 Q := by
  have R0 := R
  obtain ⟨vk, vcn, v0, v1, v2, vp, vl0, vl1, vlr, vsr, vc, tx⟩ := R0
  have vk0 := vk
  have vcn0 := vcn
  (refine K_el vk0 ?_; intros hA kc0 kc1 kc2 kc3 kc4 kc5 kc6 kc7 kc8 kc9 kc10 kc11 kc12 kc13 kc14 kc15 kc16 kc17 kc18 kc19 kc20 kc21 kc22 kc23 kc24 kc25 kc26 kc27 kc28 kc29 kc30 kc31 kc32 kc33 kc34 kc35 kc36 kc37 kc38 kc39 kz kt kn3 kn4 kn18 kn21 kn23 kn24 kn25 kn26 kn27 kn29 kn30 kr0_0 kr0_1 kr0_2 kr0_3 kr0_4 kr0_5 kr0_7 kr0_8 kr0_9 kr0_10 kr1_0 kr2_0 kr5_0 kr5_1 kr6_0 kr6_1 kr7_0 kr7_1 kr8_0 kr9_0 kr10_0 kr11_0 kr12_0 kr13_0 kr14_0 kr15_0 kr16_0 kr17_0 kr19_0 kr19_1 kr22_0 kr22_1 kr22_2 kr22_3 kr22_4 kr22_5 kr22_7 kr22_8 kr25_0 kr25_1 kr25_2 kr26_0 kr26_1 kr26_2 kr29_0 kr29_1)
  (refine Cn_el vcn0 ?_; intros ki5_2 ki6_2 ki7_2 ki8_1 ki8_2 ki8_3 ki9_1 ki9_2 ki9_3 ki10_1 ki10_2 ki10_3 ki11_1 ki11_2 ki11_3 ki12_1 ki12_2 ki12_3 ki13_1 ki13_2 ki13_3 ki14_1 ki14_2 ki14_3 ki28_0 ki28_1 ki31_0 ki31_1 ki32_0 ki32_1 ki33_0 ki33_1 ki34_0 ki34_1 ki35_0 ki35_1 ki36_0 ki36_1)
  have hAe : ∀ i j, i < 40 → j < 40 → (A i = A j ↔ i = j) := hA
  have hta : ∀ i, i < 40 → (A i = g_t h) = False := fun i hi => eq_false (fun z => by have := kt i hi; omega)
  have hta2 : ∀ i, i < 40 → (g_t h = A i) = False := fun i hi => eq_false (fun z => by have := kt i hi; omega)
  have hzt : g_z h ≤ g_t h := Nat.le_trans (kz 0 (by decide)) (Nat.le_of_lt (kt 0 (by decide)))
  have he2 := v2.1
  simp only [cT, mT, Prod.mk.injEq] at he2
  obtain ⟨g1, g2, g3, g4, g5, g6, g7⟩ := he2
  replace g1 := g1.symm
  replace g2 := g2.symm
  replace g3 := g3.symm
  replace g4 := g4.symm
  replace g5 := g5.symm
  replace g6 := g6.symm
  simp only [o203_0, o203_1, o203_2, o203_5, o203_8, o203_9, o203_12, o203_13, o203_14, o203_17, o203_18, o203_20, o203_23, o203_24, o203_27, o203_28, o203_31, o203_34, o203_35, o203_36, o203_38, o203_40, o203_41, o203_42, o203_43, o203_46, o203_47, o203_48, o203_51, o203_52, o203_53, o203_54, o203_55, o203_58, o203_59, o203_60, o203_63, o203_64, o203_65, o203_66, o203_67, o203_70, o203_71, o203_72, o203_75, o203_76, o203_77, o203_78, o203_79, o203_82, o203_83, o203_84, o203_87, o203_88, o203_89, o203_90, o203_91, o203_94, o203_95, o203_96, o203_99, o203_100, o203_101, o203_102, o203_103, o203_106, o203_107, o203_108, o203_111, o203_112, o203_113, o203_115, o203_116, o203_119, o203_120, o203_121, o203_124, o203_125, o203_126, o203_127, o203_128, o203_129, c_X8_isQueue, c_X8_isThrown_, mc_pi, mc_pN, mn_pi, mn_pN, mi_pi, mi_pN, mr_pi, mr_pN, mt_pi, mz_pi, mz_pN, mcs_0, mcs_r, Kn_v, mrf_some, true_and, and_true, and_false, not_true_eq_false, not_false_eq_true, false_implies, forall_const, if_true, if_false, and_self, Nat.reduceEqDiff, Nat.reduceLeDiff, Nat.reduceSub, Nat.reduceAdd, Nat.zero_le, Nat.le_refl, i10, lt_le, Int32.reduceLT, cl0, cl1, cl2, cl3, cl4, cl5, cl6, cl7, Nat.reduceLT, hAe, kc22, kc25, kc26, kc33, kc36, kn25, kn26, kr22_2, kr22_3, kr25_2, kr26_2, kz, ki36_0, ki36_1, vq3, hta, hta2, hzt, vpk, Int32.reduceLT, g1, g2, g4, g5, g6]
  exact hQ _ (show Fr (p_i h (A 22) 9 0) _ from (Fr_pi (Fr_pi (Fr_pi (Fr_pi (Fr_pi (Fr_pi (Fr_pi (Fr_pN Fr_rfl) (Nat.le_refl _)) (Nat.le_refl _)) (Nat.le_refl _)) (Nat.le_refl _)) (Nat.le_refl _)) (Nat.le_refl _)) (Nat.le_refl _)))

theorem m_plX2_3 {A : Nat → Nat} {h : MH} {Q : MR → MH → Prop} (R : Rl A h) (hQ : ∀ m, Fr (p_i h (A 22) 9 0) m → Q (.inl (some (.int (g_i h (A 13) 5)))) m) : Ok 203 0 [.ref (A 22), .int 2, .int 3, mk0] [] h 1 7 Q := by
  have R0 := R
  obtain ⟨vk, vcn, v0, v1, v2, vp, vl0, vl1, vlr, vsr, vc, tx⟩ := R0
  have vk0 := vk
  have vcn0 := vcn
  (refine K_el vk0 ?_; intros hA kc0 kc1 kc2 kc3 kc4 kc5 kc6 kc7 kc8 kc9 kc10 kc11 kc12 kc13 kc14 kc15 kc16 kc17 kc18 kc19 kc20 kc21 kc22 kc23 kc24 kc25 kc26 kc27 kc28 kc29 kc30 kc31 kc32 kc33 kc34 kc35 kc36 kc37 kc38 kc39 kz kt kn3 kn4 kn18 kn21 kn23 kn24 kn25 kn26 kn27 kn29 kn30 kr0_0 kr0_1 kr0_2 kr0_3 kr0_4 kr0_5 kr0_7 kr0_8 kr0_9 kr0_10 kr1_0 kr2_0 kr5_0 kr5_1 kr6_0 kr6_1 kr7_0 kr7_1 kr8_0 kr9_0 kr10_0 kr11_0 kr12_0 kr13_0 kr14_0 kr15_0 kr16_0 kr17_0 kr19_0 kr19_1 kr22_0 kr22_1 kr22_2 kr22_3 kr22_4 kr22_5 kr22_7 kr22_8 kr25_0 kr25_1 kr25_2 kr26_0 kr26_1 kr26_2 kr29_0 kr29_1)
  (refine Cn_el vcn0 ?_; intros ki5_2 ki6_2 ki7_2 ki8_1 ki8_2 ki8_3 ki9_1 ki9_2 ki9_3 ki10_1 ki10_2 ki10_3 ki11_1 ki11_2 ki11_3 ki12_1 ki12_2 ki12_3 ki13_1 ki13_2 ki13_3 ki14_1 ki14_2 ki14_3 ki28_0 ki28_1 ki31_0 ki31_1 ki32_0 ki32_1 ki33_0 ki33_1 ki34_0 ki34_1 ki35_0 ki35_1 ki36_0 ki36_1)
  have hAe : ∀ i j, i < 40 → j < 40 → (A i = A j ↔ i = j) := hA
  have hta : ∀ i, i < 40 → (A i = g_t h) = False := fun i hi => eq_false (fun z => by have := kt i hi; omega)
  have hta2 : ∀ i, i < 40 → (g_t h = A i) = False := fun i hi => eq_false (fun z => by have := kt i hi; omega)
  have hzt : g_z h ≤ g_t h := Nat.le_trans (kz 0 (by decide)) (Nat.le_of_lt (kt 0 (by decide)))
  have he2 := v2.1
  simp only [cT, mT, Prod.mk.injEq] at he2
  obtain ⟨g1, g2, g3, g4, g5, g6, g7⟩ := he2
  replace g1 := g1.symm
  replace g2 := g2.symm
  replace g3 := g3.symm
  replace g4 := g4.symm
  replace g5 := g5.symm
  replace g6 := g6.symm
  simp only [o203_0, o203_1, o203_2, o203_5, o203_8, o203_9, o203_12, o203_13, o203_14, o203_17, o203_18, o203_20, o203_23, o203_24, o203_27, o203_28, o203_31, o203_34, o203_35, o203_36, o203_38, o203_40, o203_41, o203_42, o203_43, o203_46, o203_47, o203_48, o203_51, o203_52, o203_53, o203_54, o203_55, o203_58, o203_59, o203_60, o203_63, o203_64, o203_65, o203_66, o203_67, o203_70, o203_71, o203_72, o203_75, o203_76, o203_77, o203_78, o203_79, o203_82, o203_83, o203_84, o203_87, o203_88, o203_89, o203_90, o203_91, o203_94, o203_95, o203_96, o203_99, o203_100, o203_101, o203_102, o203_103, o203_106, o203_107, o203_108, o203_111, o203_112, o203_113, o203_115, o203_116, o203_119, o203_120, o203_121, o203_124, o203_125, o203_126, o203_127, o203_128, o203_129, c_X8_isQueue, c_X8_isThrown_, mc_pi, mc_pN, mn_pi, mn_pN, mi_pi, mi_pN, mr_pi, mr_pN, mt_pi, mz_pi, mz_pN, mcs_0, mcs_r, Kn_v, mrf_some, true_and, and_true, and_false, not_true_eq_false, not_false_eq_true, false_implies, forall_const, if_true, if_false, and_self, Nat.reduceEqDiff, Nat.reduceLeDiff, Nat.reduceSub, Nat.reduceAdd, Nat.zero_le, Nat.le_refl, i10, lt_le, Int32.reduceLT, cl0, cl1, cl2, cl3, cl4, cl5, cl6, cl7, Nat.reduceLT, hAe, kc22, kc25, kc26, kc33, kc36, kn25, kn26, kr22_2, kr22_3, kr25_2, kr26_2, kz, ki36_0, ki36_1, vq3, hta, hta2, hzt, vpk, Int32.reduceLT, g1, g2, g4, g5, g6]
  exact hQ _ (show Fr (p_i h (A 22) 9 0) _ from (Fr_pi (Fr_pi (Fr_pi (Fr_pi (Fr_pi (Fr_pi (Fr_pi (Fr_pN Fr_rfl) (Nat.le_refl _)) (Nat.le_refl _)) (Nat.le_refl _)) (Nat.le_refl _)) (Nat.le_refl _)) (Nat.le_refl _)) (Nat.le_refl _)))

theorem m_plX2_4 {A : Nat → Nat} {h : MH} {Q : MR → MH → Prop} (R : Rl A h) (hQ : ∀ m, Fr (p_i h (A 22) 9 0) m → Q (.inl (some (.int (g_i h (A 13) 6)))) m) : Ok 203 0 [.ref (A 22), .int 2, .int 4, mk0] [] h 1 7 Q := by
  have R0 := R
  obtain ⟨vk, vcn, v0, v1, v2, vp, vl0, vl1, vlr, vsr, vc, tx⟩ := R0
  have vk0 := vk
  have vcn0 := vcn
  (refine K_el vk0 ?_; intros hA kc0 kc1 kc2 kc3 kc4 kc5 kc6 kc7 kc8 kc9 kc10 kc11 kc12 kc13 kc14 kc15 kc16 kc17 kc18 kc19 kc20 kc21 kc22 kc23 kc24 kc25 kc26 kc27 kc28 kc29 kc30 kc31 kc32 kc33 kc34 kc35 kc36 kc37 kc38 kc39 kz kt kn3 kn4 kn18 kn21 kn23 kn24 kn25 kn26 kn27 kn29 kn30 kr0_0 kr0_1 kr0_2 kr0_3 kr0_4 kr0_5 kr0_7 kr0_8 kr0_9 kr0_10 kr1_0 kr2_0 kr5_0 kr5_1 kr6_0 kr6_1 kr7_0 kr7_1 kr8_0 kr9_0 kr10_0 kr11_0 kr12_0 kr13_0 kr14_0 kr15_0 kr16_0 kr17_0 kr19_0 kr19_1 kr22_0 kr22_1 kr22_2 kr22_3 kr22_4 kr22_5 kr22_7 kr22_8 kr25_0 kr25_1 kr25_2 kr26_0 kr26_1 kr26_2 kr29_0 kr29_1)
  (refine Cn_el vcn0 ?_; intros ki5_2 ki6_2 ki7_2 ki8_1 ki8_2 ki8_3 ki9_1 ki9_2 ki9_3 ki10_1 ki10_2 ki10_3 ki11_1 ki11_2 ki11_3 ki12_1 ki12_2 ki12_3 ki13_1 ki13_2 ki13_3 ki14_1 ki14_2 ki14_3 ki28_0 ki28_1 ki31_0 ki31_1 ki32_0 ki32_1 ki33_0 ki33_1 ki34_0 ki34_1 ki35_0 ki35_1 ki36_0 ki36_1)
  have hAe : ∀ i j, i < 40 → j < 40 → (A i = A j ↔ i = j) := hA
  have hta : ∀ i, i < 40 → (A i = g_t h) = False := fun i hi => eq_false (fun z => by have := kt i hi; omega)
  have hta2 : ∀ i, i < 40 → (g_t h = A i) = False := fun i hi => eq_false (fun z => by have := kt i hi; omega)
  have hzt : g_z h ≤ g_t h := Nat.le_trans (kz 0 (by decide)) (Nat.le_of_lt (kt 0 (by decide)))
  have he2 := v2.1
  simp only [cT, mT, Prod.mk.injEq] at he2
  obtain ⟨g1, g2, g3, g4, g5, g6, g7⟩ := he2
  replace g1 := g1.symm
  replace g2 := g2.symm
  replace g3 := g3.symm
  replace g4 := g4.symm
  replace g5 := g5.symm
  replace g6 := g6.symm
  simp only [o203_0, o203_1, o203_2, o203_5, o203_8, o203_9, o203_12, o203_13, o203_14, o203_17, o203_18, o203_20, o203_23, o203_24, o203_27, o203_28, o203_31, o203_34, o203_35, o203_36, o203_38, o203_40, o203_41, o203_42, o203_43, o203_46, o203_47, o203_48, o203_51, o203_52, o203_53, o203_54, o203_55, o203_58, o203_59, o203_60, o203_63, o203_64, o203_65, o203_66, o203_67, o203_70, o203_71, o203_72, o203_75, o203_76, o203_77, o203_78, o203_79, o203_82, o203_83, o203_84, o203_87, o203_88, o203_89, o203_90, o203_91, o203_94, o203_95, o203_96, o203_99, o203_100, o203_101, o203_102, o203_103, o203_106, o203_107, o203_108, o203_111, o203_112, o203_113, o203_115, o203_116, o203_119, o203_120, o203_121, o203_124, o203_125, o203_126, o203_127, o203_128, o203_129, c_X8_isQueue, c_X8_isThrown_, mc_pi, mc_pN, mn_pi, mn_pN, mi_pi, mi_pN, mr_pi, mr_pN, mt_pi, mz_pi, mz_pN, mcs_0, mcs_r, Kn_v, mrf_some, true_and, and_true, and_false, not_true_eq_false, not_false_eq_true, false_implies, forall_const, if_true, if_false, and_self, Nat.reduceEqDiff, Nat.reduceLeDiff, Nat.reduceSub, Nat.reduceAdd, Nat.zero_le, Nat.le_refl, i10, lt_le, Int32.reduceLT, cl0, cl1, cl2, cl3, cl4, cl5, cl6, cl7, Nat.reduceLT, hAe, kc22, kc25, kc26, kc33, kc36, kn25, kn26, kr22_2, kr22_3, kr25_2, kr26_2, kz, ki36_0, ki36_1, vq3, hta, hta2, hzt, vpk, Int32.reduceLT, g1, g2, g4, g5, g6]
  exact hQ _ (show Fr (p_i h (A 22) 9 0) _ from (Fr_pi (Fr_pi (Fr_pi (Fr_pi (Fr_pi (Fr_pi (Fr_pi (Fr_pN Fr_rfl) (Nat.le_refl _)) (Nat.le_refl _)) (Nat.le_refl _)) (Nat.le_refl _)) (Nat.le_refl _)) (Nat.le_refl _)) (Nat.le_refl _)))

theorem m_plX2_5 {A : Nat → Nat} {h : MH} {Q : MR → MH → Prop} (R : Rl A h) (hQ : ∀ m, Fr (p_i h (A 22) 9 0) m → Q (.inl (some (.int (6)))) m) : Ok 203 0 [.ref (A 22), .int 2, .int 5, mk0] [] h 1 7 Q := by
  have R0 := R
  obtain ⟨vk, vcn, v0, v1, v2, vp, vl0, vl1, vlr, vsr, vc, tx⟩ := R0
  have vk0 := vk
  have vcn0 := vcn
  (refine K_el vk0 ?_; intros hA kc0 kc1 kc2 kc3 kc4 kc5 kc6 kc7 kc8 kc9 kc10 kc11 kc12 kc13 kc14 kc15 kc16 kc17 kc18 kc19 kc20 kc21 kc22 kc23 kc24 kc25 kc26 kc27 kc28 kc29 kc30 kc31 kc32 kc33 kc34 kc35 kc36 kc37 kc38 kc39 kz kt kn3 kn4 kn18 kn21 kn23 kn24 kn25 kn26 kn27 kn29 kn30 kr0_0 kr0_1 kr0_2 kr0_3 kr0_4 kr0_5 kr0_7 kr0_8 kr0_9 kr0_10 kr1_0 kr2_0 kr5_0 kr5_1 kr6_0 kr6_1 kr7_0 kr7_1 kr8_0 kr9_0 kr10_0 kr11_0 kr12_0 kr13_0 kr14_0 kr15_0 kr16_0 kr17_0 kr19_0 kr19_1 kr22_0 kr22_1 kr22_2 kr22_3 kr22_4 kr22_5 kr22_7 kr22_8 kr25_0 kr25_1 kr25_2 kr26_0 kr26_1 kr26_2 kr29_0 kr29_1)
  (refine Cn_el vcn0 ?_; intros ki5_2 ki6_2 ki7_2 ki8_1 ki8_2 ki8_3 ki9_1 ki9_2 ki9_3 ki10_1 ki10_2 ki10_3 ki11_1 ki11_2 ki11_3 ki12_1 ki12_2 ki12_3 ki13_1 ki13_2 ki13_3 ki14_1 ki14_2 ki14_3 ki28_0 ki28_1 ki31_0 ki31_1 ki32_0 ki32_1 ki33_0 ki33_1 ki34_0 ki34_1 ki35_0 ki35_1 ki36_0 ki36_1)
  have hAe : ∀ i j, i < 40 → j < 40 → (A i = A j ↔ i = j) := hA
  have hta : ∀ i, i < 40 → (A i = g_t h) = False := fun i hi => eq_false (fun z => by have := kt i hi; omega)
  have hta2 : ∀ i, i < 40 → (g_t h = A i) = False := fun i hi => eq_false (fun z => by have := kt i hi; omega)
  have hzt : g_z h ≤ g_t h := Nat.le_trans (kz 0 (by decide)) (Nat.le_of_lt (kt 0 (by decide)))
  have he2 := v2.1
  simp only [cT, mT, Prod.mk.injEq] at he2
  obtain ⟨g1, g2, g3, g4, g5, g6, g7⟩ := he2
  replace g1 := g1.symm
  replace g2 := g2.symm
  replace g3 := g3.symm
  replace g4 := g4.symm
  replace g5 := g5.symm
  replace g6 := g6.symm
  simp only [o203_0, o203_1, o203_2, o203_5, o203_8, o203_9, o203_12, o203_13, o203_14, o203_17, o203_18, o203_20, o203_23, o203_24, o203_27, o203_28, o203_31, o203_34, o203_35, o203_36, o203_38, o203_40, o203_41, o203_42, o203_43, o203_46, o203_47, o203_48, o203_51, o203_52, o203_53, o203_54, o203_55, o203_58, o203_59, o203_60, o203_63, o203_64, o203_65, o203_66, o203_67, o203_70, o203_71, o203_72, o203_75, o203_76, o203_77, o203_78, o203_79, o203_82, o203_83, o203_84, o203_87, o203_88, o203_89, o203_90, o203_91, o203_94, o203_95, o203_96, o203_99, o203_100, o203_101, o203_102, o203_103, o203_106, o203_107, o203_108, o203_111, o203_112, o203_113, o203_115, o203_116, o203_119, o203_120, o203_121, o203_124, o203_125, o203_126, o203_127, o203_128, o203_129, c_X8_isQueue, c_X8_isThrown_, mc_pi, mc_pN, mn_pi, mn_pN, mi_pi, mi_pN, mr_pi, mr_pN, mt_pi, mz_pi, mz_pN, mcs_0, mcs_r, Kn_v, mrf_some, true_and, and_true, and_false, not_true_eq_false, not_false_eq_true, false_implies, forall_const, if_true, if_false, and_self, Nat.reduceEqDiff, Nat.reduceLeDiff, Nat.reduceSub, Nat.reduceAdd, Nat.zero_le, Nat.le_refl, i10, lt_le, Int32.reduceLT, cl0, cl1, cl2, cl3, cl4, cl5, cl6, cl7, Nat.reduceLT, hAe, kc22, kc25, kc26, kc33, kc36, kn25, kn26, kr22_2, kr22_3, kr25_2, kr26_2, kz, ki36_0, ki36_1, vq3, hta, hta2, hzt, vpk, Int32.reduceLT, g1, g2, g4, g5, g6]
  exact hQ _ (show Fr (p_i h (A 22) 9 0) _ from (Fr_pi (Fr_pi (Fr_pi (Fr_pi (Fr_pi (Fr_pi (Fr_pi (Fr_pN Fr_rfl) (Nat.le_refl _)) (Nat.le_refl _)) (Nat.le_refl _)) (Nat.le_refl _)) (Nat.le_refl _)) (Nat.le_refl _)) (Nat.le_refl _)))

theorem m_plX2_6 {A : Nat → Nat} {h : MH} {Q : MR → MH → Prop} (R : Rl A h) (hQ : ∀ m, Fr (p_i h (A 22) 9 0) m → Q (.inl (some (.int (9)))) m) : Ok 203 0 [.ref (A 22), .int 2, .int 6, mk0] [] h 1 7 Q := by
  have R0 := R
  obtain ⟨vk, vcn, v0, v1, v2, vp, vl0, vl1, vlr, vsr, vc, tx⟩ := R0
  have vk0 := vk
  have vcn0 := vcn
  (refine K_el vk0 ?_; intros hA kc0 kc1 kc2 kc3 kc4 kc5 kc6 kc7 kc8 kc9 kc10 kc11 kc12 kc13 kc14 kc15 kc16 kc17 kc18 kc19 kc20 kc21 kc22 kc23 kc24 kc25 kc26 kc27 kc28 kc29 kc30 kc31 kc32 kc33 kc34 kc35 kc36 kc37 kc38 kc39 kz kt kn3 kn4 kn18 kn21 kn23 kn24 kn25 kn26 kn27 kn29 kn30 kr0_0 kr0_1 kr0_2 kr0_3 kr0_4 kr0_5 kr0_7 kr0_8 kr0_9 kr0_10 kr1_0 kr2_0 kr5_0 kr5_1 kr6_0 kr6_1 kr7_0 kr7_1 kr8_0 kr9_0 kr10_0 kr11_0 kr12_0 kr13_0 kr14_0 kr15_0 kr16_0 kr17_0 kr19_0 kr19_1 kr22_0 kr22_1 kr22_2 kr22_3 kr22_4 kr22_5 kr22_7 kr22_8 kr25_0 kr25_1 kr25_2 kr26_0 kr26_1 kr26_2 kr29_0 kr29_1)
  (refine Cn_el vcn0 ?_; intros ki5_2 ki6_2 ki7_2 ki8_1 ki8_2 ki8_3 ki9_1 ki9_2 ki9_3 ki10_1 ki10_2 ki10_3 ki11_1 ki11_2 ki11_3 ki12_1 ki12_2 ki12_3 ki13_1 ki13_2 ki13_3 ki14_1 ki14_2 ki14_3 ki28_0 ki28_1 ki31_0 ki31_1 ki32_0 ki32_1 ki33_0 ki33_1 ki34_0 ki34_1 ki35_0 ki35_1 ki36_0 ki36_1)
  have hAe : ∀ i j, i < 40 → j < 40 → (A i = A j ↔ i = j) := hA
  have hta : ∀ i, i < 40 → (A i = g_t h) = False := fun i hi => eq_false (fun z => by have := kt i hi; omega)
  have hta2 : ∀ i, i < 40 → (g_t h = A i) = False := fun i hi => eq_false (fun z => by have := kt i hi; omega)
  have hzt : g_z h ≤ g_t h := Nat.le_trans (kz 0 (by decide)) (Nat.le_of_lt (kt 0 (by decide)))
  have he2 := v2.1
  simp only [cT, mT, Prod.mk.injEq] at he2
  obtain ⟨g1, g2, g3, g4, g5, g6, g7⟩ := he2
  replace g1 := g1.symm
  replace g2 := g2.symm
  replace g3 := g3.symm
  replace g4 := g4.symm
  replace g5 := g5.symm
  replace g6 := g6.symm
  simp only [o203_0, o203_1, o203_2, o203_5, o203_8, o203_9, o203_12, o203_13, o203_14, o203_17, o203_18, o203_20, o203_23, o203_24, o203_27, o203_28, o203_31, o203_34, o203_35, o203_36, o203_38, o203_40, o203_41, o203_42, o203_43, o203_46, o203_47, o203_48, o203_51, o203_52, o203_53, o203_54, o203_55, o203_58, o203_59, o203_60, o203_63, o203_64, o203_65, o203_66, o203_67, o203_70, o203_71, o203_72, o203_75, o203_76, o203_77, o203_78, o203_79, o203_82, o203_83, o203_84, o203_87, o203_88, o203_89, o203_90, o203_91, o203_94, o203_95, o203_96, o203_99, o203_100, o203_101, o203_102, o203_103, o203_106, o203_107, o203_108, o203_111, o203_112, o203_113, o203_115, o203_116, o203_119, o203_120, o203_121, o203_124, o203_125, o203_126, o203_127, o203_128, o203_129, c_X8_isQueue, c_X8_isThrown_, mc_pi, mc_pN, mn_pi, mn_pN, mi_pi, mi_pN, mr_pi, mr_pN, mt_pi, mz_pi, mz_pN, mcs_0, mcs_r, Kn_v, mrf_some, true_and, and_true, and_false, not_true_eq_false, not_false_eq_true, false_implies, forall_const, if_true, if_false, and_self, Nat.reduceEqDiff, Nat.reduceLeDiff, Nat.reduceSub, Nat.reduceAdd, Nat.zero_le, Nat.le_refl, i10, lt_le, Int32.reduceLT, cl0, cl1, cl2, cl3, cl4, cl5, cl6, cl7, Nat.reduceLT, hAe, kc22, kc25, kc26, kc33, kc36, kn25, kn26, kr22_2, kr22_3, kr25_2, kr26_2, kz, ki36_0, ki36_1, vq3, hta, hta2, hzt, vpk, Int32.reduceLT, g1, g2, g4, g5, g6]
  exact hQ _ (show Fr (p_i h (A 22) 9 0) _ from (Fr_pi (Fr_pi (Fr_pi (Fr_pi (Fr_pi (Fr_pi (Fr_pi (Fr_pN Fr_rfl) (Nat.le_refl _)) (Nat.le_refl _)) (Nat.le_refl _)) (Nat.le_refl _)) (Nat.le_refl _)) (Nat.le_refl _)) (Nat.le_refl _)))
end

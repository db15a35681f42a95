set_option maxRecDepth 16384
theorem sh_ok {v : Int32} (h : v.toInt16.toInt32 = v) : (¬ v < -32768 ∧ v < 32768) = True := by
  have h1 := v.toInt16.toInt_lt
  have h2 := v.toInt16.le_toInt
  have e : v.toInt = v.toInt16.toInt := by
    have := congrArg Int32.toInt h
    rw [Int16.toInt_toInt32] at this
    exact this.symm
  apply eq_true
  rw [Int32.lt_iff_toInt_lt, Int32.lt_iff_toInt_lt, show (-32768 : Int32).toInt = -32768 from rfl, show (32768 : Int32).toInt = 32768 from rfl]
  omega
theorem and11 : (1 : Int32) &&& 1 = 1 ∧ (0 : Int32) &&& 1 = 0 := by decide
theorem v_and {v : Int32} (h : v = 1 ∨ v = 0) : v &&& 1 = v := by
  rcases h with rfl | rfl <;> decide
theorem ms_loop {A : Nat → Nat} {h : MH} {v : Int32} {Q : MR → MH → Prop} (R : Rl A h) (hv : v = 1 ∨ v = 0) : ∀ (d j : Nat) (a5 : Value), j + d = 36 → (Ok 242 114 [.ref (A 22), .int v, .ref (A 24), .int (Int32.ofNat 36), .int (Int32.ofNat j), a5] [] h 0 0 Q ↔ Q (.inl (some (.int v))) h)
  | 0, j, a5, hj => by
    have : j = 36 := by omega
    subst this
    have kz3 : kok 3 v = True := by rcases hv with rfl | rfl <;> simp [kok]
    rw [o242_114]
    simp only [o242_116, o242_117, o242_120, o242_121, o242_123, o242_124, o242_126, o242_127, o242_129, o242_140, o242_141, mcs_0, mcs_i, true_and, and_true, not_true_eq_false, not_false_eq_true, false_implies, forall_const, Nat.reduceLeDiff, Nat.reduceAdd, lt_le, n_irr, kz3]
  | d + 1, j, a5, hj => by
    have ih := ms_loop (Q := Q) R hv d (j + 1)
    have R0 := R
    obtain ⟨vk, vcn, v0, v1, v2, vp, vl0, vl1, vlr, vsr, vc, tx⟩ := R0
    have vk0 := vk
    have vcn0 := vcn
    (refine K_el vk0 ?_; intros hA kc0 kc1 kc2 kc3 kc4 kc5 kc6 kc7 kc8 kc9 kc10 kc11 kc12 kc13 kc14 kc15 kc16 kc17 kc18 kc19 kc20 kc21 kc22 kc23 kc24 kc25 kc26 kc27 kc28 kc29 kc30 kc31 kc32 kc33 kc34 kc35 kc36 kc37 kc38 kc39 kz kt kn3 kn4 kn18 kn21 kn23 kn24 kn25 kn26 kn27 kn29 kn30 kr0_0 kr0_1 kr0_2 kr0_3 kr0_4 kr0_5 kr0_7 kr0_8 kr0_9 kr0_10 kr1_0 kr2_0 kr5_0 kr5_1 kr6_0 kr6_1 kr7_0 kr7_1 kr8_0 kr9_0 kr10_0 kr11_0 kr12_0 kr13_0 kr14_0 kr15_0 kr16_0 kr17_0 kr19_0 kr19_1 kr22_0 kr22_1 kr22_2 kr22_3 kr22_4 kr22_5 kr22_7 kr22_8 kr25_0 kr25_1 kr25_2 kr26_0 kr26_1 kr26_2 kr29_0 kr29_1)
    (refine Cn_el vcn0 ?_; intros ki5_2 ki6_2 ki7_2 ki8_1 ki8_2 ki8_3 ki9_1 ki9_2 ki9_3 ki10_1 ki10_2 ki10_3 ki11_1 ki11_2 ki11_3 ki12_1 ki12_2 ki12_3 ki13_1 ki13_2 ki13_3 ki14_1 ki14_2 ki14_3 ki28_0 ki28_1 ki31_0 ki31_1 ki32_0 ki32_1 ki33_0 ki33_1 ki34_0 ki34_1 ki35_0 ki35_1 ki36_0 ki36_1)
    have hAe : ∀ i j, i < 40 → j < 40 → (A i = A j ↔ i = j) := hA
    have c1 : (Int32.ofNat j < Int32.ofNat 36) = True := by rw [n_lt (by omega) (by omega)]; exact eq_true (by omega)
    have c2 : vp_in (Int32.ofNat j) 36 := vp_of (by omega) (by omega)
    have c3 : (Int32.ofNat j).toNatClampNeg = j := n_cl (by omega)
    have c4 := sh_ok (vsr j (by omega)).2
    have c5 := v_and hv
    have c6 : Int32.ofNat j + 1 = Int32.ofNat (j + 1) := n_add j 1
    rw [← ih (.int (g_i h (A 24) j)) (by omega), o242_114]
    simp only [o242_116, o242_117, o242_120, o242_121, o242_123, o242_124, o242_126, o242_127, o242_129, o242_132, o242_133, o242_134, o242_137, o242_140, o242_141, c_X8_isShort, mcs_0, mcs_i, Kn_v, true_and, not_true_eq_false, not_false_eq_true, false_implies, forall_const, if_true, and_self, Nat.reduceLeDiff, Nat.reduceAdd, lt_le, kc24, kn24, c1, c2, c3, c4, c5, c6]

theorem m_soundNow {A : Nat → Nat} {h : MH} {v : Int32} {Q : MR → MH → Prop} (R : Rl A h) (hv : edV A h v) : Ok 242 0 [.ref (A 22), mk0, mk0, mk0, mk0, mk0] [] h 0 0 Q ↔ Q (.inl (some (.int v))) h := by
  have q0 := fun {Q : MR → MH → Prop} => (qo_0 (Q := Q) R).2
  have q1 := fun {Q : MR → MH → Prop} => (qo_1 (Q := Q) R).2
  have q2 := fun {Q : MR → MH → Prop} => (qo_2 (Q := Q) R).2
  have lp1 := fun {Q : MR → MH → Prop} a5 => ms_loop (Q := Q) R (Or.inl rfl) 36 0 a5 rfl
  have lp0 := fun {Q : MR → MH → Prop} a5 => ms_loop (Q := Q) R (Or.inr rfl) 36 0 a5 rfl
  have z0 : (0 : Int32) = Int32.ofNat 0 := rfl
  have R0 := R
  obtain ⟨vk, vcn, v0, v1, v2, vp, vl0, vl1, vlr, vsr, vc, tx⟩ := R0
  have vk0 := vk
  have vcn0 := vcn
  (refine K_el vk0 ?_; intros hA kc0 kc1 kc2 kc3 kc4 kc5 kc6 kc7 kc8 kc9 kc10 kc11 kc12 kc13 kc14 kc15 kc16 kc17 kc18 kc19 kc20 kc21 kc22 kc23 kc24 kc25 kc26 kc27 kc28 kc29 kc30 kc31 kc32 kc33 kc34 kc35 kc36 kc37 kc38 kc39 kz kt kn3 kn4 kn18 kn21 kn23 kn24 kn25 kn26 kn27 kn29 kn30 kr0_0 kr0_1 kr0_2 kr0_3 kr0_4 kr0_5 kr0_7 kr0_8 kr0_9 kr0_10 kr1_0 kr2_0 kr5_0 kr5_1 kr6_0 kr6_1 kr7_0 kr7_1 kr8_0 kr9_0 kr10_0 kr11_0 kr12_0 kr13_0 kr14_0 kr15_0 kr16_0 kr17_0 kr19_0 kr19_1 kr22_0 kr22_1 kr22_2 kr22_3 kr22_4 kr22_5 kr22_7 kr22_8 kr25_0 kr25_1 kr25_2 kr26_0 kr26_1 kr26_2 kr29_0 kr29_1)
  (refine Cn_el vcn0 ?_; intros ki5_2 ki6_2 ki7_2 ki8_1 ki8_2 ki8_3 ki9_1 ki9_2 ki9_3 ki10_1 ki10_2 ki10_3 ki11_1 ki11_2 ki11_3 ki12_1 ki12_2 ki12_3 ki13_1 ki13_2 ki13_3 ki14_1 ki14_2 ki14_3 ki28_0 ki28_1 ki31_0 ki31_1 ki32_0 ki32_1 ki33_0 ki33_1 ki34_0 ki34_1 ki35_0 ki35_1 ki36_0 ki36_1)
  have hAe : ∀ i j, i < 40 → j < 40 → (A i = A j ↔ i = j) := hA
  obtain ⟨⟨p1, p2, p3, p4⟩, pm⟩ := vp
  obtain ⟨qq1, qq2, qq3, qq4⟩ := pS_ord _ pm
  simp only at qq1 qq2 qq3 qq4
  obtain ⟨⟨x1, x2, x3, x4, x5, x6⟩, ln⟩ := vl0
  obtain ⟨⟨y1, y2, y3, y4, y5, y6⟩, lm⟩ := vl1
  obtain ⟨a1, a2, a3, a4⟩ := ln_ord ln
  obtain ⟨b1, b2, b3, b4⟩ := ln_ord lm
  have v15 : vp_in (15 : Int32) 16 := by unfold vp_in; decide
  have v0 : vp_in 0 16 := by unfold vp_in; decide
  have v35 : vp_in (35 : Int32) 36 := by unfold vp_in; decide
  have v036 : vp_in 0 36 := by unfold vp_in; decide
  have v02 : vp_in 0 2 := by unfold vp_in; decide
  have v12 : vp_in 1 2 := by unfold vp_in; decide
  have n15 : (15 : Int32).toNatClampNeg = 15 := by decide
  have n35 : (35 : Int32).toNatClampNeg = 35 := by decide
  obtain ⟨and1, and0⟩ := and11
  unfold edV edg at hv
  rcases hv with ⟨⟨z1, z2, z3, z4⟩, rfl⟩ | ⟨z, rfl⟩
  · refine Iff.trans ?_ (lp1 mk0)
    simp only [o242_0, o242_1, o242_4, o242_7, o242_10, o242_11, o242_14, o242_15, o242_16, o242_19, o242_22, o242_23, o242_26, o242_27, o242_28, o242_31, o242_34, o242_35, o242_38, o242_39, o242_40, o242_41, o242_42, o242_45, o242_46, o242_49, o242_51, o242_52, o242_53, o242_54, o242_57, o242_58, o242_61, o242_62, o242_63, o242_66, o242_67, o242_70, o242_72, o242_73, o242_76, o242_77, o242_80, o242_81, o242_82, o242_83, o242_84, o242_85, o242_86, o242_89, o242_90, o242_91, o242_92, o242_95, o242_96, o242_97, o242_100, o242_103, o242_104, o242_107, o242_108, o242_109, o242_110, o242_111, o242_112, q0, q1, q2, c_X7_isRight, mcs_0, mcs_i, Kn_v, mrf_some, true_and, and_true, not_true_eq_false, not_false_eq_true, false_implies, forall_const, if_true, and_self, Nat.reduceLeDiff, Nat.reduceAdd, Nat.zero_le, Nat.le_refl, i10, lt_le, Int32.reduceLT, Int32.reduceAdd, cl0, cl1, lg_cmp_eq, kc22, kc23, kc24, kc28, kc29, kc37, kc38, kn23, kn24, kn29, kr22_0, kr22_1, kr22_5, kr22_7, kr29_0, kr29_1, ki28_1, qq1, qq2, qq3, qq4, a1, a2, a3, a4, b1, b2, b3, b4, v15, v0, v35, v036, v02, v12, n15, n35, and1, and0, z1, z2, z3, z4]
    all_goals exact Iff.rfl
  · refine Iff.trans ?_ (lp0 mk0)
    by_cases z1 : g_l h (A 23) 0 = 0 <;> by_cases z2 : g_l h (A 23) 15 = 0 <;> by_cases z3 : g_i h (A 24) 0 = 0 <;> by_cases z4 : g_i h (A 24) 35 = 0 <;> first | (exfalso; apply z; refine ⟨?_, ?_, ?_, ?_⟩ <;> assumption) | (simp only [o242_0, o242_1, o242_4, o242_7, o242_10, o242_11, o242_14, o242_15, o242_16, o242_19, o242_22, o242_23, o242_26, o242_27, o242_28, o242_31, o242_34, o242_35, o242_38, o242_39, o242_40, o242_41, o242_42, o242_45, o242_46, o242_49, o242_51, o242_52, o242_53, o242_54, o242_57, o242_58, o242_61, o242_62, o242_63, o242_66, o242_67, o242_70, o242_72, o242_73, o242_76, o242_77, o242_80, o242_81, o242_82, o242_83, o242_84, o242_85, o242_86, o242_89, o242_90, o242_91, o242_92, o242_95, o242_96, o242_97, o242_100, o242_103, o242_104, o242_107, o242_108, o242_109, o242_110, o242_111, o242_112, q0, q1, q2, c_X7_isRight, mc_pi, mc_pl, mc_pr, mc_pN, mc_pT, mc_pC, mn_pi, mn_pl, mn_pr, mn_pN, mn_pT, mn_pC, mi_pi, mi_pl, mi_pr, mi_pN, mi_pT, mi_pC, ml_pi, ml_pl, ml_pr, ml_pN, ml_pT, ml_pC, mr_pi, mr_pl, mr_pr, mr_pN, mr_pT, mr_pC, mt_pi, mt_pl, mt_pr, mt_pN, mt_pT, mt_pC, mz_pi, mz_pl, mz_pr, mz_pN, mz_pT, mz_pC, ma_pi, ma_pl, ma_pr, ma_pN, ma_pT, ma_pC, mcs_0, mcs_i, mcs_l, mcs_r, mcs_n, csum_rf, Kn_v, Kn_0, Kn_x, mrf_some, kok_0, true_and, and_true, false_and, and_false, true_or, or_true, or_false, false_or, not_true_eq_false, not_false_eq_true, true_implies, false_implies, implies_true, forall_const, if_true, if_false, and_self, Nat.reduceEqDiff, Nat.reduceLeDiff, Nat.reduceSub, Nat.reduceAdd, Nat.zero_le, Nat.le_refl, i10, i01, kz0, kz1, eq_self, lt_le, Classical.not_not, Int32.reduceLT, Int32.reduceAdd, Int32.reduceSub, Int32.reduceMul, cl0, cl1, cl2, cl3, cl4, cl5, cl6, cl7, cl8, cl9, cl10, cl11, cl12, cl13, cl14, cl15, cl16, cl17, cl18, cl19, cl20, cl21, cl22, cl23, cl24, cl25, cl26, cl27, cl28, cl29, cl30, cl31, cl32, cl33, cl34, cl35, cl36, cl37, cl38, cl39, lg_cmp_eq, kc0, kc1, kc2, kc3, kc4, kc5, kc6, kc7, kc8, kc9, kc10, kc11, kc12, kc13, kc14, kc15, kc16, kc17, kc18, kc19, kc20, kc21, kc22, kc23, kc24, kc25, kc26, kc27, kc28, kc29, kc30, kc31, kc32, kc33, kc34, kc35, kc36, kc37, kc38, kc39, kn3, kn4, kn18, kn21, kn23, kn24, kn25, kn26, kn27, kn29, kn30, kr0_0, kr0_1, kr0_2, kr0_3, kr0_4, kr0_5, kr0_7, kr0_8, kr0_9, kr0_10, kr1_0, kr2_0, kr5_0, kr5_1, kr6_0, kr6_1, kr7_0, kr7_1, kr8_0, kr9_0, kr10_0, kr11_0, kr12_0, kr13_0, kr14_0, kr15_0, kr16_0, kr17_0, kr19_0, kr19_1, kr22_0, kr22_1, kr22_2, kr22_3, kr22_4, kr22_5, kr22_7, kr22_8, kr25_0, kr25_1, kr25_2, kr26_0, kr26_1, kr26_2, kr29_0, kr29_1, kz, ki5_2, ki6_2, ki7_2, ki8_1, ki8_2, ki8_3, ki9_1, ki9_2, ki9_3, ki10_1, ki10_2, ki10_3, ki11_1, ki11_2, ki11_3, ki12_1, ki12_2, ki12_3, ki13_1, ki13_2, ki13_3, ki14_1, ki14_2, ki14_3, ki28_0, ki28_1, ki31_0, ki31_1, ki32_0, ki32_1, ki33_0, ki33_1, ki34_0, ki34_1, ki35_0, ki35_1, ki36_0, ki36_1, qq1, qq2, qq3, qq4, a1, a2, a3, a4, b1, b2, b3, b4, v15, v0, v35, v036, v02, v12, n15, n35, and1, and0, z1, z2, z3, z4]; done) | (simp only [o242_0, o242_1, o242_4, o242_7, o242_10, o242_11, o242_14, o242_15, o242_16, o242_19, o242_22, o242_23, o242_26, o242_27, o242_28, o242_31, o242_34, o242_35, o242_38, o242_39, o242_40, o242_41, o242_42, o242_45, o242_46, o242_49, o242_51, o242_52, o242_53, o242_54, o242_57, o242_58, o242_61, o242_62, o242_63, o242_66, o242_67, o242_70, o242_72, o242_73, o242_76, o242_77, o242_80, o242_81, o242_82, o242_83, o242_84, o242_85, o242_86, o242_89, o242_90, o242_91, o242_92, o242_95, o242_96, o242_97, o242_100, o242_103, o242_104, o242_107, o242_108, o242_109, o242_110, o242_111, o242_112, q0, q1, q2, c_X7_isRight, mcs_0, mcs_i, Kn_v, mrf_some, true_and, and_true, not_true_eq_false, not_false_eq_true, false_implies, forall_const, if_true, and_self, Nat.reduceLeDiff, Nat.reduceAdd, Nat.zero_le, Nat.le_refl, i10, lt_le, Int32.reduceLT, Int32.reduceAdd, cl0, cl1, lg_cmp_eq, kc22, kc23, kc24, kc28, kc29, kc37, kc38, kn23, kn24, kn29, kr22_0, kr22_1, kr22_5, kr22_7, kr29_0, kr29_1, ki28_1, qq1, qq2, qq3, qq4, a1, a2, a3, a4, b1, b2, b3, b4, v15, v0, v35, v036, v02, v12, n15, n35, and1, and0, z1, z2, z3, z4]; exact Iff.rfl)

theorem op_isSound {A : Nat → Nat} {h : MH} (R : Rl A h) : Ok 106 0 [.ref (A 0)] [] h 0 0 (fun r h1 => ∃ k : Int32, r = .inl (some (.int k)) ∧ g_c h1 (A 22) = 9 ∧ Ok 243 0 [.ref (A 22)] [] h1 0 0 (fun r2 h2 => ∃ b : Int32, r2 = .inl (some (.int b)) ∧ Rl A h2 ∧ g_i h2 (A 22) 9 = 0 ∧ k = b)) := by
  have hv : ∃ v, edV A h v := by
    by_cases z : edg A h
    · exact ⟨1, Or.inl ⟨z, rfl⟩⟩
    · exact ⟨0, Or.inr ⟨z, rfl⟩⟩
  obtain ⟨v, hv⟩ := hv
  have R0 := R
  obtain ⟨vk, vcn, v0, v1, v2, vp, vl0, vl1, vlr, vsr, vc, tx⟩ := R0
  have vk0 := vk
  have vcn0 := vcn
  (refine K_el vk0 ?_; intros hA kc0 kc1 kc2 kc3 kc4 kc5 kc6 kc7 kc8 kc9 kc10 kc11 kc12 kc13 kc14 kc15 kc16 kc17 kc18 kc19 kc20 kc21 kc22 kc23 kc24 kc25 kc26 kc27 kc28 kc29 kc30 kc31 kc32 kc33 kc34 kc35 kc36 kc37 kc38 kc39 kz kt kn3 kn4 kn18 kn21 kn23 kn24 kn25 kn26 kn27 kn29 kn30 kr0_0 kr0_1 kr0_2 kr0_3 kr0_4 kr0_5 kr0_7 kr0_8 kr0_9 kr0_10 kr1_0 kr2_0 kr5_0 kr5_1 kr6_0 kr6_1 kr7_0 kr7_1 kr8_0 kr9_0 kr10_0 kr11_0 kr12_0 kr13_0 kr14_0 kr15_0 kr16_0 kr17_0 kr19_0 kr19_1 kr22_0 kr22_1 kr22_2 kr22_3 kr22_4 kr22_5 kr22_7 kr22_8 kr25_0 kr25_1 kr25_2 kr26_0 kr26_1 kr26_2 kr29_0 kr29_1)
  (refine Cn_el vcn0 ?_; intros ki5_2 ki6_2 ki7_2 ki8_1 ki8_2 ki8_3 ki9_1 ki9_2 ki9_3 ki10_1 ki10_2 ki10_3 ki11_1 ki11_2 ki11_3 ki12_1 ki12_2 ki12_3 ki13_1 ki13_2 ki13_3 ki14_1 ki14_2 ki14_3 ki28_0 ki28_1 ki31_0 ki31_1 ki32_0 ki32_1 ki33_0 ki33_1 ki34_0 ki34_1 ki35_0 ki35_1 ki36_0 ki36_1)
  have hAe : ∀ i j, i < 40 → j < 40 → (A i = A j ↔ i = j) := hA
  rw [c_sound R hv]
  have hv2 : edV A (p_i h (A 22) 9 0) v := by
    unfold edV edg at hv ⊢
    simp only [ml_pi, mi_pi, hAe, Nat.reduceLT, Nat.reduceEqDiff, false_and, if_false]
    exact hv
  have kz3 : kok 3 v = True := by rcases hv with ⟨-, rfl⟩ | ⟨-, rfl⟩ <;> simp [kok]
  refine ⟨v, rfl, kc22, ?_⟩
  simp only [o243_0, o243_1, o243_2, o243_5, o243_6, o243_9, m_soundNow (Rl_thr R) hv2, mc_pi, mi_pi, mcs_0, Kn_v, kok_0, true_and, and_true, if_true, and_self, Nat.zero_le, Sum.inl.injEq, Option.some.injEq, Value.int.injEq, exists_eq_left', Nat.reduceLT, kc22, kz, kz3]
  first | exact ⟨_, rfl, Rl_thr R, by rw [mi_pi, if_pos ⟨rfl, rfl⟩], rfl⟩ | exact ⟨Rl_thr R, by rw [mi_pi, if_pos ⟨rfl, rfl⟩], rfl⟩ | exact Rl_thr R


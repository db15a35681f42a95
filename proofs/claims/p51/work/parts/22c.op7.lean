theorem hx_315_2 {l rest : List Value} {bc bs : Nat} {Q : MR → MH → Prop} {h : MH} : Kc Ok 315 3 6 l rest bc bs Q (.inr 2) h ↔ ∀ q : Nat, Ok 315 13 l [.ref q] h bc bs Q := Kc_x (by decide +kernel) (by decide +kernel)
theorem op_pipe {A : Nat → Nat} {h : MH} (R : Rl A h) {x : Int32} : Ok 315 0 [.ref (A 0), .int x, .ref (A 39), mk0] [] h 1 6 (fun r h1 => ∃ k : Int32, r = .inl (some (.int k)) ∧ g_c h1 (A 22) = 9 ∧ Ok 218 0 [.ref (A 22), .int x, mk0] [] h1 1 8 (fun r2 h2 => ∃ b : Int32, r2 = .inl (some (.int b)) ∧ Rl A h2 ∧ g_i h2 (A 22) 9 = k ∧ (k = 0 → g_l h2 (A 39) 0 = b.toInt64))) := by
  obtain ⟨vk, vcn, v0, v1, v2, vp, vl0, vl1, vlr, vsr, vc, tx⟩ := R
  have vk0 := vk
  have vcn0 := vcn
  (refine K_el vk0 ?_; intros hA kc0 kc1 kc2 kc3 kc4 kc5 kc6 kc7 kc8 kc9 kc10 kc11 kc12 kc13 kc14 kc15 kc16 kc17 kc18 kc19 kc20 kc21 kc22 kc23 kc24 kc25 kc26 kc27 kc28 kc29 kc30 kc31 kc32 kc33 kc34 kc35 kc36 kc37 kc38 kc39 kz kt kn3 kn4 kn18 kn21 kn23 kn24 kn25 kn26 kn27 kn29 kn30 kr0_0 kr0_1 kr0_2 kr0_3 kr0_4 kr0_5 kr0_7 kr0_8 kr0_9 kr0_10 kr1_0 kr2_0 kr5_0 kr5_1 kr6_0 kr6_1 kr7_0 kr7_1 kr8_0 kr9_0 kr10_0 kr11_0 kr12_0 kr13_0 kr14_0 kr15_0 kr16_0 kr17_0 kr19_0 kr19_1 kr22_0 kr22_1 kr22_2 kr22_3 kr22_4 kr22_5 kr22_7 kr22_8 kr25_0 kr25_1 kr25_2 kr26_0 kr26_1 kr26_2 kr29_0 kr29_1)
  (refine Cn_el vcn0 ?_; intros ki5_2 ki6_2 ki7_2 ki8_1 ki8_2 ki8_3 ki9_1 ki9_2 ki9_3 ki10_1 ki10_2 ki10_3 ki11_1 ki11_2 ki11_3 ki12_1 ki12_2 ki12_3 ki13_1 ki13_2 ki13_3 ki14_1 ki14_2 ki14_3 ki28_0 ki28_1 ki31_0 ki31_1 ki32_0 ki32_1 ki33_0 ki33_1 ki34_0 ki34_1 ki35_0 ki35_1 ki36_0 ki36_1)
  have hAe : ∀ i j, i < 40 → j < 40 → (A i = A j ↔ i = j) := hA
  have hp2 := vp
  obtain ⟨⟨p1, p2, p3, p4⟩, hpm⟩ := hp2
  replace p1 := p1.symm
  replace p2 := p2.symm
  replace p3 := p3.symm
  replace p4 := p4.symm
  rw [p1, p2, p3, p4] at hpm
  obtain ⟨pm, pd⟩ := pA _ hpm
  simp only at pm pd
  have hta : ∀ i, i < 40 → (A i = g_t h) = False := fun i hi => eq_false (fun z => by have := kt i hi; omega)
  have hta2 : ∀ i, i < 40 → (g_t h = A i) = False := fun i hi => eq_false (fun z => by have := kt i hi; omega)
  have hzt : g_z h ≤ g_t h := Nat.le_trans (kz 0 (by decide)) (Nat.le_of_lt (kt 0 (by decide)))
  by_cases bx0 : x < 0 <;> by_cases bx9 : 7 < x
  · exact absurd (Int32.lt_trans bx9 bx0) (by decide)
  · skip
    simp only [↓ar_ite, ↓reduceIte, o315_0, o315_1, o315_2, o315_3, o315_13, o315_14, o315_15, o89_0, o89_1, o89_3, o218_0, o218_1, o218_2, o218_11, o218_12, o218_16, o218_19, o218_22, o218_23, hx_315_2, c_X8_isThrown__, c_X5_checkChoice, mc_pT, mi_pi, ml_pi, ml_pT, mz_pT, mcs_0, mcs_r, Kn_v, Kn_x, true_and, and_true, or_false, false_implies, forall_const, and_self, Nat.reduceLeDiff, Nat.reduceSub, Nat.reduceAdd, Nat.zero_le, Nat.le_refl, i10, Sum.inl.injEq, Option.some.injEq, Value.int.injEq, exists_eq_left', Nat.reduceLT, kc0, kc22, kz, bx0, bx9]
    (try simp only [ite_ar, implies_true, true_and, and_true, Classical.not_not])
    intro t ht
    first | refine ⟨⟨?_, ?_, ?_, ?_, ?_, ?_, ?_, ?_, ?_, ?_, ?_, ?_⟩, rfl⟩ | refine ⟨?_, ?_, ?_, ?_, ?_, ?_, ?_, ?_, ?_, ?_, ?_, ?_⟩
    · (try simp only [K_pi])
      exact K_pT ht vk
    · (try simp only [Cn_pi_j22 hA, Cn_pT])
      exact vcn
    · (try simp only [Vq0_pi_j22 hA, Vq0_pT])
      exact v0
    · (try simp only [Vq1_pi_j22 hA, Vq1_pT])
      exact v1
    · (try simp only [Vq2_pi_j22 hA, Vq2_pT])
      exact v2
    · (try simp only [Vp_thr hA, Vp_pT])
      exact vp
    · (try simp only [Vl0_pi_j22 hA, Vl0_pT])
      exact vl0
    · (try simp only [Vl1_pi_j22 hA, Vl1_pT])
      exact vl1
    · (try simp only [Vlr_pi_j22 hA, Vlr_pT])
      exact vlr
    · (try simp only [Vsr_pi_j22 hA, Vsr_pT])
      exact vsr
    · (try simp only [Vc_pi_j22 hA, Vc_pT])
      exact vc
    · (try simp only [Tx_pi_j22 hA])
      exact Tx_pT ht tx
  · skip
    simp only [↓ar_ite, ↓reduceIte, o315_0, o315_1, o315_2, o315_3, o315_13, o315_14, o315_15, o89_0, o89_1, o89_3, o218_0, o218_1, o218_2, o218_5, o218_6, o218_8, o218_11, o218_12, o218_16, o218_19, o218_22, o218_23, hx_315_2, c_X8_isThrown__, c_X5_checkChoice, mc_pT, mi_pi, ml_pi, ml_pT, mz_pT, mcs_0, mcs_r, Kn_v, Kn_x, true_and, and_true, or_true, not_true_eq_false, false_implies, forall_const, and_self, Nat.reduceLeDiff, Nat.reduceSub, Nat.reduceAdd, Nat.zero_le, Nat.le_refl, i10, lt_le, Sum.inl.injEq, Option.some.injEq, Value.int.injEq, exists_eq_left', Nat.reduceLT, kc0, kc22, kz, bx0, bx9]
    (try simp only [ite_ar, implies_true, true_and, and_true, Classical.not_not])
    intro t ht
    first | refine ⟨⟨?_, ?_, ?_, ?_, ?_, ?_, ?_, ?_, ?_, ?_, ?_, ?_⟩, rfl⟩ | refine ⟨?_, ?_, ?_, ?_, ?_, ?_, ?_, ?_, ?_, ?_, ?_, ?_⟩
    · (try simp only [K_pi])
      exact K_pT ht vk
    · (try simp only [Cn_pi_j22 hA, Cn_pT])
      exact vcn
    · (try simp only [Vq0_pi_j22 hA, Vq0_pT])
      exact v0
    · (try simp only [Vq1_pi_j22 hA, Vq1_pT])
      exact v1
    · (try simp only [Vq2_pi_j22 hA, Vq2_pT])
      exact v2
    · (try simp only [Vp_thr hA, Vp_pT])
      exact vp
    · (try simp only [Vl0_pi_j22 hA, Vl0_pT])
      exact vl0
    · (try simp only [Vl1_pi_j22 hA, Vl1_pT])
      exact vl1
    · (try simp only [Vlr_pi_j22 hA, Vlr_pT])
      exact vlr
    · (try simp only [Vsr_pi_j22 hA, Vsr_pT])
      exact vsr
    · (try simp only [Vc_pi_j22 hA, Vc_pT])
      exact vc
    · (try simp only [Tx_pi_j22 hA])
      exact Tx_pT ht tx
  · skip
    rcases x_cases bx0 (x_le bx9 (by decide)) with rfl | rfl | rfl | rfl | rfl | rfl | rfl | rfl | rfl
    · skip
      rcases pd with pd | pd
      all_goals
        simp only [↓ar_ite, ↓ar_ok, ↓reduceIte, o315_0, o315_1, o315_2, o315_3, o315_6, o315_7, o315_10, o315_16, o315_17, o89_0, o89_1, o89_3, o89_6, o89_7, o89_48, o89_49, o89_52, o89_55, o218_0, o218_1, o218_2, o218_5, o218_6, o218_8, o218_15, o218_16, o218_19, o218_24, o218_26, o218_28, o218_29, o218_30, o218_31, o218_34, o218_37, o218_38, o218_39, o218_40, o218_41, o218_44, o218_47, o218_48, o218_49, o218_50, o218_51, o218_54, o218_57, o218_58, o218_59, o218_60, o218_62, o218_63, o218_64, o218_65, o218_66, o218_69, o218_72, o218_73, o218_74, o218_75, o218_76, o218_79, o218_82, o218_83, o218_86, o218_87, o218_88, o218_89, o218_91, o218_92, o218_93, o218_94, o218_96, o218_97, o218_100, o218_101, o218_102, o218_103, o218_104, o218_105, c_X8_isThrown__, c_X5_checkChoice, c_X7_rests, mc_pi, mc_pl, mc_pN, mn_pi, mn_pN, mi_pi, mi_pl, mi_pN, ml_pi, ml_pl, ml_pN, mr_pi, mr_pl, mr_pN, mt_pi, mt_pl, mz_pi, mz_pl, mz_pN, mcs_0, mcs_i, mcs_r, Kn_v, Kn_0, mrf_some, true_and, and_true, and_false, not_false_eq_true, implies_true, and_self, Nat.reduceEqDiff, Nat.reduceLeDiff, Nat.reduceSub, Nat.reduceAdd, Nat.zero_le, Nat.le_refl, i10, i01, lt_le, Int32.reduceLT, cl0, cl1, cl2, cl3, cl4, cl5, cl6, cl7, cl8, Kc_v, Sum.inl.injEq, Option.some.injEq, Value.int.injEq, exists_eq_left', Nat.reduceLT, hAe, kc0, kc14, kc22, kc28, kc39, kr0_5, kr22_5, kz, p1, p2, p3, p4, pd, hta, hzt, lne, lti, vpk, Int.reduceLT, or_self, o217_0, o217_1, o217_4, o217_7, o217_8, o217_11, o217_14, o217_17, o217_18, o217_21, o217_24]
        (try simp only [ite_ar, implies_true, true_and, and_true, Classical.not_not])
        first | refine ⟨Rl_F8 ?_, rfl⟩ | refine Rl_F8 ?_ | refine ⟨Rl_Fr ?_ (show Fr (p_i (p_l h (A 39) 0 _) (A 22) 9 0) _ from (Fr_pi (Fr_pi (Fr_pi (Fr_pi (Fr_pi (Fr_pi (Fr_pi (Fr_pi (Fr_pN Fr_rfl) (Nat.le_refl _)) (Nat.le_refl _)) (Nat.le_refl _)) (Nat.le_refl _)) (Nat.le_refl _)) (Nat.le_refl _)) (Nat.le_refl _)) (Nat.le_refl _))), rfl⟩ | refine Rl_Fr ?_ (show Fr (p_i (p_l h (A 39) 0 _) (A 22) 9 0) _ from (Fr_pi (Fr_pi (Fr_pi (Fr_pi (Fr_pi (Fr_pi (Fr_pi (Fr_pi (Fr_pN Fr_rfl) (Nat.le_refl _)) (Nat.le_refl _)) (Nat.le_refl _)) (Nat.le_refl _)) (Nat.le_refl _)) (Nat.le_refl _)) (Nat.le_refl _)) (Nat.le_refl _)))
        first | refine ⟨⟨?_, ?_, ?_, ?_, ?_, ?_, ?_, ?_, ?_, ?_, ?_, ?_⟩, rfl⟩ | refine ⟨?_, ?_, ?_, ?_, ?_, ?_, ?_, ?_, ?_, ?_, ?_, ?_⟩
        · (try simp only [K_pi, K_pl])
          exact vk
        · (try simp only [Cn_pi_j22 hA, Cn_pl])
          exact vcn
        · (try simp only [Vq0_pi_j22 hA, Vq0_pl])
          exact v0
        · (try simp only [Vq1_pi_j22 hA, Vq1_pl])
          exact v1
        · (try simp only [Vq2_pi_j22 hA, Vq2_pl])
          exact v2
        · (try simp only [Vp_thr hA, Vp_pl])
          exact vp
        · (try simp only [Vl0_pi_j22 hA, Vl0_pl])
          exact vl0
        · (try simp only [Vl1_pi_j22 hA, Vl1_pl])
          exact vl1
        · (try simp only [Vlr_pi_j22 hA, Vlr_pl_j39 hA])
          exact vlr
        · (try simp only [Vsr_pi_j22 hA, Vsr_pl_j39 hA])
          exact vsr
        · (try simp only [Vc_pi_j22 hA, Vc_pl])
          exact vc
        · (try simp only [Tx_pi_j22 hA, Tx_pl])
          exact tx
    · skip
      rcases pd with pd | pd
      all_goals
        simp only [↓ar_ite, ↓ar_ok, ↓reduceIte, o315_0, o315_1, o315_2, o315_3, o315_6, o315_7, o315_10, o315_16, o315_17, o89_0, o89_1, o89_3, o89_6, o89_7, o89_56, o89_57, o89_60, o89_63, o218_0, o218_1, o218_2, o218_5, o218_6, o218_8, o218_15, o218_16, o218_19, o218_24, o218_26, o218_28, o218_29, o218_30, o218_31, o218_34, o218_37, o218_38, o218_39, o218_40, o218_41, o218_44, o218_47, o218_48, o218_49, o218_50, o218_51, o218_54, o218_57, o218_58, o218_59, o218_60, o218_62, o218_63, o218_64, o218_65, o218_66, o218_69, o218_72, o218_73, o218_74, o218_75, o218_76, o218_79, o218_82, o218_83, o218_86, o218_87, o218_88, o218_89, o218_91, o218_92, o218_93, o218_94, o218_96, o218_97, o218_100, o218_101, o218_102, o218_103, o218_104, o218_105, c_X8_isThrown__, c_X5_checkChoice, c_X7_rests, mc_pi, mc_pl, mc_pN, mn_pi, mn_pN, mi_pi, mi_pl, mi_pN, ml_pi, ml_pl, ml_pN, mr_pi, mr_pl, mr_pN, mt_pi, mt_pl, mz_pi, mz_pl, mz_pN, mcs_0, mcs_i, mcs_r, Kn_v, Kn_0, mrf_some, true_and, and_true, and_false, not_false_eq_true, implies_true, and_self, Nat.reduceEqDiff, Nat.reduceLeDiff, Nat.reduceSub, Nat.reduceAdd, Nat.zero_le, Nat.le_refl, i10, lt_le, Int32.reduceLT, cl0, cl1, cl2, cl3, cl4, cl5, cl6, cl7, cl8, Kc_v, Sum.inl.injEq, Option.some.injEq, Value.int.injEq, exists_eq_left', Nat.reduceLT, hAe, kc0, kc14, kc22, kc28, kc39, kr0_5, kr22_5, kz, p1, p2, p3, p4, pd, hta, hzt, lne, lti, vpk, Int.reduceLT, or_self, o217_0, o217_1, o217_4, o217_7, o217_8, o217_11, o217_14, o217_17, o217_18, o217_21, o217_24]
        (try simp only [ite_ar, implies_true, true_and, and_true, Classical.not_not])
        first | refine ⟨Rl_F8 ?_, rfl⟩ | refine Rl_F8 ?_ | refine ⟨Rl_Fr ?_ (show Fr (p_i (p_l h (A 39) 0 _) (A 22) 9 0) _ from (Fr_pi (Fr_pi (Fr_pi (Fr_pi (Fr_pi (Fr_pi (Fr_pi (Fr_pi (Fr_pN Fr_rfl) (Nat.le_refl _)) (Nat.le_refl _)) (Nat.le_refl _)) (Nat.le_refl _)) (Nat.le_refl _)) (Nat.le_refl _)) (Nat.le_refl _)) (Nat.le_refl _))), rfl⟩ | refine Rl_Fr ?_ (show Fr (p_i (p_l h (A 39) 0 _) (A 22) 9 0) _ from (Fr_pi (Fr_pi (Fr_pi (Fr_pi (Fr_pi (Fr_pi (Fr_pi (Fr_pi (Fr_pN Fr_rfl) (Nat.le_refl _)) (Nat.le_refl _)) (Nat.le_refl _)) (Nat.le_refl _)) (Nat.le_refl _)) (Nat.le_refl _)) (Nat.le_refl _)) (Nat.le_refl _)))
        first | refine ⟨⟨?_, ?_, ?_, ?_, ?_, ?_, ?_, ?_, ?_, ?_, ?_, ?_⟩, rfl⟩ | refine ⟨?_, ?_, ?_, ?_, ?_, ?_, ?_, ?_, ?_, ?_, ?_, ?_⟩
        · (try simp only [K_pi, K_pl])
          exact vk
        · (try simp only [Cn_pi_j22 hA, Cn_pl])
          exact vcn
        · (try simp only [Vq0_pi_j22 hA, Vq0_pl])
          exact v0
        · (try simp only [Vq1_pi_j22 hA, Vq1_pl])
          exact v1
        · (try simp only [Vq2_pi_j22 hA, Vq2_pl])
          exact v2
        · (try simp only [Vp_thr hA, Vp_pl])
          exact vp
        · (try simp only [Vl0_pi_j22 hA, Vl0_pl])
          exact vl0
        · (try simp only [Vl1_pi_j22 hA, Vl1_pl])
          exact vl1
        · (try simp only [Vlr_pi_j22 hA, Vlr_pl_j39 hA])
          exact vlr
        · (try simp only [Vsr_pi_j22 hA, Vsr_pl_j39 hA])
          exact vsr
        · (try simp only [Vc_pi_j22 hA, Vc_pl])
          exact vc
        · (try simp only [Tx_pi_j22 hA, Tx_pl])
          exact tx
    · skip
      rcases pd with pd | pd
      all_goals
        simp only [↓ar_ite, ↓ar_ok, ↓reduceIte, o315_0, o315_1, o315_2, o315_3, o315_6, o315_7, o315_10, o315_16, o315_17, o89_0, o89_1, o89_3, o89_6, o89_7, o89_64, o89_65, o89_68, o89_71, o218_0, o218_1, o218_2, o218_5, o218_6, o218_8, o218_15, o218_16, o218_19, o218_24, o218_26, o218_28, o218_29, o218_30, o218_31, o218_34, o218_37, o218_38, o218_39, o218_40, o218_41, o218_44, o218_47, o218_48, o218_49, o218_50, o218_51, o218_54, o218_57, o218_58, o218_59, o218_60, o218_62, o218_63, o218_64, o218_65, o218_66, o218_69, o218_72, o218_73, o218_74, o218_75, o218_76, o218_79, o218_82, o218_83, o218_86, o218_87, o218_88, o218_89, o218_91, o218_92, o218_93, o218_94, o218_96, o218_97, o218_100, o218_101, o218_102, o218_103, o218_104, o218_105, c_X8_isThrown__, c_X5_checkChoice, c_X3_rests, c_X7_rests, mc_pi, mc_pl, mc_pN, mn_pi, mn_pN, mi_pi, mi_pl, mi_pN, ml_pi, ml_pl, ml_pN, mr_pi, mr_pl, mr_pN, mt_pi, mt_pl, mz_pi, mz_pl, mz_pN, mcs_0, mcs_i, mcs_r, Kn_v, Kn_0, mrf_some, true_and, and_true, and_false, not_false_eq_true, implies_true, and_self, Nat.reduceEqDiff, Nat.reduceLeDiff, Nat.reduceSub, Nat.reduceAdd, Nat.zero_le, Nat.le_refl, i10, lt_le, Int32.reduceLT, cl0, cl1, cl2, cl3, cl4, cl5, cl6, cl7, cl8, Kc_v, Sum.inl.injEq, Option.some.injEq, Value.int.injEq, exists_eq_left', Nat.reduceLT, hAe, i20, kc0, kc14, kc22, kc28, kc39, kr0_5, kr22_5, kz, p1, p2, p3, p4, pd, hta, hzt, lne, lti, vpk, Int.reduceLT, or_self, o217_0, o217_1, o217_4, o217_7, o217_8, o217_11, o217_14, o217_17, o217_18, o217_21, o217_24]
        (try simp only [ite_ar, implies_true, true_and, and_true, Classical.not_not])
        first | refine ⟨Rl_F8 ?_, rfl⟩ | refine Rl_F8 ?_ | refine ⟨Rl_Fr ?_ (show Fr (p_i (p_l h (A 39) 0 _) (A 22) 9 0) _ from (Fr_pi (Fr_pi (Fr_pi (Fr_pi (Fr_pi (Fr_pi (Fr_pi (Fr_pi (Fr_pN Fr_rfl) (Nat.le_refl _)) (Nat.le_refl _)) (Nat.le_refl _)) (Nat.le_refl _)) (Nat.le_refl _)) (Nat.le_refl _)) (Nat.le_refl _)) (Nat.le_refl _))), rfl⟩ | refine Rl_Fr ?_ (show Fr (p_i (p_l h (A 39) 0 _) (A 22) 9 0) _ from (Fr_pi (Fr_pi (Fr_pi (Fr_pi (Fr_pi (Fr_pi (Fr_pi (Fr_pi (Fr_pN Fr_rfl) (Nat.le_refl _)) (Nat.le_refl _)) (Nat.le_refl _)) (Nat.le_refl _)) (Nat.le_refl _)) (Nat.le_refl _)) (Nat.le_refl _)) (Nat.le_refl _)))
        first | refine ⟨⟨?_, ?_, ?_, ?_, ?_, ?_, ?_, ?_, ?_, ?_, ?_, ?_⟩, rfl⟩ | refine ⟨?_, ?_, ?_, ?_, ?_, ?_, ?_, ?_, ?_, ?_, ?_, ?_⟩
        · (try simp only [K_pi, K_pl])
          exact vk
        · (try simp only [Cn_pi_j22 hA, Cn_pl])
          exact vcn
        · (try simp only [Vq0_pi_j22 hA, Vq0_pl])
          exact v0
        · (try simp only [Vq1_pi_j22 hA, Vq1_pl])
          exact v1
        · (try simp only [Vq2_pi_j22 hA, Vq2_pl])
          exact v2
        · (try simp only [Vp_thr hA, Vp_pl])
          exact vp
        · (try simp only [Vl0_pi_j22 hA, Vl0_pl])
          exact vl0
        · (try simp only [Vl1_pi_j22 hA, Vl1_pl])
          exact vl1
        · (try simp only [Vlr_pi_j22 hA, Vlr_pl_j39 hA])
          exact vlr
        · (try simp only [Vsr_pi_j22 hA, Vsr_pl_j39 hA])
          exact vsr
        · (try simp only [Vc_pi_j22 hA, Vc_pl])
          exact vc
        · (try simp only [Tx_pi_j22 hA, Tx_pl])
          exact tx
    · skip
      rcases pd with pd | pd
      all_goals
        simp only [↓ar_ite, ↓ar_ok, ↓reduceIte, o315_0, o315_1, o315_2, o315_3, o315_6, o315_7, o315_10, o315_16, o315_17, o89_0, o89_1, o89_3, o89_6, o89_7, o89_72, o89_73, o89_76, o89_79, o218_0, o218_1, o218_2, o218_5, o218_6, o218_8, o218_15, o218_16, o218_19, o218_24, o218_26, o218_28, o218_29, o218_30, o218_31, o218_34, o218_37, o218_38, o218_39, o218_40, o218_41, o218_44, o218_47, o218_48, o218_49, o218_50, o218_51, o218_54, o218_57, o218_58, o218_59, o218_60, o218_62, o218_63, o218_64, o218_65, o218_66, o218_69, o218_72, o218_73, o218_74, o218_75, o218_76, o218_79, o218_82, o218_83, o218_86, o218_87, o218_88, o218_89, o218_91, o218_92, o218_93, o218_94, o218_96, o218_97, o218_100, o218_101, o218_102, o218_103, o218_104, o218_105, c_X8_isThrown__, c_X5_checkChoice, c_X7_rests, mc_pi, mc_pl, mc_pN, mn_pi, mn_pN, mi_pi, mi_pl, mi_pN, ml_pi, ml_pl, ml_pN, mr_pi, mr_pl, mr_pN, mt_pi, mt_pl, mz_pi, mz_pl, mz_pN, mcs_0, mcs_i, mcs_r, Kn_v, Kn_0, mrf_some, true_and, and_true, and_false, not_false_eq_true, implies_true, and_self, Nat.reduceEqDiff, Nat.reduceLeDiff, Nat.reduceSub, Nat.reduceAdd, Nat.zero_le, Nat.le_refl, i10, lt_le, Int32.reduceLT, cl0, cl1, cl2, cl3, cl4, cl5, cl6, cl7, cl8, Kc_v, Sum.inl.injEq, Option.some.injEq, Value.int.injEq, exists_eq_left', Nat.reduceLT, hAe, i30, kc0, kc14, kc22, kc28, kc39, kr0_5, kr22_5, kz, ki14_2, p1, p2, p3, p4, pd, hta, hzt, lne, lti, vpk, Int.reduceLT, or_self, o217_0, o217_1, o217_4, o217_7, o217_8, o217_11, o217_14, o217_17, o217_18, o217_21, o217_24]
        (try simp only [ite_ar, implies_true, true_and, and_true, Classical.not_not])
        first | refine ⟨Rl_F8 ?_, rfl⟩ | refine Rl_F8 ?_ | refine ⟨Rl_Fr ?_ (show Fr (p_i (p_l h (A 39) 0 _) (A 22) 9 0) _ from (Fr_pi (Fr_pi (Fr_pi (Fr_pi (Fr_pi (Fr_pi (Fr_pi (Fr_pi (Fr_pN Fr_rfl) (Nat.le_refl _)) (Nat.le_refl _)) (Nat.le_refl _)) (Nat.le_refl _)) (Nat.le_refl _)) (Nat.le_refl _)) (Nat.le_refl _)) (Nat.le_refl _))), rfl⟩ | refine Rl_Fr ?_ (show Fr (p_i (p_l h (A 39) 0 _) (A 22) 9 0) _ from (Fr_pi (Fr_pi (Fr_pi (Fr_pi (Fr_pi (Fr_pi (Fr_pi (Fr_pi (Fr_pN Fr_rfl) (Nat.le_refl _)) (Nat.le_refl _)) (Nat.le_refl _)) (Nat.le_refl _)) (Nat.le_refl _)) (Nat.le_refl _)) (Nat.le_refl _)) (Nat.le_refl _)))
        first | refine ⟨⟨?_, ?_, ?_, ?_, ?_, ?_, ?_, ?_, ?_, ?_, ?_, ?_⟩, rfl⟩ | refine ⟨?_, ?_, ?_, ?_, ?_, ?_, ?_, ?_, ?_, ?_, ?_, ?_⟩
        · (try simp only [K_pi, K_pl])
          exact vk
        · (try simp only [Cn_pi_j22 hA, Cn_pl])
          exact vcn
        · (try simp only [Vq0_pi_j22 hA, Vq0_pl])
          exact v0
        · (try simp only [Vq1_pi_j22 hA, Vq1_pl])
          exact v1
        · (try simp only [Vq2_pi_j22 hA, Vq2_pl])
          exact v2
        · (try simp only [Vp_thr hA, Vp_pl])
          exact vp
        · (try simp only [Vl0_pi_j22 hA, Vl0_pl])
          exact vl0
        · (try simp only [Vl1_pi_j22 hA, Vl1_pl])
          exact vl1
        · (try simp only [Vlr_pi_j22 hA, Vlr_pl_j39 hA])
          exact vlr
        · (try simp only [Vsr_pi_j22 hA, Vsr_pl_j39 hA])
          exact vsr
        · (try simp only [Vc_pi_j22 hA, Vc_pl])
          exact vc
        · (try simp only [Tx_pi_j22 hA, Tx_pl])
          exact tx
    · skip
      rcases pd with pd | pd
      all_goals
        simp only [↓ar_ite, ↓ar_ok, ↓reduceIte, o315_0, o315_1, o315_2, o315_3, o315_6, o315_7, o315_10, o315_16, o315_17, o89_0, o89_1, o89_3, o89_6, o89_7, o89_80, o89_81, o89_84, o89_87, o218_0, o218_1, o218_2, o218_5, o218_6, o218_8, o218_15, o218_16, o218_19, o218_24, o218_26, o218_28, o218_29, o218_30, o218_31, o218_34, o218_37, o218_38, o218_39, o218_40, o218_41, o218_44, o218_47, o218_48, o218_49, o218_50, o218_51, o218_54, o218_57, o218_58, o218_59, o218_60, o218_62, o218_63, o218_64, o218_65, o218_66, o218_69, o218_72, o218_73, o218_74, o218_75, o218_76, o218_79, o218_82, o218_83, o218_86, o218_87, o218_88, o218_89, o218_91, o218_92, o218_93, o218_94, o218_96, o218_97, o218_100, o218_101, o218_102, o218_103, o218_104, o218_105, c_X8_isThrown__, c_X5_checkChoice, c_X7_rests, mc_pi, mc_pl, mc_pN, mn_pi, mn_pN, mi_pi, mi_pl, mi_pN, ml_pi, ml_pl, ml_pN, mr_pi, mr_pl, mr_pN, mt_pi, mt_pl, mz_pi, mz_pl, mz_pN, mcs_0, mcs_i, mcs_r, Kn_v, Kn_0, mrf_some, true_and, and_true, and_false, not_false_eq_true, implies_true, and_self, Nat.reduceEqDiff, Nat.reduceLeDiff, Nat.reduceSub, Nat.reduceAdd, Nat.zero_le, Nat.le_refl, i10, lt_le, Int32.reduceLT, cl0, cl1, cl2, cl3, cl4, cl5, cl6, cl7, cl8, Kc_v, Sum.inl.injEq, Option.some.injEq, Value.int.injEq, exists_eq_left', Nat.reduceLT, hAe, kc0, kc14, kc22, kc28, kc39, kr0_5, kr22_5, kz, p1, p2, p3, p4, pd, hta, hzt, lne, lti, vpk, Int.reduceLT, or_self, o217_0, o217_1, o217_4, o217_7, o217_8, o217_11, o217_14, o217_17, o217_18, o217_21, o217_24]
        (try simp only [ite_ar, implies_true, true_and, and_true, Classical.not_not])
        first | refine ⟨Rl_F8 ?_, rfl⟩ | refine Rl_F8 ?_ | refine ⟨Rl_Fr ?_ (show Fr (p_i (p_l h (A 39) 0 _) (A 22) 9 0) _ from (Fr_pi (Fr_pi (Fr_pi (Fr_pi (Fr_pi (Fr_pi (Fr_pi (Fr_pi (Fr_pN Fr_rfl) (Nat.le_refl _)) (Nat.le_refl _)) (Nat.le_refl _)) (Nat.le_refl _)) (Nat.le_refl _)) (Nat.le_refl _)) (Nat.le_refl _)) (Nat.le_refl _))), rfl⟩ | refine Rl_Fr ?_ (show Fr (p_i (p_l h (A 39) 0 _) (A 22) 9 0) _ from (Fr_pi (Fr_pi (Fr_pi (Fr_pi (Fr_pi (Fr_pi (Fr_pi (Fr_pi (Fr_pN Fr_rfl) (Nat.le_refl _)) (Nat.le_refl _)) (Nat.le_refl _)) (Nat.le_refl _)) (Nat.le_refl _)) (Nat.le_refl _)) (Nat.le_refl _)) (Nat.le_refl _)))
        first | refine ⟨⟨?_, ?_, ?_, ?_, ?_, ?_, ?_, ?_, ?_, ?_, ?_, ?_⟩, rfl⟩ | refine ⟨?_, ?_, ?_, ?_, ?_, ?_, ?_, ?_, ?_, ?_, ?_, ?_⟩
        · (try simp only [K_pi, K_pl])
          exact vk
        · (try simp only [Cn_pi_j22 hA, Cn_pl])
          exact vcn
        · (try simp only [Vq0_pi_j22 hA, Vq0_pl])
          exact v0
        · (try simp only [Vq1_pi_j22 hA, Vq1_pl])
          exact v1
        · (try simp only [Vq2_pi_j22 hA, Vq2_pl])
          exact v2
        · (try simp only [Vp_thr hA, Vp_pl])
          exact vp
        · (try simp only [Vl0_pi_j22 hA, Vl0_pl])
          exact vl0
        · (try simp only [Vl1_pi_j22 hA, Vl1_pl])
          exact vl1
        · (try simp only [Vlr_pi_j22 hA, Vlr_pl_j39 hA])
          exact vlr
        · (try simp only [Vsr_pi_j22 hA, Vsr_pl_j39 hA])
          exact vsr
        · (try simp only [Vc_pi_j22 hA, Vc_pl])
          exact vc
        · (try simp only [Tx_pi_j22 hA, Tx_pl])
          exact tx
    · skip
      rcases pd with pd | pd
      all_goals
        simp only [↓ar_ite, ↓ar_ok, ↓reduceIte, o315_0, o315_1, o315_2, o315_3, o315_6, o315_7, o315_10, o315_16, o315_17, o89_0, o89_1, o89_3, o89_6, o89_7, o89_88, o89_89, o89_92, o89_95, o89_96, o89_99, o89_100, o218_0, o218_1, o218_2, o218_5, o218_6, o218_8, o218_15, o218_16, o218_19, o218_24, o218_26, o218_28, o218_29, o218_30, o218_31, o218_34, o218_37, o218_38, o218_39, o218_40, o218_41, o218_44, o218_47, o218_48, o218_49, o218_50, o218_51, o218_54, o218_57, o218_58, o218_59, o218_60, o218_62, o218_63, o218_64, o218_65, o218_66, o218_69, o218_72, o218_73, o218_74, o218_75, o218_76, o218_79, o218_82, o218_83, o218_86, o218_87, o218_88, o218_89, o218_91, o218_92, o218_93, o218_94, o218_96, o218_97, o218_100, o218_101, o218_102, o218_103, o218_104, o218_105, c_X8_isThrown__, c_X5_checkChoice, c_X7_rests, mc_pi, mc_pl, mc_pN, mn_pi, mn_pN, mi_pi, mi_pl, mi_pN, ml_pi, ml_pl, ml_pN, mr_pi, mr_pl, mr_pN, mt_pi, mt_pl, mz_pi, mz_pl, mz_pN, mcs_0, mcs_i, mcs_r, Kn_v, Kn_0, mrf_some, true_and, and_true, and_false, not_false_eq_true, implies_true, and_self, Nat.reduceEqDiff, Nat.reduceLeDiff, Nat.reduceSub, Nat.reduceAdd, Nat.zero_le, Nat.le_refl, i10, lt_le, Int32.reduceLT, cl0, cl1, cl2, cl3, cl4, cl5, cl6, cl7, cl8, Kc_v, Sum.inl.injEq, Option.some.injEq, Value.int.injEq, exists_eq_left', Nat.reduceLT, hAe, kc0, kc22, kc28, kc39, kr22_5, kz, p1, p2, p3, p4, pd, hta, hzt, lne, lti, vpk, Int.reduceLT, or_self, o217_0, o217_1, o217_4, o217_7, o217_8, o217_11, o217_14, o217_17, o217_18, o217_21, o217_24]
        (try simp only [ite_ar, implies_true, true_and, and_true, Classical.not_not])
        first | refine ⟨Rl_F8 ?_, rfl⟩ | refine Rl_F8 ?_ | refine ⟨Rl_Fr ?_ (show Fr (p_i (p_l h (A 39) 0 _) (A 22) 9 0) _ from (Fr_pi (Fr_pi (Fr_pi (Fr_pi (Fr_pi (Fr_pi (Fr_pi (Fr_pi (Fr_pN Fr_rfl) (Nat.le_refl _)) (Nat.le_refl _)) (Nat.le_refl _)) (Nat.le_refl _)) (Nat.le_refl _)) (Nat.le_refl _)) (Nat.le_refl _)) (Nat.le_refl _))), rfl⟩ | refine Rl_Fr ?_ (show Fr (p_i (p_l h (A 39) 0 _) (A 22) 9 0) _ from (Fr_pi (Fr_pi (Fr_pi (Fr_pi (Fr_pi (Fr_pi (Fr_pi (Fr_pi (Fr_pN Fr_rfl) (Nat.le_refl _)) (Nat.le_refl _)) (Nat.le_refl _)) (Nat.le_refl _)) (Nat.le_refl _)) (Nat.le_refl _)) (Nat.le_refl _)) (Nat.le_refl _)))
        first | refine ⟨⟨?_, ?_, ?_, ?_, ?_, ?_, ?_, ?_, ?_, ?_, ?_, ?_⟩, rfl⟩ | refine ⟨?_, ?_, ?_, ?_, ?_, ?_, ?_, ?_, ?_, ?_, ?_, ?_⟩
        · (try simp only [K_pi, K_pl])
          exact vk
        · (try simp only [Cn_pi_j22 hA, Cn_pl])
          exact vcn
        · (try simp only [Vq0_pi_j22 hA, Vq0_pl])
          exact v0
        · (try simp only [Vq1_pi_j22 hA, Vq1_pl])
          exact v1
        · (try simp only [Vq2_pi_j22 hA, Vq2_pl])
          exact v2
        · (try simp only [Vp_thr hA, Vp_pl])
          exact vp
        · (try simp only [Vl0_pi_j22 hA, Vl0_pl])
          exact vl0
        · (try simp only [Vl1_pi_j22 hA, Vl1_pl])
          exact vl1
        · (try simp only [Vlr_pi_j22 hA, Vlr_pl_j39 hA])
          exact vlr
        · (try simp only [Vsr_pi_j22 hA, Vsr_pl_j39 hA])
          exact vsr
        · (try simp only [Vc_pi_j22 hA, Vc_pl])
          exact vc
        · (try simp only [Tx_pi_j22 hA, Tx_pl])
          exact tx
    · skip
      rcases pd with pd | pd
      all_goals
        simp only [↓ar_ite, ↓ar_ok, ↓reduceIte, o315_0, o315_1, o315_2, o315_3, o315_6, o315_7, o315_10, o315_16, o315_17, o89_0, o89_1, o89_3, o89_6, o89_7, o89_101, o89_102, o89_105, o89_108, o218_0, o218_1, o218_2, o218_5, o218_6, o218_8, o218_15, o218_16, o218_19, o218_24, o218_26, o218_28, o218_29, o218_30, o218_31, o218_34, o218_37, o218_38, o218_39, o218_40, o218_41, o218_44, o218_47, o218_48, o218_49, o218_50, o218_51, o218_54, o218_57, o218_58, o218_59, o218_60, o218_62, o218_63, o218_64, o218_65, o218_66, o218_69, o218_72, o218_73, o218_74, o218_75, o218_76, o218_79, o218_82, o218_83, o218_86, o218_87, o218_88, o218_89, o218_91, o218_92, o218_93, o218_94, o218_96, o218_97, o218_100, o218_101, o218_102, o218_103, o218_104, o218_105, c_X8_isThrown__, c_X5_checkChoice, c_X7_rests, mc_pi, mc_pl, mc_pN, mn_pi, mn_pN, mi_pi, mi_pl, mi_pN, ml_pi, ml_pl, ml_pN, mr_pi, mr_pl, mr_pN, mt_pi, mt_pl, mz_pi, mz_pl, mz_pN, mcs_0, mcs_i, mcs_r, Kn_v, Kn_0, mrf_some, true_and, and_true, and_false, not_false_eq_true, implies_true, and_self, Nat.reduceEqDiff, Nat.reduceLeDiff, Nat.reduceSub, Nat.reduceAdd, Nat.zero_le, Nat.le_refl, i10, lt_le, Int32.reduceLT, cl0, cl1, cl2, cl3, cl4, cl5, cl6, cl7, cl8, Kc_v, Sum.inl.injEq, Option.some.injEq, Value.int.injEq, exists_eq_left', Nat.reduceLT, hAe, kc0, kc14, kc22, kc28, kc39, kr0_5, kr22_5, kz, ki14_1, p1, p2, p3, p4, pd, hta, hzt, lne, lti, vpk, Int.reduceLT, or_self, o217_0, o217_1, o217_4, o217_7, o217_8, o217_11, o217_14, o217_17, o217_18, o217_21, o217_24]
        (try simp only [ite_ar, implies_true, true_and, and_true, Classical.not_not])
        first | refine ⟨Rl_F8 ?_, rfl⟩ | refine Rl_F8 ?_ | refine ⟨Rl_Fr ?_ (show Fr (p_i (p_l h (A 39) 0 _) (A 22) 9 0) _ from (Fr_pi (Fr_pi (Fr_pi (Fr_pi (Fr_pi (Fr_pi (Fr_pi (Fr_pi (Fr_pN Fr_rfl) (Nat.le_refl _)) (Nat.le_refl _)) (Nat.le_refl _)) (Nat.le_refl _)) (Nat.le_refl _)) (Nat.le_refl _)) (Nat.le_refl _)) (Nat.le_refl _))), rfl⟩ | refine Rl_Fr ?_ (show Fr (p_i (p_l h (A 39) 0 _) (A 22) 9 0) _ from (Fr_pi (Fr_pi (Fr_pi (Fr_pi (Fr_pi (Fr_pi (Fr_pi (Fr_pi (Fr_pN Fr_rfl) (Nat.le_refl _)) (Nat.le_refl _)) (Nat.le_refl _)) (Nat.le_refl _)) (Nat.le_refl _)) (Nat.le_refl _)) (Nat.le_refl _)) (Nat.le_refl _)))
        first | refine ⟨⟨?_, ?_, ?_, ?_, ?_, ?_, ?_, ?_, ?_, ?_, ?_, ?_⟩, rfl⟩ | refine ⟨?_, ?_, ?_, ?_, ?_, ?_, ?_, ?_, ?_, ?_, ?_, ?_⟩
        · (try simp only [K_pi, K_pl])
          exact vk
        · (try simp only [Cn_pi_j22 hA, Cn_pl])
          exact vcn
        · (try simp only [Vq0_pi_j22 hA, Vq0_pl])
          exact v0
        · (try simp only [Vq1_pi_j22 hA, Vq1_pl])
          exact v1
        · (try simp only [Vq2_pi_j22 hA, Vq2_pl])
          exact v2
        · (try simp only [Vp_thr hA, Vp_pl])
          exact vp
        · (try simp only [Vl0_pi_j22 hA, Vl0_pl])
          exact vl0
        · (try simp only [Vl1_pi_j22 hA, Vl1_pl])
          exact vl1
        · (try simp only [Vlr_pi_j22 hA, Vlr_pl_j39 hA])
          exact vlr
        · (try simp only [Vsr_pi_j22 hA, Vsr_pl_j39 hA])
          exact vsr
        · (try simp only [Vc_pi_j22 hA, Vc_pl])
          exact vc
        · (try simp only [Tx_pi_j22 hA, Tx_pl])
          exact tx
    · skip
      rcases pd with pd | pd
      all_goals
        simp only [↓ar_ite, ↓ar_ok, ↓reduceIte, o315_0, o315_1, o315_2, o315_3, o315_6, o315_7, o315_10, o315_16, o315_17, o89_0, o89_1, o89_3, o89_6, o89_7, o89_109, o89_110, o89_113, o89_114, o89_117, o89_118, o218_0, o218_1, o218_2, o218_5, o218_6, o218_8, o218_15, o218_16, o218_19, o218_24, o218_26, o218_28, o218_29, o218_30, o218_31, o218_34, o218_37, o218_38, o218_39, o218_40, o218_41, o218_44, o218_47, o218_48, o218_49, o218_50, o218_51, o218_54, o218_57, o218_58, o218_59, o218_60, o218_62, o218_63, o218_64, o218_65, o218_66, o218_69, o218_72, o218_73, o218_74, o218_75, o218_76, o218_79, o218_82, o218_83, o218_86, o218_87, o218_88, o218_89, o218_91, o218_92, o218_93, o218_94, o218_96, o218_97, o218_100, o218_101, o218_102, o218_103, o218_104, o218_105, c_X8_isThrown__, c_X5_checkChoice, c_X7_rests, mc_pi, mc_pl, mc_pN, mn_pi, mn_pN, mi_pi, mi_pl, mi_pN, ml_pi, ml_pl, ml_pN, mr_pi, mr_pl, mr_pN, mt_pi, mt_pl, mz_pi, mz_pl, mz_pN, mcs_0, mcs_i, mcs_r, Kn_v, Kn_0, mrf_some, true_and, and_true, and_false, or_true, not_false_eq_true, implies_true, and_self, Nat.reduceEqDiff, Nat.reduceLeDiff, Nat.reduceSub, Nat.reduceAdd, Nat.zero_le, Nat.le_refl, i10, lt_le, Int32.reduceLT, cl0, cl1, cl2, cl3, cl4, cl5, cl6, cl7, cl8, Kc_v, Sum.inl.injEq, Option.some.injEq, Value.int.injEq, exists_eq_left', Nat.reduceLT, hAe, kc0, kc14, kc22, kc28, kc39, kr0_5, kr22_5, kz, p1, p2, p3, p4, pd, hta, hzt, lne, lti, vpk, Int.reduceLT, or_self, o217_0, o217_1, o217_4, o217_7, o217_8, o217_11, o217_14, o217_17, o217_18, o217_21, o217_24, o131_0, o131_1, o131_4, o131_7, o131_8, o131_11, o131_14, o131_17, o131_18, o132_0, o132_1, o132_4, o132_7, o132_8, o132_11, o132_14, o132_17, o132_18, o132_21, o132_24, lsz]
        (try simp only [ite_ar, implies_true, true_and, and_true, Classical.not_not])
        first | refine ⟨Rl_F8 ?_, rfl⟩ | refine Rl_F8 ?_ | refine ⟨Rl_Fr ?_ (show Fr (p_i (p_l h (A 39) 0 _) (A 22) 9 0) _ from (Fr_pi (Fr_pi (Fr_pi (Fr_pi (Fr_pi (Fr_pi (Fr_pi (Fr_pi (Fr_pN Fr_rfl) (Nat.le_refl _)) (Nat.le_refl _)) (Nat.le_refl _)) (Nat.le_refl _)) (Nat.le_refl _)) (Nat.le_refl _)) (Nat.le_refl _)) (Nat.le_refl _))), rfl⟩ | refine Rl_Fr ?_ (show Fr (p_i (p_l h (A 39) 0 _) (A 22) 9 0) _ from (Fr_pi (Fr_pi (Fr_pi (Fr_pi (Fr_pi (Fr_pi (Fr_pi (Fr_pi (Fr_pN Fr_rfl) (Nat.le_refl _)) (Nat.le_refl _)) (Nat.le_refl _)) (Nat.le_refl _)) (Nat.le_refl _)) (Nat.le_refl _)) (Nat.le_refl _)) (Nat.le_refl _)))
        first | refine ⟨⟨?_, ?_, ?_, ?_, ?_, ?_, ?_, ?_, ?_, ?_, ?_, ?_⟩, rfl⟩ | refine ⟨?_, ?_, ?_, ?_, ?_, ?_, ?_, ?_, ?_, ?_, ?_, ?_⟩
        · (try simp only [K_pi, K_pl])
          exact vk
        · (try simp only [Cn_pi_j22 hA, Cn_pl])
          exact vcn
        · (try simp only [Vq0_pi_j22 hA, Vq0_pl])
          exact v0
        · (try simp only [Vq1_pi_j22 hA, Vq1_pl])
          exact v1
        · (try simp only [Vq2_pi_j22 hA, Vq2_pl])
          exact v2
        · (try simp only [Vp_thr hA, Vp_pl])
          exact vp
        · (try simp only [Vl0_pi_j22 hA, Vl0_pl])
          exact vl0
        · (try simp only [Vl1_pi_j22 hA, Vl1_pl])
          exact vl1
        · (try simp only [Vlr_pi_j22 hA, Vlr_pl_j39 hA])
          exact vlr
        · (try simp only [Vsr_pi_j22 hA, Vsr_pl_j39 hA])
          exact vsr
        · (try simp only [Vc_pi_j22 hA, Vc_pl])
          exact vc
        · (try simp only [Tx_pi_j22 hA, Tx_pl])
          exact tx
    · exact absurd (show (7 : Int32) < 8 by decide) bx9

theorem hx_321_1 {l rest : List Value} {bc bs : Nat} {Q : MR → MH → Prop} {h : MH} : Kc Ok 321 4 7 l rest bc bs Q (.inr 1) h ↔ ∀ q : Nat, Ok 321 14 l [.ref q] h bc bs Q := Kc_x (by decide +kernel) (by decide +kernel)
theorem hx_321_2 {l rest : List Value} {bc bs : Nat} {Q : MR → MH → Prop} {h : MH} : Kc Ok 321 4 7 l rest bc bs Q (.inr 2) h ↔ ∀ q : Nat, Ok 321 18 l [.ref q] h bc bs Q := Kc_x (by decide +kernel) (by decide +kernel)
set_option maxHeartbeats 16000000 in
theorem op_lens {A : Nat → Nat} {h : MH} (R : Rl A h) {e x : Int32} : Ok 321 0 [.ref (A 0), .int e, .int x, .ref (A 39), mk0] [] h 2 12 (fun r h1 => ∃ k : Int32, r = .inl (some (.int k)) ∧ g_c h1 (A 22) = 9 ∧ Ok 228 0 [.ref (A 22), .int e, .int x] [] h1 1 9 (fun r2 h2 => ∃ b : Int32, r2 = .inl (some (.int b)) ∧ Rl A h2 ∧ g_i h2 (A 22) 9 = k ∧ (k = 0 → g_l h2 (A 39) 0 = b.toInt64))) := by
  obtain ⟨vk, vcn, v0, v1, v2, vp, vl0, vl1, vlr, vsr, vc, tx⟩ := R
  have vk0 := vk
  have vcn0 := vcn
  (refine K_el vk0 ?_; intros hA kc0 kc1 kc2 kc3 kc4 kc5 kc6 kc7 kc8 kc9 kc10 kc11 kc12 kc13 kc14 kc15 kc16 kc17 kc18 kc19 kc20 kc21 kc22 kc23 kc24 kc25 kc26 kc27 kc28 kc29 kc30 kc31 kc32 kc33 kc34 kc35 kc36 kc37 kc38 kc39 kz kt kn3 kn4 kn18 kn21 kn23 kn24 kn25 kn26 kn27 kn29 kn30 kr0_0 kr0_1 kr0_2 kr0_3 kr0_4 kr0_5 kr0_7 kr0_8 kr0_9 kr0_10 kr1_0 kr2_0 kr5_0 kr5_1 kr6_0 kr6_1 kr7_0 kr7_1 kr8_0 kr9_0 kr10_0 kr11_0 kr12_0 kr13_0 kr14_0 kr15_0 kr16_0 kr17_0 kr19_0 kr19_1 kr22_0 kr22_1 kr22_2 kr22_3 kr22_4 kr22_5 kr22_7 kr22_8 kr25_0 kr25_1 kr25_2 kr26_0 kr26_1 kr26_2 kr29_0 kr29_1)
  (refine Cn_el vcn0 ?_; intros ki5_2 ki6_2 ki7_2 ki8_1 ki8_2 ki8_3 ki9_1 ki9_2 ki9_3 ki10_1 ki10_2 ki10_3 ki11_1 ki11_2 ki11_3 ki12_1 ki12_2 ki12_3 ki13_1 ki13_2 ki13_3 ki14_1 ki14_2 ki14_3 ki28_0 ki28_1 ki31_0 ki31_1 ki32_0 ki32_1 ki33_0 ki33_1 ki34_0 ki34_1 ki35_0 ki35_1 ki36_0 ki36_1)
  have hAe : ∀ i j, i < 40 → j < 40 → (A i = A j ↔ i = j) := hA
  have hta : ∀ i, i < 40 → (A i = g_t h) = False := fun i hi => eq_false (fun z => by have := kt i hi; omega)
  have hta2 : ∀ i, i < 40 → (g_t h = A i) = False := fun i hi => eq_false (fun z => by have := kt i hi; omega)
  have hzt : g_z h ≤ g_t h := Nat.le_trans (kz 0 (by decide)) (Nat.le_of_lt (kt 0 (by decide)))
  by_cases bx0 : x < 0 <;> by_cases bx9 : 8 < x
  · exact absurd (Int32.lt_trans bx9 bx0) (by decide)
  · by_cases be : e < 0 ∨ ¬ e < 2
    · have be2 := e_bad be
      simp only [↓ar_ite, ↓ar_ite2, ↓reduceIte, o321_0, o321_1, o321_2, o321_3, o321_4, o321_14, o321_16, o321_17, o96_0, o96_1, o96_2, o228_0, o228_1, o228_2, o228_5, o228_8, o228_9, o228_13, o228_14, o228_23, o228_24, o228_28, o228_31, o228_34, o228_35, o228_44, hx_321_1, c_X8_isThrown_, c_X8_isLens, c_lensOf_bad, mc_pT, mi_pi, ml_pi, ml_pT, mz_pT, mcs_0, mcs_r, Kn_v, Kn_x, true_and, and_true, false_implies, forall_const, and_self, Nat.reduceLeDiff, Nat.reduceSub, Nat.reduceAdd, Nat.zero_le, Nat.le_refl, i10, Sum.inl.injEq, Option.some.injEq, Value.int.injEq, exists_eq_left', Nat.reduceLT, kc0, kc22, kz, be, be2, bx0]
      (try simp only [ite_ar, implies_true, true_and, and_true, Classical.not_not])
      intro t ht
      first | refine ⟨⟨?_, ?_, ?_, ?_, ?_, ?_, ?_, ?_, ?_, ?_, ?_, ?_⟩, rfl⟩ | refine ⟨?_, ?_, ?_, ?_, ?_, ?_, ?_, ?_, ?_, ?_, ?_, ?_⟩
      · (try simp only [K_pi])
        exact K_pT ht vk
      · (try simp only [Cn_pi_j22 hA, Cn_pT])
        exact vcn
      · (try simp only [Vq0_pi_j22 hA, Vq0_pT])
        exact v0
      · (try simp only [Vq1_pi_j22 hA, Vq1_pT])
        exact v1
      · (try simp only [Vq2_pi_j22 hA, Vq2_pT])
        exact v2
      · (try simp only [Vp_thr hA, Vp_pT])
        exact vp
      · (try simp only [Vl0_pi_j22 hA, Vl0_pT])
        exact vl0
      · (try simp only [Vl1_pi_j22 hA, Vl1_pT])
        exact vl1
      · (try simp only [Vlr_pi_j22 hA, Vlr_pT])
        exact vlr
      · (try simp only [Vsr_pi_j22 hA, Vsr_pT])
        exact vsr
      · (try simp only [Vc_pi_j22 hA, Vc_pT])
        exact vc
      · (try simp only [Tx_pi_j22 hA])
        exact Tx_pT ht tx
    · have y1 : ¬ e < 0 := fun z => be (Or.inl z)
      have y2 : e < 2 := Classical.byContradiction fun z => be (Or.inr z)
      rcases e_cases y1 y2 with rfl | rfl
      · skip
        simp only [↓ar_ite, ↓ar_ite2, ↓reduceIte, o321_0, o321_1, o321_2, o321_3, o321_4, o321_18, o321_20, o321_21, o96_0, o96_1, o96_2, o96_5, o96_6, o96_7, o96_9, o228_0, o228_1, o228_2, o228_5, o228_12, o228_13, o228_14, o228_23, o228_24, o228_28, o228_31, o228_34, o228_35, o228_44, hx_321_2, c_X8_isThrown_, c_X8_isLens, c_X5_checkChoice, c_lensOf_0, mc_pT, mi_pi, ml_pi, ml_pT, mz_pT, mcs_0, mcs_r, Kn_v, Kn_x, true_and, and_true, and_false, or_false, false_implies, forall_const, and_self, Nat.reduceLeDiff, Nat.reduceSub, Nat.reduceAdd, Nat.zero_le, Nat.le_refl, i10, i01, Sum.inl.injEq, Option.some.injEq, Value.int.injEq, exists_eq_left', Nat.reduceLT, i20, kc0, kc22, kr0_7, kz, bx0, bx9]
        (try simp only [ite_ar, implies_true, true_and, and_true, Classical.not_not])
        intro t ht
        first | refine ⟨⟨?_, ?_, ?_, ?_, ?_, ?_, ?_, ?_, ?_, ?_, ?_, ?_⟩, rfl⟩ | refine ⟨?_, ?_, ?_, ?_, ?_, ?_, ?_, ?_, ?_, ?_, ?_, ?_⟩
        · (try simp only [K_pi])
          exact K_pT ht vk
        · (try simp only [Cn_pi_j22 hA, Cn_pT])
          exact vcn
        · (try simp only [Vq0_pi_j22 hA, Vq0_pT])
          exact v0
        · (try simp only [Vq1_pi_j22 hA, Vq1_pT])
          exact v1
        · (try simp only [Vq2_pi_j22 hA, Vq2_pT])
          exact v2
        · (try simp only [Vp_thr hA, Vp_pT])
          exact vp
        · (try simp only [Vl0_pi_j22 hA, Vl0_pT])
          exact vl0
        · (try simp only [Vl1_pi_j22 hA, Vl1_pT])
          exact vl1
        · (try simp only [Vlr_pi_j22 hA, Vlr_pT])
          exact vlr
        · (try simp only [Vsr_pi_j22 hA, Vsr_pT])
          exact vsr
        · (try simp only [Vc_pi_j22 hA, Vc_pT])
          exact vc
        · (try simp only [Tx_pi_j22 hA])
          exact Tx_pT ht tx
      · skip
        simp only [↓ar_ite, ↓ar_ite2, ↓reduceIte, o321_0, o321_1, o321_2, o321_3, o321_4, o321_18, o321_20, o321_21, o96_0, o96_1, o96_2, o96_5, o96_6, o96_7, o96_9, o228_0, o228_1, o228_2, o228_5, o228_12, o228_13, o228_14, o228_23, o228_24, o228_28, o228_31, o228_34, o228_35, o228_44, hx_321_2, c_X8_isThrown_, c_X8_isLens, c_X5_checkChoice, c_lensOf_1, mc_pT, mi_pi, ml_pi, ml_pT, mz_pT, mcs_0, mcs_r, Kn_v, Kn_x, true_and, and_true, and_false, or_true, or_false, false_implies, forall_const, and_self, Nat.reduceLeDiff, Nat.reduceSub, Nat.reduceAdd, Nat.zero_le, Nat.le_refl, i10, Sum.inl.injEq, Option.some.injEq, Value.int.injEq, exists_eq_left', Nat.reduceLT, i20, kc0, kc22, kr0_8, kz, bx0, bx9]
        (try simp only [ite_ar, implies_true, true_and, and_true, Classical.not_not])
        intro t ht
        first | refine ⟨⟨?_, ?_, ?_, ?_, ?_, ?_, ?_, ?_, ?_, ?_, ?_, ?_⟩, rfl⟩ | refine ⟨?_, ?_, ?_, ?_, ?_, ?_, ?_, ?_, ?_, ?_, ?_, ?_⟩
        · (try simp only [K_pi])
          exact K_pT ht vk
        · (try simp only [Cn_pi_j22 hA, Cn_pT])
          exact vcn
        · (try simp only [Vq0_pi_j22 hA, Vq0_pT])
          exact v0
        · (try simp only [Vq1_pi_j22 hA, Vq1_pT])
          exact v1
        · (try simp only [Vq2_pi_j22 hA, Vq2_pT])
          exact v2
        · (try simp only [Vp_thr hA, Vp_pT])
          exact vp
        · (try simp only [Vl0_pi_j22 hA, Vl0_pT])
          exact vl0
        · (try simp only [Vl1_pi_j22 hA, Vl1_pT])
          exact vl1
        · (try simp only [Vlr_pi_j22 hA, Vlr_pT])
          exact vlr
        · (try simp only [Vsr_pi_j22 hA, Vsr_pT])
          exact vsr
        · (try simp only [Vc_pi_j22 hA, Vc_pT])
          exact vc
        · (try simp only [Tx_pi_j22 hA])
          exact Tx_pT ht tx
  · by_cases be : e < 0 ∨ ¬ e < 2
    · have be2 := e_bad be
      simp only [↓ar_ite, ↓ar_ite2, ↓reduceIte, o321_0, o321_1, o321_2, o321_3, o321_4, o321_14, o321_16, o321_17, o96_0, o96_1, o96_2, o228_0, o228_1, o228_2, o228_5, o228_8, o228_9, o228_13, o228_14, o228_17, o228_18, o228_20, o228_23, o228_24, o228_28, o228_31, o228_34, o228_35, o228_44, hx_321_1, c_X8_isThrown_, c_X8_isLens, c_lensOf_bad, mc_pT, mi_pi, ml_pi, ml_pT, mz_pT, mcs_0, mcs_r, Kn_v, Kn_x, true_and, and_true, not_true_eq_false, false_implies, forall_const, and_self, Nat.reduceLeDiff, Nat.reduceSub, Nat.reduceAdd, Nat.zero_le, Nat.le_refl, i10, lt_le, Sum.inl.injEq, Option.some.injEq, Value.int.injEq, exists_eq_left', Nat.reduceLT, kc0, kc22, kz, be, be2, bx0, bx9]
      (try simp only [ite_ar, implies_true, true_and, and_true, Classical.not_not])
      intro t ht
      first | refine ⟨⟨?_, ?_, ?_, ?_, ?_, ?_, ?_, ?_, ?_, ?_, ?_, ?_⟩, rfl⟩ | refine ⟨?_, ?_, ?_, ?_, ?_, ?_, ?_, ?_, ?_, ?_, ?_, ?_⟩
      · (try simp only [K_pi])
        exact K_pT ht vk
      · (try simp only [Cn_pi_j22 hA, Cn_pT])
        exact vcn
      · (try simp only [Vq0_pi_j22 hA, Vq0_pT])
        exact v0
      · (try simp only [Vq1_pi_j22 hA, Vq1_pT])
        exact v1
      · (try simp only [Vq2_pi_j22 hA, Vq2_pT])
        exact v2
      · (try simp only [Vp_thr hA, Vp_pT])
        exact vp
      · (try simp only [Vl0_pi_j22 hA, Vl0_pT])
        exact vl0
      · (try simp only [Vl1_pi_j22 hA, Vl1_pT])
        exact vl1
      · (try simp only [Vlr_pi_j22 hA, Vlr_pT])
        exact vlr
      · (try simp only [Vsr_pi_j22 hA, Vsr_pT])
        exact vsr
      · (try simp only [Vc_pi_j22 hA, Vc_pT])
        exact vc
      · (try simp only [Tx_pi_j22 hA])
        exact Tx_pT ht tx
    · have y1 : ¬ e < 0 := fun z => be (Or.inl z)
      have y2 : e < 2 := Classical.byContradiction fun z => be (Or.inr z)
      rcases e_cases y1 y2 with rfl | rfl
      · skip
        simp only [↓ar_ite, ↓ar_ite2, ↓reduceIte, o321_0, o321_1, o321_2, o321_3, o321_4, o321_18, o321_20, o321_21, o96_0, o96_1, o96_2, o96_5, o96_6, o96_7, o96_9, o228_0, o228_1, o228_2, o228_5, o228_12, o228_13, o228_14, o228_17, o228_18, o228_20, o228_23, o228_24, o228_28, o228_31, o228_34, o228_35, o228_44, hx_321_2, c_X8_isThrown_, c_X8_isLens, c_X5_checkChoice, c_lensOf_0, mc_pT, mi_pi, ml_pi, ml_pT, mz_pT, mcs_0, mcs_r, Kn_v, Kn_x, true_and, and_true, and_false, or_true, or_false, not_true_eq_false, false_implies, forall_const, and_self, Nat.reduceLeDiff, Nat.reduceSub, Nat.reduceAdd, Nat.zero_le, Nat.le_refl, i10, i01, lt_le, Sum.inl.injEq, Option.some.injEq, Value.int.injEq, exists_eq_left', Nat.reduceLT, i20, kc0, kc22, kr0_7, kz, bx0, bx9]
        (try simp only [ite_ar, implies_true, true_and, and_true, Classical.not_not])
        intro t ht
        first | refine ⟨⟨?_, ?_, ?_, ?_, ?_, ?_, ?_, ?_, ?_, ?_, ?_, ?_⟩, rfl⟩ | refine ⟨?_, ?_, ?_, ?_, ?_, ?_, ?_, ?_, ?_, ?_, ?_, ?_⟩
        · (try simp only [K_pi])
          exact K_pT ht vk
        · (try simp only [Cn_pi_j22 hA, Cn_pT])
          exact vcn
        · (try simp only [Vq0_pi_j22 hA, Vq0_pT])
          exact v0
        · (try simp only [Vq1_pi_j22 hA, Vq1_pT])
          exact v1
        · (try simp only [Vq2_pi_j22 hA, Vq2_pT])
          exact v2
        · (try simp only [Vp_thr hA, Vp_pT])
          exact vp
        · (try simp only [Vl0_pi_j22 hA, Vl0_pT])
          exact vl0
        · (try simp only [Vl1_pi_j22 hA, Vl1_pT])
          exact vl1
        · (try simp only [Vlr_pi_j22 hA, Vlr_pT])
          exact vlr
        · (try simp only [Vsr_pi_j22 hA, Vsr_pT])
          exact vsr
        · (try simp only [Vc_pi_j22 hA, Vc_pT])
          exact vc
        · (try simp only [Tx_pi_j22 hA])
          exact Tx_pT ht tx
      · skip
        simp only [↓ar_ite, ↓ar_ite2, ↓reduceIte, o321_0, o321_1, o321_2, o321_3, o321_4, o321_18, o321_20, o321_21, o96_0, o96_1, o96_2, o96_5, o96_6, o96_7, o96_9, o228_0, o228_1, o228_2, o228_5, o228_12, o228_13, o228_14, o228_17, o228_18, o228_20, o228_23, o228_24, o228_28, o228_31, o228_34, o228_35, o228_44, hx_321_2, c_X8_isThrown_, c_X8_isLens, c_X5_checkChoice, c_lensOf_1, mc_pT, mi_pi, ml_pi, ml_pT, mz_pT, mcs_0, mcs_r, Kn_v, Kn_x, true_and, and_true, and_false, or_true, not_true_eq_false, false_implies, forall_const, and_self, Nat.reduceLeDiff, Nat.reduceSub, Nat.reduceAdd, Nat.zero_le, Nat.le_refl, i10, lt_le, Sum.inl.injEq, Option.some.injEq, Value.int.injEq, exists_eq_left', Nat.reduceLT, i20, kc0, kc22, kr0_8, kz, bx0, bx9]
        (try simp only [ite_ar, implies_true, true_and, and_true, Classical.not_not])
        intro t ht
        first | refine ⟨⟨?_, ?_, ?_, ?_, ?_, ?_, ?_, ?_, ?_, ?_, ?_, ?_⟩, rfl⟩ | refine ⟨?_, ?_, ?_, ?_, ?_, ?_, ?_, ?_, ?_, ?_, ?_, ?_⟩
        · (try simp only [K_pi])
          exact K_pT ht vk
        · (try simp only [Cn_pi_j22 hA, Cn_pT])
          exact vcn
        · (try simp only [Vq0_pi_j22 hA, Vq0_pT])
          exact v0
        · (try simp only [Vq1_pi_j22 hA, Vq1_pT])
          exact v1
        · (try simp only [Vq2_pi_j22 hA, Vq2_pT])
          exact v2
        · (try simp only [Vp_thr hA, Vp_pT])
          exact vp
        · (try simp only [Vl0_pi_j22 hA, Vl0_pT])
          exact vl0
        · (try simp only [Vl1_pi_j22 hA, Vl1_pT])
          exact vl1
        · (try simp only [Vlr_pi_j22 hA, Vlr_pT])
          exact vlr
        · (try simp only [Vsr_pi_j22 hA, Vsr_pT])
          exact vsr
        · (try simp only [Vc_pi_j22 hA, Vc_pT])
          exact vc
        · (try simp only [Tx_pi_j22 hA])
          exact Tx_pT ht tx
  · by_cases be : e < 0 ∨ ¬ e < 2
    · have be2 := e_bad be
      simp only [↓ar_ite, ↓ar_ite2, ↓reduceIte, o321_0, o321_1, o321_2, o321_3, o321_4, o321_14, o321_16, o321_17, o96_0, o96_1, o96_2, o228_0, o228_1, o228_2, o228_5, o228_8, o228_9, o228_13, o228_14, o228_17, o228_18, o228_20, o228_27, o228_28, o228_31, o228_34, o228_35, o228_44, hx_321_1, c_X8_isThrown_, c_X8_isLens, c_lensOf_bad, mc_pT, mi_pi, ml_pi, ml_pT, mz_pT, mcs_0, mcs_r, Kn_v, Kn_x, true_and, and_true, not_false_eq_true, false_implies, forall_const, and_self, Nat.reduceLeDiff, Nat.reduceSub, Nat.reduceAdd, Nat.zero_le, Nat.le_refl, i10, lt_le, Sum.inl.injEq, Option.some.injEq, Value.int.injEq, exists_eq_left', Nat.reduceLT, kc0, kc22, kz, be, be2, bx0, bx9]
      (try simp only [ite_ar, implies_true, true_and, and_true, Classical.not_not])
      intro t ht
      first | refine ⟨⟨?_, ?_, ?_, ?_, ?_, ?_, ?_, ?_, ?_, ?_, ?_, ?_⟩, rfl⟩ | refine ⟨?_, ?_, ?_, ?_, ?_, ?_, ?_, ?_, ?_, ?_, ?_, ?_⟩
      · (try simp only [K_pi])
        exact K_pT ht vk
      · (try simp only [Cn_pi_j22 hA, Cn_pT])
        exact vcn
      · (try simp only [Vq0_pi_j22 hA, Vq0_pT])
        exact v0
      · (try simp only [Vq1_pi_j22 hA, Vq1_pT])
        exact v1
      · (try simp only [Vq2_pi_j22 hA, Vq2_pT])
        exact v2
      · (try simp only [Vp_thr hA, Vp_pT])
        exact vp
      · (try simp only [Vl0_pi_j22 hA, Vl0_pT])
        exact vl0
      · (try simp only [Vl1_pi_j22 hA, Vl1_pT])
        exact vl1
      · (try simp only [Vlr_pi_j22 hA, Vlr_pT])
        exact vlr
      · (try simp only [Vsr_pi_j22 hA, Vsr_pT])
        exact vsr
      · (try simp only [Vc_pi_j22 hA, Vc_pT])
        exact vc
      · (try simp only [Tx_pi_j22 hA])
        exact Tx_pT ht tx
    · have y1 : ¬ e < 0 := fun z => be (Or.inl z)
      have y2 : e < 2 := Classical.byContradiction fun z => be (Or.inr z)
      rcases e_cases y1 y2 with rfl | rfl
      · have hl2 := vl0
        obtain ⟨⟨b1, b2, b3, b4, b5, b6⟩, ln⟩ := hl2
        replace b1 := b1.symm
        replace b2 := b2.symm
        replace b3 := b3.symm
        replace b4 := b4.symm
        replace b5 := b5.symm
        replace b6 := b6.symm
        rw [b1, b2, b3, b4, b5, b6] at ln
        rcases ln.2.2.2.1 with s0 | s0
        · skip
          rcases x_cases bx0 (x_le bx9 (by decide)) with rfl | rfl | rfl | rfl | rfl | rfl | rfl | rfl | rfl
          · skip
            simp only [↓ar_ite, ↓ar_ite2, ↓ar_ok, ↓reduceIte, o321_0, o321_1, o321_2, o321_3, o321_4, o321_7, o321_8, o321_11, o321_22, o321_23, o96_0, o96_1, o96_2, o96_5, o96_6, o96_7, o96_9, o96_12, o96_13, o96_60, o96_61, o96_64, o228_0, o228_1, o228_2, o228_5, o228_12, o228_13, o228_14, o228_17, o228_18, o228_20, o228_27, o228_28, o228_31, o228_38, o228_39, o228_40, o228_41, o228_44, c_X8_isThrown_, c_X8_isLens, c_X5_checkChoice, c_lensOf_0, c_X7_rests, mc_pi, mc_pl, mc_pN, mn_pi, mn_pl, mn_pN, mi_pi, mi_pl, mi_pN, ml_pi, ml_pl, ml_pN, mr_pi, mr_pl, mt_pi, mt_pl, mz_pi, mz_pl, mz_pN, mcs_0, mcs_i, mcs_r, Kn_v, Kn_0, mrf_some, true_and, and_true, and_false, or_false, not_false_eq_true, implies_true, and_self, Nat.reduceEqDiff, Nat.reduceLeDiff, Nat.reduceSub, Nat.reduceAdd, Nat.zero_le, Nat.le_refl, i10, i01, lt_le, Int32.reduceLT, cl0, cl1, cl2, cl3, cl4, cl5, cl6, cl7, cl8, cl9, Kc_v, Sum.inl.injEq, Option.some.injEq, Value.int.injEq, exists_eq_left', Nat.reduceLT, hAe, kc0, kc15, kc22, kc29, kc37, kc39, kn29, kr0_7, kr22_7, kr29_0, kz, be0, b1, b2, b3, b4, b5, b6, s0, hta, hzt, lne, lti, vpk, Int.reduceLT, or_self, or_false, o227_0, o227_1, o227_4, o227_5, o227_6, o227_7, o227_9, o227_11, o227_12, o227_13, o227_14, o227_17, o227_18, o227_19, o227_20, o227_21, o227_24, o227_25, o227_26, o227_27, o227_28, o227_31, o227_32, o227_33, o227_34, o227_35, o227_38, o227_39, o227_40, o227_41, o227_42, o227_45, o227_46, o227_47, o227_48, o227_49, o227_52, o227_59, o227_60, o227_61, o227_62, o227_64, o227_65, o227_68, o227_75, o227_76, o227_77, o227_78, o227_80, o227_81, o227_82, o227_83, o227_85, o227_86, o227_89, o227_96, o227_97, o227_100, o227_101, o227_103, o227_105, o227_106, o227_107, cl0, cl1]
            (try simp only [ite_ar, implies_true, true_and, and_true, Classical.not_not])
            first | refine ⟨Rl_F9 ?_, rfl⟩ | refine Rl_F9 ?_ | refine ⟨Rl_Fr ?_ (show Fr (p_i (p_l h (A 39) 0 _) (A 22) 9 0) _ from (Fr_pi (Fr_pi (Fr_pi (Fr_pi (Fr_pi (Fr_pi (Fr_pi (Fr_pi (Fr_pi (Fr_pN Fr_rfl) (Nat.le_refl _)) (Nat.le_refl _)) (Nat.le_refl _)) (Nat.le_refl _)) (Nat.le_refl _)) (Nat.le_refl _)) (Nat.le_refl _)) (Nat.le_refl _)) (Nat.le_refl _))), rfl⟩ | refine Rl_Fr ?_ (show Fr (p_i (p_l h (A 39) 0 _) (A 22) 9 0) _ from (Fr_pi (Fr_pi (Fr_pi (Fr_pi (Fr_pi (Fr_pi (Fr_pi (Fr_pi (Fr_pi (Fr_pN Fr_rfl) (Nat.le_refl _)) (Nat.le_refl _)) (Nat.le_refl _)) (Nat.le_refl _)) (Nat.le_refl _)) (Nat.le_refl _)) (Nat.le_refl _)) (Nat.le_refl _)) (Nat.le_refl _)))
            first | refine ⟨⟨?_, ?_, ?_, ?_, ?_, ?_, ?_, ?_, ?_, ?_, ?_, ?_⟩, rfl⟩ | refine ⟨?_, ?_, ?_, ?_, ?_, ?_, ?_, ?_, ?_, ?_, ?_, ?_⟩
            · (try simp only [K_pi, K_pl])
              exact vk
            · (try simp only [Cn_pi_j22 hA, Cn_pl])
              exact vcn
            · (try simp only [Vq0_pi_j22 hA, Vq0_pl])
              exact v0
            · (try simp only [Vq1_pi_j22 hA, Vq1_pl])
              exact v1
            · (try simp only [Vq2_pi_j22 hA, Vq2_pl])
              exact v2
            · (try simp only [Vp_thr hA, Vp_pl])
              exact vp
            · (try simp only [Vl0_pi_j22 hA, Vl0_pl])
              exact vl0
            · (try simp only [Vl1_pi_j22 hA, Vl1_pl])
              exact vl1
            · (try simp only [Vlr_pi_j22 hA, Vlr_pl_j39 hA])
              exact vlr
            · (try simp only [Vsr_pi_j22 hA, Vsr_pl_j39 hA])
              exact vsr
            · (try simp only [Vc_pi_j22 hA, Vc_pl])
              exact vc
            · (try simp only [Tx_pi_j22 hA, Tx_pl])
              exact tx
          · skip
            simp only [↓ar_ite, ↓ar_ite2, ↓ar_ok, ↓reduceIte, o321_0, o321_1, o321_2, o321_3, o321_4, o321_7, o321_8, o321_11, o321_22, o321_23, o96_0, o96_1, o96_2, o96_5, o96_6, o96_7, o96_9, o96_12, o96_13, o96_65, o96_66, o96_69, o228_0, o228_1, o228_2, o228_5, o228_12, o228_13, o228_14, o228_17, o228_18, o228_20, o228_27, o228_28, o228_31, o228_38, o228_39, o228_40, o228_41, o228_44, c_X8_isThrown_, c_X8_isLens, c_X5_checkChoice, c_lensOf_0, c_X7_rests, mc_pi, mc_pl, mc_pN, mn_pi, mn_pl, mn_pN, mi_pi, mi_pl, mi_pN, ml_pi, ml_pl, ml_pN, mr_pi, mr_pl, mt_pi, mt_pl, mz_pi, mz_pl, mz_pN, mcs_0, mcs_i, mcs_r, Kn_v, Kn_0, mrf_some, true_and, and_true, and_false, or_false, not_false_eq_true, implies_true, and_self, Nat.reduceEqDiff, Nat.reduceLeDiff, Nat.reduceSub, Nat.reduceAdd, Nat.zero_le, Nat.le_refl, i10, i01, lt_le, Int32.reduceLT, cl0, cl1, cl2, cl3, cl4, cl5, cl6, cl7, cl8, cl9, Kc_v, Sum.inl.injEq, Option.some.injEq, Value.int.injEq, exists_eq_left', Nat.reduceLT, hAe, kc0, kc15, kc22, kc29, kc37, kc39, kn29, kr0_7, kr22_7, kr29_0, kz, be0, b1, b2, b3, b4, b5, b6, s0, hta, hzt, lne, lti, vpk, Int.reduceLT, or_self, or_false, o227_0, o227_1, o227_4, o227_5, o227_6, o227_7, o227_9, o227_11, o227_12, o227_13, o227_14, o227_17, o227_18, o227_19, o227_20, o227_21, o227_24, o227_25, o227_26, o227_27, o227_28, o227_31, o227_32, o227_33, o227_34, o227_35, o227_38, o227_39, o227_40, o227_41, o227_42, o227_45, o227_46, o227_47, o227_48, o227_49, o227_52, o227_59, o227_60, o227_61, o227_62, o227_64, o227_65, o227_68, o227_75, o227_76, o227_77, o227_78, o227_80, o227_81, o227_82, o227_83, o227_85, o227_86, o227_89, o227_96, o227_97, o227_100, o227_101, o227_103, o227_105, o227_106, o227_107, cl0, cl1]
            (try simp only [ite_ar, implies_true, true_and, and_true, Classical.not_not])
            first | refine ⟨Rl_F9 ?_, rfl⟩ | refine Rl_F9 ?_ | refine ⟨Rl_Fr ?_ (show Fr (p_i (p_l h (A 39) 0 _) (A 22) 9 0) _ from (Fr_pi (Fr_pi (Fr_pi (Fr_pi (Fr_pi (Fr_pi (Fr_pi (Fr_pi (Fr_pi (Fr_pN Fr_rfl) (Nat.le_refl _)) (Nat.le_refl _)) (Nat.le_refl _)) (Nat.le_refl _)) (Nat.le_refl _)) (Nat.le_refl _)) (Nat.le_refl _)) (Nat.le_refl _)) (Nat.le_refl _))), rfl⟩ | refine Rl_Fr ?_ (show Fr (p_i (p_l h (A 39) 0 _) (A 22) 9 0) _ from (Fr_pi (Fr_pi (Fr_pi (Fr_pi (Fr_pi (Fr_pi (Fr_pi (Fr_pi (Fr_pi (Fr_pN Fr_rfl) (Nat.le_refl _)) (Nat.le_refl _)) (Nat.le_refl _)) (Nat.le_refl _)) (Nat.le_refl _)) (Nat.le_refl _)) (Nat.le_refl _)) (Nat.le_refl _)) (Nat.le_refl _)))
            first | refine ⟨⟨?_, ?_, ?_, ?_, ?_, ?_, ?_, ?_, ?_, ?_, ?_, ?_⟩, rfl⟩ | refine ⟨?_, ?_, ?_, ?_, ?_, ?_, ?_, ?_, ?_, ?_, ?_, ?_⟩
            · (try simp only [K_pi, K_pl])
              exact vk
            · (try simp only [Cn_pi_j22 hA, Cn_pl])
              exact vcn
            · (try simp only [Vq0_pi_j22 hA, Vq0_pl])
              exact v0
            · (try simp only [Vq1_pi_j22 hA, Vq1_pl])
              exact v1
            · (try simp only [Vq2_pi_j22 hA, Vq2_pl])
              exact v2
            · (try simp only [Vp_thr hA, Vp_pl])
              exact vp
            · (try simp only [Vl0_pi_j22 hA, Vl0_pl])
              exact vl0
            · (try simp only [Vl1_pi_j22 hA, Vl1_pl])
              exact vl1
            · (try simp only [Vlr_pi_j22 hA, Vlr_pl_j39 hA])
              exact vlr
            · (try simp only [Vsr_pi_j22 hA, Vsr_pl_j39 hA])
              exact vsr
            · (try simp only [Vc_pi_j22 hA, Vc_pl])
              exact vc
            · (try simp only [Tx_pi_j22 hA, Tx_pl])
              exact tx
          · skip
            simp only [↓ar_ite, ↓ar_ite2, ↓ar_ok, ↓reduceIte, o321_0, o321_1, o321_2, o321_3, o321_4, o321_7, o321_8, o321_11, o321_22, o321_23, o96_0, o96_1, o96_2, o96_5, o96_6, o96_7, o96_9, o96_12, o96_13, o96_70, o96_71, o96_74, o228_0, o228_1, o228_2, o228_5, o228_12, o228_13, o228_14, o228_17, o228_18, o228_20, o228_27, o228_28, o228_31, o228_38, o228_39, o228_40, o228_41, o228_44, c_X8_isThrown_, c_X8_isLens, c_X5_checkChoice, c_lensOf_0, c_X7_rests, mc_pi, mc_pl, mc_pN, mn_pi, mn_pl, mn_pN, mi_pi, mi_pl, mi_pN, ml_pi, ml_pl, ml_pN, mr_pi, mr_pl, mt_pi, mt_pl, mz_pi, mz_pl, mz_pN, mcs_0, mcs_i, mcs_r, Kn_v, Kn_0, mrf_some, true_and, and_true, and_false, or_false, not_false_eq_true, implies_true, and_self, Nat.reduceEqDiff, Nat.reduceLeDiff, Nat.reduceSub, Nat.reduceAdd, Nat.zero_le, Nat.le_refl, i10, i01, lt_le, Int32.reduceLT, cl0, cl1, cl2, cl3, cl4, cl5, cl6, cl7, cl8, cl9, Kc_v, Sum.inl.injEq, Option.some.injEq, Value.int.injEq, exists_eq_left', Nat.reduceLT, hAe, i20, kc0, kc15, kc22, kc29, kc37, kc39, kn29, kr0_7, kr22_7, kr29_0, kz, be0, b1, b2, b3, b4, b5, b6, s0, hta, hzt, lne, lti, vpk, Int.reduceLT, or_self, or_false, o227_0, o227_1, o227_4, o227_5, o227_6, o227_7, o227_9, o227_11, o227_12, o227_13, o227_14, o227_17, o227_18, o227_19, o227_20, o227_21, o227_24, o227_25, o227_26, o227_27, o227_28, o227_31, o227_32, o227_33, o227_34, o227_35, o227_38, o227_39, o227_40, o227_41, o227_42, o227_45, o227_46, o227_47, o227_48, o227_49, o227_52, o227_59, o227_60, o227_61, o227_62, o227_64, o227_65, o227_68, o227_75, o227_76, o227_77, o227_78, o227_80, o227_81, o227_82, o227_83, o227_85, o227_86, o227_89, o227_96, o227_97, o227_100, o227_101, o227_103, o227_105, o227_106, o227_107, cl0, cl1]
            (try simp only [ite_ar, implies_true, true_and, and_true, Classical.not_not])
            first | refine ⟨Rl_F9 ?_, rfl⟩ | refine Rl_F9 ?_ | refine ⟨Rl_Fr ?_ (show Fr (p_i (p_l h (A 39) 0 _) (A 22) 9 0) _ from (Fr_pi (Fr_pi (Fr_pi (Fr_pi (Fr_pi (Fr_pi (Fr_pi (Fr_pi (Fr_pi (Fr_pN Fr_rfl) (Nat.le_refl _)) (Nat.le_refl _)) (Nat.le_refl _)) (Nat.le_refl _)) (Nat.le_refl _)) (Nat.le_refl _)) (Nat.le_refl _)) (Nat.le_refl _)) (Nat.le_refl _))), rfl⟩ | refine Rl_Fr ?_ (show Fr (p_i (p_l h (A 39) 0 _) (A 22) 9 0) _ from (Fr_pi (Fr_pi (Fr_pi (Fr_pi (Fr_pi (Fr_pi (Fr_pi (Fr_pi (Fr_pi (Fr_pN Fr_rfl) (Nat.le_refl _)) (Nat.le_refl _)) (Nat.le_refl _)) (Nat.le_refl _)) (Nat.le_refl _)) (Nat.le_refl _)) (Nat.le_refl _)) (Nat.le_refl _)) (Nat.le_refl _)))
            first | refine ⟨⟨?_, ?_, ?_, ?_, ?_, ?_, ?_, ?_, ?_, ?_, ?_, ?_⟩, rfl⟩ | refine ⟨?_, ?_, ?_, ?_, ?_, ?_, ?_, ?_, ?_, ?_, ?_, ?_⟩
            · (try simp only [K_pi, K_pl])
              exact vk
            · (try simp only [Cn_pi_j22 hA, Cn_pl])
              exact vcn
            · (try simp only [Vq0_pi_j22 hA, Vq0_pl])
              exact v0
            · (try simp only [Vq1_pi_j22 hA, Vq1_pl])
              exact v1
            · (try simp only [Vq2_pi_j22 hA, Vq2_pl])
              exact v2
            · (try simp only [Vp_thr hA, Vp_pl])
              exact vp
            · (try simp only [Vl0_pi_j22 hA, Vl0_pl])
              exact vl0
            · (try simp only [Vl1_pi_j22 hA, Vl1_pl])
              exact vl1
            · (try simp only [Vlr_pi_j22 hA, Vlr_pl_j39 hA])
              exact vlr
            · (try simp only [Vsr_pi_j22 hA, Vsr_pl_j39 hA])
              exact vsr
            · (try simp only [Vc_pi_j22 hA, Vc_pl])
              exact vc
            · (try simp only [Tx_pi_j22 hA, Tx_pl])
              exact tx
          · skip
            simp only [↓ar_ite, ↓ar_ite2, ↓ar_ok, ↓reduceIte, o321_0, o321_1, o321_2, o321_3, o321_4, o321_7, o321_8, o321_11, o321_22, o321_23, o96_0, o96_1, o96_2, o96_5, o96_6, o96_7, o96_9, o96_12, o96_13, o96_75, o96_76, o96_79, o228_0, o228_1, o228_2, o228_5, o228_12, o228_13, o228_14, o228_17, o228_18, o228_20, o228_27, o228_28, o228_31, o228_38, o228_39, o228_40, o228_41, o228_44, c_X8_isThrown_, c_X8_isLens, c_X5_checkChoice, c_lensOf_0, c_X3_rests, c_X7_rests, mc_pi, mc_pl, mc_pN, mn_pi, mn_pl, mn_pN, mi_pi, mi_pl, mi_pN, ml_pi, ml_pl, ml_pN, mr_pi, mr_pl, mt_pi, mt_pl, mz_pi, mz_pl, mz_pN, mcs_0, mcs_i, mcs_r, Kn_v, Kn_0, mrf_some, true_and, and_true, and_false, or_false, not_false_eq_true, implies_true, and_self, Nat.reduceEqDiff, Nat.reduceLeDiff, Nat.reduceSub, Nat.reduceAdd, Nat.zero_le, Nat.le_refl, i10, i01, lt_le, Int32.reduceLT, cl0, cl1, cl2, cl3, cl4, cl5, cl6, cl7, cl8, cl9, Kc_v, Sum.inl.injEq, Option.some.injEq, Value.int.injEq, exists_eq_left', Nat.reduceLT, hAe, i30, kc0, kc15, kc22, kc29, kc37, kc39, kn29, kr0_7, kr22_7, kr29_0, kz, be0, b1, b2, b3, b4, b5, b6, s0, hta, hzt, lne, lti, vpk, Int.reduceLT, or_self, or_false, o227_0, o227_1, o227_4, o227_5, o227_6, o227_7, o227_9, o227_11, o227_12, o227_13, o227_14, o227_17, o227_18, o227_19, o227_20, o227_21, o227_24, o227_25, o227_26, o227_27, o227_28, o227_31, o227_32, o227_33, o227_34, o227_35, o227_38, o227_39, o227_40, o227_41, o227_42, o227_45, o227_46, o227_47, o227_48, o227_49, o227_52, o227_59, o227_60, o227_61, o227_62, o227_64, o227_65, o227_68, o227_75, o227_76, o227_77, o227_78, o227_80, o227_81, o227_82, o227_83, o227_85, o227_86, o227_89, o227_96, o227_97, o227_100, o227_101, o227_103, o227_105, o227_106, o227_107, cl0, cl1]
            (try simp only [ite_ar, implies_true, true_and, and_true, Classical.not_not])
            first | refine ⟨Rl_F9 ?_, rfl⟩ | refine Rl_F9 ?_ | refine ⟨Rl_Fr ?_ (show Fr (p_i (p_l h (A 39) 0 _) (A 22) 9 0) _ from (Fr_pi (Fr_pi (Fr_pi (Fr_pi (Fr_pi (Fr_pi (Fr_pi (Fr_pi (Fr_pi (Fr_pN Fr_rfl) (Nat.le_refl _)) (Nat.le_refl _)) (Nat.le_refl _)) (Nat.le_refl _)) (Nat.le_refl _)) (Nat.le_refl _)) (Nat.le_refl _)) (Nat.le_refl _)) (Nat.le_refl _))), rfl⟩ | refine Rl_Fr ?_ (show Fr (p_i (p_l h (A 39) 0 _) (A 22) 9 0) _ from (Fr_pi (Fr_pi (Fr_pi (Fr_pi (Fr_pi (Fr_pi (Fr_pi (Fr_pi (Fr_pi (Fr_pN Fr_rfl) (Nat.le_refl _)) (Nat.le_refl _)) (Nat.le_refl _)) (Nat.le_refl _)) (Nat.le_refl _)) (Nat.le_refl _)) (Nat.le_refl _)) (Nat.le_refl _)) (Nat.le_refl _)))
            first | refine ⟨⟨?_, ?_, ?_, ?_, ?_, ?_, ?_, ?_, ?_, ?_, ?_, ?_⟩, rfl⟩ | refine ⟨?_, ?_, ?_, ?_, ?_, ?_, ?_, ?_, ?_, ?_, ?_, ?_⟩
            · (try simp only [K_pi, K_pl])
              exact vk
            · (try simp only [Cn_pi_j22 hA, Cn_pl])
              exact vcn
            · (try simp only [Vq0_pi_j22 hA, Vq0_pl])
              exact v0
            · (try simp only [Vq1_pi_j22 hA, Vq1_pl])
              exact v1
            · (try simp only [Vq2_pi_j22 hA, Vq2_pl])
              exact v2
            · (try simp only [Vp_thr hA, Vp_pl])
              exact vp
            · (try simp only [Vl0_pi_j22 hA, Vl0_pl])
              exact vl0
            · (try simp only [Vl1_pi_j22 hA, Vl1_pl])
              exact vl1
            · (try simp only [Vlr_pi_j22 hA, Vlr_pl_j39 hA])
              exact vlr
            · (try simp only [Vsr_pi_j22 hA, Vsr_pl_j39 hA])
              exact vsr
            · (try simp only [Vc_pi_j22 hA, Vc_pl])
              exact vc
            · (try simp only [Tx_pi_j22 hA, Tx_pl])
              exact tx
          · skip
            simp only [↓ar_ite, ↓ar_ite2, ↓ar_ok, ↓reduceIte, o321_0, o321_1, o321_2, o321_3, o321_4, o321_7, o321_8, o321_11, o321_22, o321_23, o96_0, o96_1, o96_2, o96_5, o96_6, o96_7, o96_9, o96_12, o96_13, o96_80, o96_81, o96_84, o228_0, o228_1, o228_2, o228_5, o228_12, o228_13, o228_14, o228_17, o228_18, o228_20, o228_27, o228_28, o228_31, o228_38, o228_39, o228_40, o228_41, o228_44, c_X8_isThrown_, c_X8_isLens, c_X5_checkChoice, c_lensOf_0, c_X7_rests, mc_pi, mc_pl, mc_pN, mn_pi, mn_pl, mn_pN, mi_pi, mi_pl, mi_pN, ml_pi, ml_pl, ml_pN, mr_pi, mr_pl, mt_pi, mt_pl, mz_pi, mz_pl, mz_pN, mcs_0, mcs_i, mcs_r, Kn_v, Kn_0, mrf_some, true_and, and_true, and_false, or_false, not_false_eq_true, implies_true, and_self, Nat.reduceEqDiff, Nat.reduceLeDiff, Nat.reduceSub, Nat.reduceAdd, Nat.zero_le, Nat.le_refl, i10, i01, lt_le, Int32.reduceLT, cl0, cl1, cl2, cl3, cl4, cl5, cl6, cl7, cl8, cl9, Kc_v, Sum.inl.injEq, Option.some.injEq, Value.int.injEq, exists_eq_left', Nat.reduceLT, hAe, kc0, kc15, kc22, kc29, kc37, kc39, kn29, kr0_7, kr22_7, kr29_0, kz, be0, b1, b2, b3, b4, b5, b6, s0, hta, hzt, lne, lti, vpk, Int.reduceLT, or_self, or_false, o227_0, o227_1, o227_4, o227_5, o227_6, o227_7, o227_9, o227_11, o227_12, o227_13, o227_14, o227_17, o227_18, o227_19, o227_20, o227_21, o227_24, o227_25, o227_26, o227_27, o227_28, o227_31, o227_32, o227_33, o227_34, o227_35, o227_38, o227_39, o227_40, o227_41, o227_42, o227_45, o227_46, o227_47, o227_48, o227_49, o227_52, o227_59, o227_60, o227_61, o227_62, o227_64, o227_65, o227_68, o227_75, o227_76, o227_77, o227_78, o227_80, o227_81, o227_82, o227_83, o227_85, o227_86, o227_89, o227_96, o227_97, o227_100, o227_101, o227_103, o227_105, o227_106, o227_107, cl0, cl1]
            (try simp only [ite_ar, implies_true, true_and, and_true, Classical.not_not])
            first | refine ⟨Rl_F9 ?_, rfl⟩ | refine Rl_F9 ?_ | refine ⟨Rl_Fr ?_ (show Fr (p_i (p_l h (A 39) 0 _) (A 22) 9 0) _ from (Fr_pi (Fr_pi (Fr_pi (Fr_pi (Fr_pi (Fr_pi (Fr_pi (Fr_pi (Fr_pi (Fr_pN Fr_rfl) (Nat.le_refl _)) (Nat.le_refl _)) (Nat.le_refl _)) (Nat.le_refl _)) (Nat.le_refl _)) (Nat.le_refl _)) (Nat.le_refl _)) (Nat.le_refl _)) (Nat.le_refl _))), rfl⟩ | refine Rl_Fr ?_ (show Fr (p_i (p_l h (A 39) 0 _) (A 22) 9 0) _ from (Fr_pi (Fr_pi (Fr_pi (Fr_pi (Fr_pi (Fr_pi (Fr_pi (Fr_pi (Fr_pi (Fr_pN Fr_rfl) (Nat.le_refl _)) (Nat.le_refl _)) (Nat.le_refl _)) (Nat.le_refl _)) (Nat.le_refl _)) (Nat.le_refl _)) (Nat.le_refl _)) (Nat.le_refl _)) (Nat.le_refl _)))
            first | refine ⟨⟨?_, ?_, ?_, ?_, ?_, ?_, ?_, ?_, ?_, ?_, ?_, ?_⟩, rfl⟩ | refine ⟨?_, ?_, ?_, ?_, ?_, ?_, ?_, ?_, ?_, ?_, ?_, ?_⟩
            · (try simp only [K_pi, K_pl])
              exact vk
            · (try simp only [Cn_pi_j22 hA, Cn_pl])
              exact vcn
            · (try simp only [Vq0_pi_j22 hA, Vq0_pl])
              exact v0
            · (try simp only [Vq1_pi_j22 hA, Vq1_pl])
              exact v1
            · (try simp only [Vq2_pi_j22 hA, Vq2_pl])
              exact v2
            · (try simp only [Vp_thr hA, Vp_pl])
              exact vp
            · (try simp only [Vl0_pi_j22 hA, Vl0_pl])
              exact vl0
            · (try simp only [Vl1_pi_j22 hA, Vl1_pl])
              exact vl1
            · (try simp only [Vlr_pi_j22 hA, Vlr_pl_j39 hA])
              exact vlr
            · (try simp only [Vsr_pi_j22 hA, Vsr_pl_j39 hA])
              exact vsr
            · (try simp only [Vc_pi_j22 hA, Vc_pl])
              exact vc
            · (try simp only [Tx_pi_j22 hA, Tx_pl])
              exact tx
          · skip
            simp only [↓ar_ite, ↓ar_ite2, ↓ar_ok, ↓reduceIte, o321_0, o321_1, o321_2, o321_3, o321_4, o321_7, o321_8, o321_11, o321_22, o321_23, o96_0, o96_1, o96_2, o96_5, o96_6, o96_7, o96_9, o96_12, o96_13, o96_85, o96_86, o96_89, o96_96, o96_97, o228_0, o228_1, o228_2, o228_5, o228_12, o228_13, o228_14, o228_17, o228_18, o228_20, o228_27, o228_28, o228_31, o228_38, o228_39, o228_40, o228_41, o228_44, c_X8_isThrown_, c_X8_isLens, c_X5_checkChoice, c_lensOf_0, c_X7_rests, mc_pi, mc_pl, mc_pN, mn_pi, mn_pl, mn_pN, mi_pi, mi_pl, mi_pN, ml_pi, ml_pl, ml_pN, mr_pi, mr_pl, mt_pi, mt_pl, mz_pi, mz_pl, mz_pN, mcs_0, mcs_i, mcs_r, Kn_v, Kn_0, mrf_some, true_and, and_true, and_false, or_false, not_false_eq_true, implies_true, and_self, Nat.reduceEqDiff, Nat.reduceLeDiff, Nat.reduceSub, Nat.reduceAdd, Nat.zero_le, Nat.le_refl, i10, i01, lt_le, Int32.reduceLT, cl0, cl1, cl2, cl3, cl4, cl5, cl6, cl7, cl8, cl9, Kc_v, Sum.inl.injEq, Option.some.injEq, Value.int.injEq, exists_eq_left', Nat.reduceLT, hAe, kc0, kc15, kc22, kc29, kc37, kc39, kn29, kr0_7, kr22_7, kr29_0, kz, be0, b1, b2, b3, b4, b5, b6, s0, hta, hzt, lne, lti, vpk, Int.reduceLT, or_self, or_false, o227_0, o227_1, o227_4, o227_5, o227_6, o227_7, o227_9, o227_11, o227_12, o227_13, o227_14, o227_17, o227_18, o227_19, o227_20, o227_21, o227_24, o227_25, o227_26, o227_27, o227_28, o227_31, o227_32, o227_33, o227_34, o227_35, o227_38, o227_39, o227_40, o227_41, o227_42, o227_45, o227_46, o227_47, o227_48, o227_49, o227_52, o227_59, o227_60, o227_61, o227_62, o227_64, o227_65, o227_68, o227_75, o227_76, o227_77, o227_78, o227_80, o227_81, o227_82, o227_83, o227_85, o227_86, o227_89, o227_96, o227_97, o227_100, o227_101, o227_103, o227_105, o227_106, o227_107, cl0, cl1]
            (try simp only [ite_ar, implies_true, true_and, and_true, Classical.not_not])
            first | refine ⟨Rl_F9 ?_, rfl⟩ | refine Rl_F9 ?_ | refine ⟨Rl_Fr ?_ (show Fr (p_i (p_l h (A 39) 0 _) (A 22) 9 0) _ from (Fr_pi (Fr_pi (Fr_pi (Fr_pi (Fr_pi (Fr_pi (Fr_pi (Fr_pi (Fr_pi (Fr_pN Fr_rfl) (Nat.le_refl _)) (Nat.le_refl _)) (Nat.le_refl _)) (Nat.le_refl _)) (Nat.le_refl _)) (Nat.le_refl _)) (Nat.le_refl _)) (Nat.le_refl _)) (Nat.le_refl _))), rfl⟩ | refine Rl_Fr ?_ (show Fr (p_i (p_l h (A 39) 0 _) (A 22) 9 0) _ from (Fr_pi (Fr_pi (Fr_pi (Fr_pi (Fr_pi (Fr_pi (Fr_pi (Fr_pi (Fr_pi (Fr_pN Fr_rfl) (Nat.le_refl _)) (Nat.le_refl _)) (Nat.le_refl _)) (Nat.le_refl _)) (Nat.le_refl _)) (Nat.le_refl _)) (Nat.le_refl _)) (Nat.le_refl _)) (Nat.le_refl _)))
            first | refine ⟨⟨?_, ?_, ?_, ?_, ?_, ?_, ?_, ?_, ?_, ?_, ?_, ?_⟩, rfl⟩ | refine ⟨?_, ?_, ?_, ?_, ?_, ?_, ?_, ?_, ?_, ?_, ?_, ?_⟩
            · (try simp only [K_pi, K_pl])
              exact vk
            · (try simp only [Cn_pi_j22 hA, Cn_pl])
              exact vcn
            · (try simp only [Vq0_pi_j22 hA, Vq0_pl])
              exact v0
            · (try simp only [Vq1_pi_j22 hA, Vq1_pl])
              exact v1
            · (try simp only [Vq2_pi_j22 hA, Vq2_pl])
              exact v2
            · (try simp only [Vp_thr hA, Vp_pl])
              exact vp
            · (try simp only [Vl0_pi_j22 hA, Vl0_pl])
              exact vl0
            · (try simp only [Vl1_pi_j22 hA, Vl1_pl])
              exact vl1
            · (try simp only [Vlr_pi_j22 hA, Vlr_pl_j39 hA])
              exact vlr
            · (try simp only [Vsr_pi_j22 hA, Vsr_pl_j39 hA])
              exact vsr
            · (try simp only [Vc_pi_j22 hA, Vc_pl])
              exact vc
            · (try simp only [Tx_pi_j22 hA, Tx_pl])
              exact tx
          · skip
            simp only [↓ar_ite, ↓ar_ite2, ↓ar_ok, ↓reduceIte, o321_0, o321_1, o321_2, o321_3, o321_4, o321_7, o321_8, o321_11, o321_22, o321_23, o96_0, o96_1, o96_2, o96_5, o96_6, o96_7, o96_9, o96_12, o96_13, o96_98, o96_99, o96_102, o96_109, o96_110, o228_0, o228_1, o228_2, o228_5, o228_12, o228_13, o228_14, o228_17, o228_18, o228_20, o228_27, o228_28, o228_31, o228_38, o228_39, o228_40, o228_41, o228_44, c_X8_isThrown_, c_X8_isLens, c_X5_checkChoice, c_lensOf_0, c_X7_rests, mc_pi, mc_pl, mc_pN, mn_pi, mn_pl, mn_pN, mi_pi, mi_pl, mi_pN, ml_pi, ml_pl, ml_pN, mr_pi, mr_pl, mt_pi, mt_pl, mz_pi, mz_pl, mz_pN, mcs_0, mcs_i, mcs_r, Kn_v, Kn_0, mrf_some, true_and, and_true, and_false, or_false, not_false_eq_true, implies_true, and_self, Nat.reduceEqDiff, Nat.reduceLeDiff, Nat.reduceSub, Nat.reduceAdd, Nat.zero_le, Nat.le_refl, i10, i01, lt_le, Int32.reduceLT, cl0, cl1, cl2, cl3, cl4, cl5, cl6, cl7, cl8, cl9, Kc_v, Sum.inl.injEq, Option.some.injEq, Value.int.injEq, exists_eq_left', Nat.reduceLT, hAe, kc0, kc15, kc22, kc29, kc37, kc39, kn29, kr0_7, kr22_7, kr29_0, kz, be0, b1, b2, b3, b4, b5, b6, s0, hta, hzt, lne, lti, vpk, Int.reduceLT, or_self, or_false, o227_0, o227_1, o227_4, o227_5, o227_6, o227_7, o227_9, o227_11, o227_12, o227_13, o227_14, o227_17, o227_18, o227_19, o227_20, o227_21, o227_24, o227_25, o227_26, o227_27, o227_28, o227_31, o227_32, o227_33, o227_34, o227_35, o227_38, o227_39, o227_40, o227_41, o227_42, o227_45, o227_46, o227_47, o227_48, o227_49, o227_52, o227_59, o227_60, o227_61, o227_62, o227_64, o227_65, o227_68, o227_75, o227_76, o227_77, o227_78, o227_80, o227_81, o227_82, o227_83, o227_85, o227_86, o227_89, o227_96, o227_97, o227_100, o227_101, o227_103, o227_105, o227_106, o227_107, cl0, cl1]
            (try simp only [ite_ar, implies_true, true_and, and_true, Classical.not_not])
            first | refine ⟨Rl_F9 ?_, rfl⟩ | refine Rl_F9 ?_ | refine ⟨Rl_Fr ?_ (show Fr (p_i (p_l h (A 39) 0 _) (A 22) 9 0) _ from (Fr_pi (Fr_pi (Fr_pi (Fr_pi (Fr_pi (Fr_pi (Fr_pi (Fr_pi (Fr_pi (Fr_pN Fr_rfl) (Nat.le_refl _)) (Nat.le_refl _)) (Nat.le_refl _)) (Nat.le_refl _)) (Nat.le_refl _)) (Nat.le_refl _)) (Nat.le_refl _)) (Nat.le_refl _)) (Nat.le_refl _))), rfl⟩ | refine Rl_Fr ?_ (show Fr (p_i (p_l h (A 39) 0 _) (A 22) 9 0) _ from (Fr_pi (Fr_pi (Fr_pi (Fr_pi (Fr_pi (Fr_pi (Fr_pi (Fr_pi (Fr_pi (Fr_pN Fr_rfl) (Nat.le_refl _)) (Nat.le_refl _)) (Nat.le_refl _)) (Nat.le_refl _)) (Nat.le_refl _)) (Nat.le_refl _)) (Nat.le_refl _)) (Nat.le_refl _)) (Nat.le_refl _)))
            first | refine ⟨⟨?_, ?_, ?_, ?_, ?_, ?_, ?_, ?_, ?_, ?_, ?_, ?_⟩, rfl⟩ | refine ⟨?_, ?_, ?_, ?_, ?_, ?_, ?_, ?_, ?_, ?_, ?_, ?_⟩
            · (try simp only [K_pi, K_pl])
              exact vk
            · (try simp only [Cn_pi_j22 hA, Cn_pl])
              exact vcn
            · (try simp only [Vq0_pi_j22 hA, Vq0_pl])
              exact v0
            · (try simp only [Vq1_pi_j22 hA, Vq1_pl])
              exact v1
            · (try simp only [Vq2_pi_j22 hA, Vq2_pl])
              exact v2
            · (try simp only [Vp_thr hA, Vp_pl])
              exact vp
            · (try simp only [Vl0_pi_j22 hA, Vl0_pl])
              exact vl0
            · (try simp only [Vl1_pi_j22 hA, Vl1_pl])
              exact vl1
            · (try simp only [Vlr_pi_j22 hA, Vlr_pl_j39 hA])
              exact vlr
            · (try simp only [Vsr_pi_j22 hA, Vsr_pl_j39 hA])
              exact vsr
            · (try simp only [Vc_pi_j22 hA, Vc_pl])
              exact vc
            · (try simp only [Tx_pi_j22 hA, Tx_pl])
              exact tx
          · skip
            simp only [↓ar_ite, ↓ar_ite2, ↓ar_ok, ↓reduceIte, o321_0, o321_1, o321_2, o321_3, o321_4, o321_7, o321_8, o321_11, o321_22, o321_23, o96_0, o96_1, o96_2, o96_5, o96_6, o96_7, o96_9, o96_12, o96_13, o96_111, o96_112, o228_0, o228_1, o228_2, o228_5, o228_12, o228_13, o228_14, o228_17, o228_18, o228_20, o228_27, o228_28, o228_31, o228_38, o228_39, o228_40, o228_41, o228_44, c_X8_isThrown_, c_X8_isLens, c_X5_checkChoice, c_lensOf_0, c_X7_rests, mc_pi, mc_pl, mc_pN, mn_pi, mn_pl, mn_pN, mi_pi, mi_pl, mi_pN, ml_pi, ml_pl, ml_pN, mr_pi, mr_pl, mt_pi, mt_pl, mz_pi, mz_pl, mz_pN, mcs_0, mcs_i, mcs_r, Kn_v, Kn_0, mrf_some, true_and, and_true, and_false, or_false, not_false_eq_true, implies_true, and_self, Nat.reduceEqDiff, Nat.reduceLeDiff, Nat.reduceSub, Nat.reduceAdd, Nat.zero_le, Nat.le_refl, i10, i01, lt_le, Int32.reduceLT, cl0, cl1, cl2, cl3, cl4, cl5, cl6, cl7, cl8, cl9, Kc_v, Sum.inl.injEq, Option.some.injEq, Value.int.injEq, exists_eq_left', Nat.reduceLT, hAe, kc0, kc22, kc29, kc37, kc39, kn29, kr0_7, kr22_7, kr29_0, kz, be0, b1, b2, b3, b4, b5, b6, s0, hta, hzt, lne, lti, vpk, Int.reduceLT, or_self, or_false, o227_0, o227_1, o227_4, o227_5, o227_6, o227_7, o227_9, o227_11, o227_12, o227_13, o227_14, o227_17, o227_18, o227_19, o227_20, o227_21, o227_24, o227_25, o227_26, o227_27, o227_28, o227_31, o227_32, o227_33, o227_34, o227_35, o227_38, o227_39, o227_40, o227_41, o227_42, o227_45, o227_46, o227_47, o227_48, o227_49, o227_52, o227_59, o227_60, o227_61, o227_62, o227_64, o227_65, o227_68, o227_75, o227_76, o227_77, o227_78, o227_80, o227_81, o227_82, o227_83, o227_85, o227_86, o227_89, o227_96, o227_97, o227_100, o227_101, o227_103, o227_105, o227_106, o227_107, cl0, cl1]
            (try simp only [ite_ar, implies_true, true_and, and_true, Classical.not_not])
            first | refine ⟨Rl_F9 ?_, rfl⟩ | refine Rl_F9 ?_ | refine ⟨Rl_Fr ?_ (show Fr (p_i (p_l h (A 39) 0 _) (A 22) 9 0) _ from (Fr_pi (Fr_pi (Fr_pi (Fr_pi (Fr_pi (Fr_pi (Fr_pi (Fr_pi (Fr_pi (Fr_pN Fr_rfl) (Nat.le_refl _)) (Nat.le_refl _)) (Nat.le_refl _)) (Nat.le_refl _)) (Nat.le_refl _)) (Nat.le_refl _)) (Nat.le_refl _)) (Nat.le_refl _)) (Nat.le_refl _))), rfl⟩ | refine Rl_Fr ?_ (show Fr (p_i (p_l h (A 39) 0 _) (A 22) 9 0) _ from (Fr_pi (Fr_pi (Fr_pi (Fr_pi (Fr_pi (Fr_pi (Fr_pi (Fr_pi (Fr_pi (Fr_pN Fr_rfl) (Nat.le_refl _)) (Nat.le_refl _)) (Nat.le_refl _)) (Nat.le_refl _)) (Nat.le_refl _)) (Nat.le_refl _)) (Nat.le_refl _)) (Nat.le_refl _)) (Nat.le_refl _)))
            first | refine ⟨⟨?_, ?_, ?_, ?_, ?_, ?_, ?_, ?_, ?_, ?_, ?_, ?_⟩, rfl⟩ | refine ⟨?_, ?_, ?_, ?_, ?_, ?_, ?_, ?_, ?_, ?_, ?_, ?_⟩
            · (try simp only [K_pi, K_pl])
              exact vk
            · (try simp only [Cn_pi_j22 hA, Cn_pl])
              exact vcn
            · (try simp only [Vq0_pi_j22 hA, Vq0_pl])
              exact v0
            · (try simp only [Vq1_pi_j22 hA, Vq1_pl])
              exact v1
            · (try simp only [Vq2_pi_j22 hA, Vq2_pl])
              exact v2
            · (try simp only [Vp_thr hA, Vp_pl])
              exact vp
            · (try simp only [Vl0_pi_j22 hA, Vl0_pl])
              exact vl0
            · (try simp only [Vl1_pi_j22 hA, Vl1_pl])
              exact vl1
            · (try simp only [Vlr_pi_j22 hA, Vlr_pl_j39 hA])
              exact vlr
            · (try simp only [Vsr_pi_j22 hA, Vsr_pl_j39 hA])
              exact vsr
            · (try simp only [Vc_pi_j22 hA, Vc_pl])
              exact vc
            · (try simp only [Tx_pi_j22 hA, Tx_pl])
              exact tx
          · skip
            simp only [↓ar_ite, ↓ar_ite2, ↓ar_ok, ↓reduceIte, o321_0, o321_1, o321_2, o321_3, o321_4, o321_7, o321_8, o321_11, o321_22, o321_23, o96_0, o96_1, o96_2, o96_5, o96_6, o96_7, o96_9, o96_12, o96_13, o96_113, o96_114, o96_117, o96_124, o96_125, o96_128, o228_0, o228_1, o228_2, o228_5, o228_12, o228_13, o228_14, o228_17, o228_18, o228_20, o228_27, o228_28, o228_31, o228_38, o228_39, o228_40, o228_41, o228_44, c_X8_isThrown_, c_X8_isLens, c_X5_checkChoice, c_lensOf_0, c_X7_rests, mc_pi, mc_pl, mc_pN, mn_pi, mn_pl, mn_pN, mi_pi, mi_pl, mi_pN, ml_pi, ml_pl, ml_pN, mr_pi, mr_pl, mt_pi, mt_pl, mz_pi, mz_pl, mz_pN, mcs_0, mcs_i, mcs_r, Kn_v, Kn_0, mrf_some, true_and, and_true, or_true, or_false, not_false_eq_true, implies_true, and_self, Nat.reduceEqDiff, Nat.reduceLeDiff, Nat.reduceSub, Nat.reduceAdd, Nat.zero_le, Nat.le_refl, i10, i01, lt_le, Int32.reduceLT, cl0, cl1, cl2, cl3, cl4, cl5, cl6, cl7, cl8, cl9, Kc_v, Sum.inl.injEq, Option.some.injEq, Value.int.injEq, exists_eq_left', Nat.reduceLT, hAe, kc0, kc15, kc22, kc29, kc37, kc39, kn29, kr0_7, kr22_7, kr29_0, kz, be0, b1, b2, b3, b4, b5, b6, s0, hta, hzt, lne, lti, vpk, Int.reduceLT, or_self, or_false, o227_0, o227_1, o227_4, o227_5, o227_6, o227_7, o227_9, o227_11, o227_12, o227_13, o227_14, o227_17, o227_18, o227_19, o227_20, o227_21, o227_24, o227_25, o227_26, o227_27, o227_28, o227_31, o227_32, o227_33, o227_34, o227_35, o227_38, o227_39, o227_40, o227_41, o227_42, o227_45, o227_46, o227_47, o227_48, o227_49, o227_52, o227_59, o227_60, o227_61, o227_62, o227_64, o227_65, o227_68, o227_75, o227_76, o227_77, o227_78, o227_80, o227_81, o227_82, o227_83, o227_85, o227_86, o227_89, o227_96, o227_97, o227_100, o227_101, o227_103, o227_105, o227_106, o227_107, cl0, cl1]
            (try simp only [ite_ar, implies_true, true_and, and_true, Classical.not_not])
            first | refine ⟨Rl_F9 ?_, rfl⟩ | refine Rl_F9 ?_ | refine ⟨Rl_Fr ?_ (show Fr (p_i (p_l h (A 39) 0 _) (A 22) 9 0) _ from (Fr_pi (Fr_pi (Fr_pi (Fr_pi (Fr_pi (Fr_pi (Fr_pi (Fr_pi (Fr_pi (Fr_pN Fr_rfl) (Nat.le_refl _)) (Nat.le_refl _)) (Nat.le_refl _)) (Nat.le_refl _)) (Nat.le_refl _)) (Nat.le_refl _)) (Nat.le_refl _)) (Nat.le_refl _)) (Nat.le_refl _))), rfl⟩ | refine Rl_Fr ?_ (show Fr (p_i (p_l h (A 39) 0 _) (A 22) 9 0) _ from (Fr_pi (Fr_pi (Fr_pi (Fr_pi (Fr_pi (Fr_pi (Fr_pi (Fr_pi (Fr_pi (Fr_pN Fr_rfl) (Nat.le_refl _)) (Nat.le_refl _)) (Nat.le_refl _)) (Nat.le_refl _)) (Nat.le_refl _)) (Nat.le_refl _)) (Nat.le_refl _)) (Nat.le_refl _)) (Nat.le_refl _)))
            first | refine ⟨⟨?_, ?_, ?_, ?_, ?_, ?_, ?_, ?_, ?_, ?_, ?_, ?_⟩, rfl⟩ | refine ⟨?_, ?_, ?_, ?_, ?_, ?_, ?_, ?_, ?_, ?_, ?_, ?_⟩
            · (try simp only [K_pi, K_pl])
              exact vk
            · (try simp only [Cn_pi_j22 hA, Cn_pl])
              exact vcn
            · (try simp only [Vq0_pi_j22 hA, Vq0_pl])
              exact v0
            · (try simp only [Vq1_pi_j22 hA, Vq1_pl])
              exact v1
            · (try simp only [Vq2_pi_j22 hA, Vq2_pl])
              exact v2
            · (try simp only [Vp_thr hA, Vp_pl])
              exact vp
            · (try simp only [Vl0_pi_j22 hA, Vl0_pl])
              exact vl0
            · (try simp only [Vl1_pi_j22 hA, Vl1_pl])
              exact vl1
            · (try simp only [Vlr_pi_j22 hA, Vlr_pl_j39 hA])
              exact vlr
            · (try simp only [Vsr_pi_j22 hA, Vsr_pl_j39 hA])
              exact vsr
            · (try simp only [Vc_pi_j22 hA, Vc_pl])
              exact vc
            · (try simp only [Tx_pi_j22 hA, Tx_pl])
              exact tx
        · skip
          rcases x_cases bx0 (x_le bx9 (by decide)) with rfl | rfl | rfl | rfl | rfl | rfl | rfl | rfl | rfl
          · skip
            simp only [↓ar_ite, ↓ar_ite2, ↓ar_ok, ↓reduceIte, o321_0, o321_1, o321_2, o321_3, o321_4, o321_7, o321_8, o321_11, o321_22, o321_23, o96_0, o96_1, o96_2, o96_5, o96_6, o96_7, o96_9, o96_12, o96_13, o96_60, o96_61, o96_64, o228_0, o228_1, o228_2, o228_5, o228_12, o228_13, o228_14, o228_17, o228_18, o228_20, o228_27, o228_28, o228_31, o228_38, o228_39, o228_40, o228_41, o228_44, c_X8_isThrown_, c_X8_isLens, c_X5_checkChoice, c_lensOf_0, c_X7_rests, mc_pi, mc_pl, mc_pN, mn_pi, mn_pl, mn_pN, mi_pi, mi_pl, mi_pN, ml_pi, ml_pl, ml_pN, mr_pi, mr_pl, mt_pi, mt_pl, mz_pi, mz_pl, mz_pN, mcs_0, mcs_i, mcs_r, Kn_v, Kn_0, mrf_some, true_and, and_true, and_false, or_false, not_false_eq_true, implies_true, and_self, Nat.reduceEqDiff, Nat.reduceLeDiff, Nat.reduceSub, Nat.reduceAdd, Nat.zero_le, Nat.le_refl, i10, i01, lt_le, Int32.reduceLT, cl0, cl1, cl2, cl3, cl4, cl5, cl6, cl7, cl8, cl9, Kc_v, Sum.inl.injEq, Option.some.injEq, Value.int.injEq, exists_eq_left', Nat.reduceLT, hAe, kc0, kc15, kc22, kc29, kc37, kc39, kn29, kr0_7, kr22_7, kr29_0, kz, be0, b2, b3, b4, b5, b6, s0, hta, hzt, lne, lti, vpk, Int.reduceLT, or_self, or_false, o227_0, o227_1, o227_4, o227_5, o227_6, o227_7, o227_9, o227_11, o227_12, o227_13, o227_14, o227_17, o227_18, o227_19, o227_20, o227_21, o227_24, o227_25, o227_26, o227_27, o227_28, o227_31, o227_32, o227_33, o227_34, o227_35, o227_38, o227_39, o227_40, o227_41, o227_42, o227_45, o227_46, o227_47, o227_48, o227_49, o227_52, o227_55, o227_56, o227_60, o227_61, o227_62, o227_64, o227_65, o227_68, o227_71, o227_72, o227_76, o227_77, o227_78, o227_80, o227_81, o227_82, o227_83, o227_85, o227_86, o227_89, o227_92, o227_93, o227_100, o227_101, o227_103, o227_105, o227_106, o227_107, cl0, cl1]
            (try simp only [ite_ar, implies_true, true_and, and_true, Classical.not_not])
            first | refine ⟨Rl_F9 ?_, rfl⟩ | refine Rl_F9 ?_ | refine ⟨Rl_Fr ?_ (show Fr (p_i (p_l h (A 39) 0 _) (A 22) 9 0) _ from (Fr_pi (Fr_pi (Fr_pi (Fr_pi (Fr_pi (Fr_pi (Fr_pi (Fr_pi (Fr_pi (Fr_pN Fr_rfl) (Nat.le_refl _)) (Nat.le_refl _)) (Nat.le_refl _)) (Nat.le_refl _)) (Nat.le_refl _)) (Nat.le_refl _)) (Nat.le_refl _)) (Nat.le_refl _)) (Nat.le_refl _))), rfl⟩ | refine Rl_Fr ?_ (show Fr (p_i (p_l h (A 39) 0 _) (A 22) 9 0) _ from (Fr_pi (Fr_pi (Fr_pi (Fr_pi (Fr_pi (Fr_pi (Fr_pi (Fr_pi (Fr_pi (Fr_pN Fr_rfl) (Nat.le_refl _)) (Nat.le_refl _)) (Nat.le_refl _)) (Nat.le_refl _)) (Nat.le_refl _)) (Nat.le_refl _)) (Nat.le_refl _)) (Nat.le_refl _)) (Nat.le_refl _)))
            first | refine ⟨⟨?_, ?_, ?_, ?_, ?_, ?_, ?_, ?_, ?_, ?_, ?_, ?_⟩, rfl⟩ | refine ⟨?_, ?_, ?_, ?_, ?_, ?_, ?_, ?_, ?_, ?_, ?_, ?_⟩
            · (try simp only [K_pi, K_pl])
              exact vk
            · (try simp only [Cn_pi_j22 hA, Cn_pl])
              exact vcn
            · (try simp only [Vq0_pi_j22 hA, Vq0_pl])
              exact v0
            · (try simp only [Vq1_pi_j22 hA, Vq1_pl])
              exact v1
            · (try simp only [Vq2_pi_j22 hA, Vq2_pl])
              exact v2
            · (try simp only [Vp_thr hA, Vp_pl])
              exact vp
            · (try simp only [Vl0_pi_j22 hA, Vl0_pl])
              exact vl0
            · (try simp only [Vl1_pi_j22 hA, Vl1_pl])
              exact vl1
            · (try simp only [Vlr_pi_j22 hA, Vlr_pl_j39 hA])
              exact vlr
            · (try simp only [Vsr_pi_j22 hA, Vsr_pl_j39 hA])
              exact vsr
            · (try simp only [Vc_pi_j22 hA, Vc_pl])
              exact vc
            · (try simp only [Tx_pi_j22 hA, Tx_pl])
              exact tx
          · skip
            simp only [↓ar_ite, ↓ar_ite2, ↓ar_ok, ↓reduceIte, o321_0, o321_1, o321_2, o321_3, o321_4, o321_7, o321_8, o321_11, o321_22, o321_23, o96_0, o96_1, o96_2, o96_5, o96_6, o96_7, o96_9, o96_12, o96_13, o96_65, o96_66, o96_69, o228_0, o228_1, o228_2, o228_5, o228_12, o228_13, o228_14, o228_17, o228_18, o228_20, o228_27, o228_28, o228_31, o228_38, o228_39, o228_40, o228_41, o228_44, c_X8_isThrown_, c_X8_isLens, c_X5_checkChoice, c_lensOf_0, c_X7_rests, mc_pi, mc_pl, mc_pN, mn_pi, mn_pl, mn_pN, mi_pi, mi_pl, mi_pN, ml_pi, ml_pl, ml_pN, mr_pi, mr_pl, mt_pi, mt_pl, mz_pi, mz_pl, mz_pN, mcs_0, mcs_i, mcs_r, Kn_v, Kn_0, mrf_some, true_and, and_true, and_false, or_false, not_false_eq_true, implies_true, and_self, Nat.reduceEqDiff, Nat.reduceLeDiff, Nat.reduceSub, Nat.reduceAdd, Nat.zero_le, Nat.le_refl, i10, i01, lt_le, Int32.reduceLT, cl0, cl1, cl2, cl3, cl4, cl5, cl6, cl7, cl8, cl9, Kc_v, Sum.inl.injEq, Option.some.injEq, Value.int.injEq, exists_eq_left', Nat.reduceLT, hAe, kc0, kc15, kc22, kc29, kc37, kc39, kn29, kr0_7, kr22_7, kr29_0, kz, be0, b2, b3, b4, b5, b6, s0, hta, hzt, lne, lti, vpk, Int.reduceLT, or_self, or_false, o227_0, o227_1, o227_4, o227_5, o227_6, o227_7, o227_9, o227_11, o227_12, o227_13, o227_14, o227_17, o227_18, o227_19, o227_20, o227_21, o227_24, o227_25, o227_26, o227_27, o227_28, o227_31, o227_32, o227_33, o227_34, o227_35, o227_38, o227_39, o227_40, o227_41, o227_42, o227_45, o227_46, o227_47, o227_48, o227_49, o227_52, o227_55, o227_56, o227_60, o227_61, o227_62, o227_64, o227_65, o227_68, o227_71, o227_72, o227_76, o227_77, o227_78, o227_80, o227_81, o227_82, o227_83, o227_85, o227_86, o227_89, o227_92, o227_93, o227_100, o227_101, o227_103, o227_105, o227_106, o227_107, cl0, cl1]
            (try simp only [ite_ar, implies_true, true_and, and_true, Classical.not_not])
            first | refine ⟨Rl_F9 ?_, rfl⟩ | refine Rl_F9 ?_ | refine ⟨Rl_Fr ?_ (show Fr (p_i (p_l h (A 39) 0 _) (A 22) 9 0) _ from (Fr_pi (Fr_pi (Fr_pi (Fr_pi (Fr_pi (Fr_pi (Fr_pi (Fr_pi (Fr_pi (Fr_pN Fr_rfl) (Nat.le_refl _)) (Nat.le_refl _)) (Nat.le_refl _)) (Nat.le_refl _)) (Nat.le_refl _)) (Nat.le_refl _)) (Nat.le_refl _)) (Nat.le_refl _)) (Nat.le_refl _))), rfl⟩ | refine Rl_Fr ?_ (show Fr (p_i (p_l h (A 39) 0 _) (A 22) 9 0) _ from (Fr_pi (Fr_pi (Fr_pi (Fr_pi (Fr_pi (Fr_pi (Fr_pi (Fr_pi (Fr_pi (Fr_pN Fr_rfl) (Nat.le_refl _)) (Nat.le_refl _)) (Nat.le_refl _)) (Nat.le_refl _)) (Nat.le_refl _)) (Nat.le_refl _)) (Nat.le_refl _)) (Nat.le_refl _)) (Nat.le_refl _)))
            first | refine ⟨⟨?_, ?_, ?_, ?_, ?_, ?_, ?_, ?_, ?_, ?_, ?_, ?_⟩, rfl⟩ | refine ⟨?_, ?_, ?_, ?_, ?_, ?_, ?_, ?_, ?_, ?_, ?_, ?_⟩
            · (try simp only [K_pi, K_pl])
              exact vk
            · (try simp only [Cn_pi_j22 hA, Cn_pl])
              exact vcn
            · (try simp only [Vq0_pi_j22 hA, Vq0_pl])
              exact v0
            · (try simp only [Vq1_pi_j22 hA, Vq1_pl])
              exact v1
            · (try simp only [Vq2_pi_j22 hA, Vq2_pl])
              exact v2
            · (try simp only [Vp_thr hA, Vp_pl])
              exact vp
            · (try simp only [Vl0_pi_j22 hA, Vl0_pl])
              exact vl0
            · (try simp only [Vl1_pi_j22 hA, Vl1_pl])
              exact vl1
            · (try simp only [Vlr_pi_j22 hA, Vlr_pl_j39 hA])
              exact vlr
            · (try simp only [Vsr_pi_j22 hA, Vsr_pl_j39 hA])
              exact vsr
            · (try simp only [Vc_pi_j22 hA, Vc_pl])
              exact vc
            · (try simp only [Tx_pi_j22 hA, Tx_pl])
              exact tx
          · skip
            simp only [↓ar_ite, ↓ar_ite2, ↓ar_ok, ↓reduceIte, o321_0, o321_1, o321_2, o321_3, o321_4, o321_7, o321_8, o321_11, o321_22, o321_23, o96_0, o96_1, o96_2, o96_5, o96_6, o96_7, o96_9, o96_12, o96_13, o96_70, o96_71, o96_74, o228_0, o228_1, o228_2, o228_5, o228_12, o228_13, o228_14, o228_17, o228_18, o228_20, o228_27, o228_28, o228_31, o228_38, o228_39, o228_40, o228_41, o228_44, c_X8_isThrown_, c_X8_isLens, c_X5_checkChoice, c_lensOf_0, c_X7_rests, mc_pi, mc_pl, mc_pN, mn_pi, mn_pl, mn_pN, mi_pi, mi_pl, mi_pN, ml_pi, ml_pl, ml_pN, mr_pi, mr_pl, mt_pi, mt_pl, mz_pi, mz_pl, mz_pN, mcs_0, mcs_i, mcs_r, Kn_v, Kn_0, mrf_some, true_and, and_true, and_false, or_false, not_false_eq_true, implies_true, and_self, Nat.reduceEqDiff, Nat.reduceLeDiff, Nat.reduceSub, Nat.reduceAdd, Nat.zero_le, Nat.le_refl, i10, i01, lt_le, Int32.reduceLT, cl0, cl1, cl2, cl3, cl4, cl5, cl6, cl7, cl8, cl9, Kc_v, Sum.inl.injEq, Option.some.injEq, Value.int.injEq, exists_eq_left', Nat.reduceLT, hAe, i20, kc0, kc15, kc22, kc29, kc37, kc39, kn29, kr0_7, kr22_7, kr29_0, kz, be0, b2, b3, b4, b5, b6, s0, hta, hzt, lne, lti, vpk, Int.reduceLT, or_self, or_false, o227_0, o227_1, o227_4, o227_5, o227_6, o227_7, o227_9, o227_11, o227_12, o227_13, o227_14, o227_17, o227_18, o227_19, o227_20, o227_21, o227_24, o227_25, o227_26, o227_27, o227_28, o227_31, o227_32, o227_33, o227_34, o227_35, o227_38, o227_39, o227_40, o227_41, o227_42, o227_45, o227_46, o227_47, o227_48, o227_49, o227_52, o227_55, o227_56, o227_60, o227_61, o227_62, o227_64, o227_65, o227_68, o227_71, o227_72, o227_76, o227_77, o227_78, o227_80, o227_81, o227_82, o227_83, o227_85, o227_86, o227_89, o227_92, o227_93, o227_100, o227_101, o227_103, o227_105, o227_106, o227_107, cl0, cl1]
            (try simp only [ite_ar, implies_true, true_and, and_true, Classical.not_not])
            first | refine ⟨Rl_F9 ?_, rfl⟩ | refine Rl_F9 ?_ | refine ⟨Rl_Fr ?_ (show Fr (p_i (p_l h (A 39) 0 _) (A 22) 9 0) _ from (Fr_pi (Fr_pi (Fr_pi (Fr_pi (Fr_pi (Fr_pi (Fr_pi (Fr_pi (Fr_pi (Fr_pN Fr_rfl) (Nat.le_refl _)) (Nat.le_refl _)) (Nat.le_refl _)) (Nat.le_refl _)) (Nat.le_refl _)) (Nat.le_refl _)) (Nat.le_refl _)) (Nat.le_refl _)) (Nat.le_refl _))), rfl⟩ | refine Rl_Fr ?_ (show Fr (p_i (p_l h (A 39) 0 _) (A 22) 9 0) _ from (Fr_pi (Fr_pi (Fr_pi (Fr_pi (Fr_pi (Fr_pi (Fr_pi (Fr_pi (Fr_pi (Fr_pN Fr_rfl) (Nat.le_refl _)) (Nat.le_refl _)) (Nat.le_refl _)) (Nat.le_refl _)) (Nat.le_refl _)) (Nat.le_refl _)) (Nat.le_refl _)) (Nat.le_refl _)) (Nat.le_refl _)))
            first | refine ⟨⟨?_, ?_, ?_, ?_, ?_, ?_, ?_, ?_, ?_, ?_, ?_, ?_⟩, rfl⟩ | refine ⟨?_, ?_, ?_, ?_, ?_, ?_, ?_, ?_, ?_, ?_, ?_, ?_⟩
            · (try simp only [K_pi, K_pl])
              exact vk
            · (try simp only [Cn_pi_j22 hA, Cn_pl])
              exact vcn
            · (try simp only [Vq0_pi_j22 hA, Vq0_pl])
              exact v0
            · (try simp only [Vq1_pi_j22 hA, Vq1_pl])
              exact v1
            · (try simp only [Vq2_pi_j22 hA, Vq2_pl])
              exact v2
            · (try simp only [Vp_thr hA, Vp_pl])
              exact vp
            · (try simp only [Vl0_pi_j22 hA, Vl0_pl])
              exact vl0
            · (try simp only [Vl1_pi_j22 hA, Vl1_pl])
              exact vl1
            · (try simp only [Vlr_pi_j22 hA, Vlr_pl_j39 hA])
              exact vlr
            · (try simp only [Vsr_pi_j22 hA, Vsr_pl_j39 hA])
              exact vsr
            · (try simp only [Vc_pi_j22 hA, Vc_pl])
              exact vc
            · (try simp only [Tx_pi_j22 hA, Tx_pl])
              exact tx
          · skip
            simp only [↓ar_ite, ↓ar_ite2, ↓ar_ok, ↓reduceIte, o321_0, o321_1, o321_2, o321_3, o321_4, o321_7, o321_8, o321_11, o321_22, o321_23, o96_0, o96_1, o96_2, o96_5, o96_6, o96_7, o96_9, o96_12, o96_13, o96_75, o96_76, o96_79, o228_0, o228_1, o228_2, o228_5, o228_12, o228_13, o228_14, o228_17, o228_18, o228_20, o228_27, o228_28, o228_31, o228_38, o228_39, o228_40, o228_41, o228_44, c_X8_isThrown_, c_X8_isLens, c_X5_checkChoice, c_lensOf_0, c_X3_rests, c_X7_rests, mc_pi, mc_pl, mc_pN, mn_pi, mn_pl, mn_pN, mi_pi, mi_pl, mi_pN, ml_pi, ml_pl, ml_pN, mr_pi, mr_pl, mt_pi, mt_pl, mz_pi, mz_pl, mz_pN, mcs_0, mcs_i, mcs_r, Kn_v, Kn_0, mrf_some, true_and, and_true, and_false, or_false, not_false_eq_true, implies_true, and_self, Nat.reduceEqDiff, Nat.reduceLeDiff, Nat.reduceSub, Nat.reduceAdd, Nat.zero_le, Nat.le_refl, i10, i01, lt_le, Int32.reduceLT, cl0, cl1, cl2, cl3, cl4, cl5, cl6, cl7, cl8, cl9, Kc_v, Sum.inl.injEq, Option.some.injEq, Value.int.injEq, exists_eq_left', Nat.reduceLT, hAe, i30, kc0, kc15, kc22, kc29, kc37, kc39, kn29, kr0_7, kr22_7, kr29_0, kz, be0, b2, b3, b4, b5, b6, s0, hta, hzt, lne, lti, vpk, Int.reduceLT, or_self, or_false, o227_0, o227_1, o227_4, o227_5, o227_6, o227_7, o227_9, o227_11, o227_12, o227_13, o227_14, o227_17, o227_18, o227_19, o227_20, o227_21, o227_24, o227_25, o227_26, o227_27, o227_28, o227_31, o227_32, o227_33, o227_34, o227_35, o227_38, o227_39, o227_40, o227_41, o227_42, o227_45, o227_46, o227_47, o227_48, o227_49, o227_52, o227_55, o227_56, o227_60, o227_61, o227_62, o227_64, o227_65, o227_68, o227_71, o227_72, o227_76, o227_77, o227_78, o227_80, o227_81, o227_82, o227_83, o227_85, o227_86, o227_89, o227_92, o227_93, o227_100, o227_101, o227_103, o227_105, o227_106, o227_107, cl0, cl1]
            (try simp only [ite_ar, implies_true, true_and, and_true, Classical.not_not])
            first | refine ⟨Rl_F9 ?_, rfl⟩ | refine Rl_F9 ?_ | refine ⟨Rl_Fr ?_ (show Fr (p_i (p_l h (A 39) 0 _) (A 22) 9 0) _ from (Fr_pi (Fr_pi (Fr_pi (Fr_pi (Fr_pi (Fr_pi (Fr_pi (Fr_pi (Fr_pi (Fr_pN Fr_rfl) (Nat.le_refl _)) (Nat.le_refl _)) (Nat.le_refl _)) (Nat.le_refl _)) (Nat.le_refl _)) (Nat.le_refl _)) (Nat.le_refl _)) (Nat.le_refl _)) (Nat.le_refl _))), rfl⟩ | refine Rl_Fr ?_ (show Fr (p_i (p_l h (A 39) 0 _) (A 22) 9 0) _ from (Fr_pi (Fr_pi (Fr_pi (Fr_pi (Fr_pi (Fr_pi (Fr_pi (Fr_pi (Fr_pi (Fr_pN Fr_rfl) (Nat.le_refl _)) (Nat.le_refl _)) (Nat.le_refl _)) (Nat.le_refl _)) (Nat.le_refl _)) (Nat.le_refl _)) (Nat.le_refl _)) (Nat.le_refl _)) (Nat.le_refl _)))
            first | refine ⟨⟨?_, ?_, ?_, ?_, ?_, ?_, ?_, ?_, ?_, ?_, ?_, ?_⟩, rfl⟩ | refine ⟨?_, ?_, ?_, ?_, ?_, ?_, ?_, ?_, ?_, ?_, ?_, ?_⟩
            · (try simp only [K_pi, K_pl])
              exact vk
            · (try simp only [Cn_pi_j22 hA, Cn_pl])
              exact vcn
            · (try simp only [Vq0_pi_j22 hA, Vq0_pl])
              exact v0
            · (try simp only [Vq1_pi_j22 hA, Vq1_pl])
              exact v1
            · (try simp only [Vq2_pi_j22 hA, Vq2_pl])
              exact v2
            · (try simp only [Vp_thr hA, Vp_pl])
              exact vp
            · (try simp only [Vl0_pi_j22 hA, Vl0_pl])
              exact vl0
            · (try simp only [Vl1_pi_j22 hA, Vl1_pl])
              exact vl1
            · (try simp only [Vlr_pi_j22 hA, Vlr_pl_j39 hA])
              exact vlr
            · (try simp only [Vsr_pi_j22 hA, Vsr_pl_j39 hA])
              exact vsr
            · (try simp only [Vc_pi_j22 hA, Vc_pl])
              exact vc
            · (try simp only [Tx_pi_j22 hA, Tx_pl])
              exact tx
          · skip
            simp only [↓ar_ite, ↓ar_ite2, ↓ar_ok, ↓reduceIte, o321_0, o321_1, o321_2, o321_3, o321_4, o321_7, o321_8, o321_11, o321_22, o321_23, o96_0, o96_1, o96_2, o96_5, o96_6, o96_7, o96_9, o96_12, o96_13, o96_80, o96_81, o96_84, o228_0, o228_1, o228_2, o228_5, o228_12, o228_13, o228_14, o228_17, o228_18, o228_20, o228_27, o228_28, o228_31, o228_38, o228_39, o228_40, o228_41, o228_44, c_X8_isThrown_, c_X8_isLens, c_X5_checkChoice, c_lensOf_0, c_X7_rests, mc_pi, mc_pl, mc_pN, mn_pi, mn_pl, mn_pN, mi_pi, mi_pl, mi_pN, ml_pi, ml_pl, ml_pN, mr_pi, mr_pl, mt_pi, mt_pl, mz_pi, mz_pl, mz_pN, mcs_0, mcs_i, mcs_r, Kn_v, Kn_0, mrf_some, true_and, and_true, and_false, or_false, not_false_eq_true, implies_true, and_self, Nat.reduceEqDiff, Nat.reduceLeDiff, Nat.reduceSub, Nat.reduceAdd, Nat.zero_le, Nat.le_refl, i10, i01, lt_le, Int32.reduceLT, cl0, cl1, cl2, cl3, cl4, cl5, cl6, cl7, cl8, cl9, Kc_v, Sum.inl.injEq, Option.some.injEq, Value.int.injEq, exists_eq_left', Nat.reduceLT, hAe, kc0, kc15, kc22, kc29, kc37, kc39, kn29, kr0_7, kr22_7, kr29_0, kz, be0, b2, b3, b4, b5, b6, s0, hta, hzt, lne, lti, vpk, Int.reduceLT, or_self, or_false, o227_0, o227_1, o227_4, o227_5, o227_6, o227_7, o227_9, o227_11, o227_12, o227_13, o227_14, o227_17, o227_18, o227_19, o227_20, o227_21, o227_24, o227_25, o227_26, o227_27, o227_28, o227_31, o227_32, o227_33, o227_34, o227_35, o227_38, o227_39, o227_40, o227_41, o227_42, o227_45, o227_46, o227_47, o227_48, o227_49, o227_52, o227_55, o227_56, o227_60, o227_61, o227_62, o227_64, o227_65, o227_68, o227_71, o227_72, o227_76, o227_77, o227_78, o227_80, o227_81, o227_82, o227_83, o227_85, o227_86, o227_89, o227_92, o227_93, o227_100, o227_101, o227_103, o227_105, o227_106, o227_107, cl0, cl1]
            (try simp only [ite_ar, implies_true, true_and, and_true, Classical.not_not])
            first | refine ⟨Rl_F9 ?_, rfl⟩ | refine Rl_F9 ?_ | refine ⟨Rl_Fr ?_ (show Fr (p_i (p_l h (A 39) 0 _) (A 22) 9 0) _ from (Fr_pi (Fr_pi (Fr_pi (Fr_pi (Fr_pi (Fr_pi (Fr_pi (Fr_pi (Fr_pi (Fr_pN Fr_rfl) (Nat.le_refl _)) (Nat.le_refl _)) (Nat.le_refl _)) (Nat.le_refl _)) (Nat.le_refl _)) (Nat.le_refl _)) (Nat.le_refl _)) (Nat.le_refl _)) (Nat.le_refl _))), rfl⟩ | refine Rl_Fr ?_ (show Fr (p_i (p_l h (A 39) 0 _) (A 22) 9 0) _ from (Fr_pi (Fr_pi (Fr_pi (Fr_pi (Fr_pi (Fr_pi (Fr_pi (Fr_pi (Fr_pi (Fr_pN Fr_rfl) (Nat.le_refl _)) (Nat.le_refl _)) (Nat.le_refl _)) (Nat.le_refl _)) (Nat.le_refl _)) (Nat.le_refl _)) (Nat.le_refl _)) (Nat.le_refl _)) (Nat.le_refl _)))
            first | refine ⟨⟨?_, ?_, ?_, ?_, ?_, ?_, ?_, ?_, ?_, ?_, ?_, ?_⟩, rfl⟩ | refine ⟨?_, ?_, ?_, ?_, ?_, ?_, ?_, ?_, ?_, ?_, ?_, ?_⟩
            · (try simp only [K_pi, K_pl])
              exact vk
            · (try simp only [Cn_pi_j22 hA, Cn_pl])
              exact vcn
            · (try simp only [Vq0_pi_j22 hA, Vq0_pl])
              exact v0
            · (try simp only [Vq1_pi_j22 hA, Vq1_pl])
              exact v1
            · (try simp only [Vq2_pi_j22 hA, Vq2_pl])
              exact v2
            · (try simp only [Vp_thr hA, Vp_pl])
              exact vp
            · (try simp only [Vl0_pi_j22 hA, Vl0_pl])
              exact vl0
            · (try simp only [Vl1_pi_j22 hA, Vl1_pl])
              exact vl1
            · (try simp only [Vlr_pi_j22 hA, Vlr_pl_j39 hA])
              exact vlr
            · (try simp only [Vsr_pi_j22 hA, Vsr_pl_j39 hA])
              exact vsr
            · (try simp only [Vc_pi_j22 hA, Vc_pl])
              exact vc
            · (try simp only [Tx_pi_j22 hA, Tx_pl])
              exact tx
          · skip
            simp only [↓ar_ite, ↓ar_ite2, ↓ar_ok, ↓reduceIte, o321_0, o321_1, o321_2, o321_3, o321_4, o321_7, o321_8, o321_11, o321_22, o321_23, o96_0, o96_1, o96_2, o96_5, o96_6, o96_7, o96_9, o96_12, o96_13, o96_85, o96_86, o96_89, o96_92, o96_93, o96_97, o228_0, o228_1, o228_2, o228_5, o228_12, o228_13, o228_14, o228_17, o228_18, o228_20, o228_27, o228_28, o228_31, o228_38, o228_39, o228_40, o228_41, o228_44, c_X8_isThrown_, c_X8_isLens, c_X5_checkChoice, c_lensOf_0, c_X7_rests, mc_pi, mc_pl, mc_pN, mn_pi, mn_pl, mn_pN, mi_pi, mi_pl, mi_pN, ml_pi, ml_pl, ml_pN, mr_pi, mr_pl, mt_pi, mt_pl, mz_pi, mz_pl, mz_pN, mcs_0, mcs_i, mcs_r, Kn_v, Kn_0, mrf_some, true_and, and_true, and_false, or_false, not_false_eq_true, implies_true, and_self, Nat.reduceEqDiff, Nat.reduceLeDiff, Nat.reduceSub, Nat.reduceAdd, Nat.zero_le, Nat.le_refl, i10, i01, lt_le, Int32.reduceLT, cl0, cl1, cl2, cl3, cl4, cl5, cl6, cl7, cl8, cl9, Kc_v, Sum.inl.injEq, Option.some.injEq, Value.int.injEq, exists_eq_left', Nat.reduceLT, hAe, kc0, kc15, kc22, kc29, kc37, kc39, kn29, kr0_7, kr22_7, kr29_0, kz, be0, b2, b3, b4, b5, b6, s0, hta, hzt, lne, lti, vpk, Int.reduceLT, or_self, or_false, o227_0, o227_1, o227_4, o227_5, o227_6, o227_7, o227_9, o227_11, o227_12, o227_13, o227_14, o227_17, o227_18, o227_19, o227_20, o227_21, o227_24, o227_25, o227_26, o227_27, o227_28, o227_31, o227_32, o227_33, o227_34, o227_35, o227_38, o227_39, o227_40, o227_41, o227_42, o227_45, o227_46, o227_47, o227_48, o227_49, o227_52, o227_55, o227_56, o227_60, o227_61, o227_62, o227_64, o227_65, o227_68, o227_71, o227_72, o227_76, o227_77, o227_78, o227_80, o227_81, o227_82, o227_83, o227_85, o227_86, o227_89, o227_92, o227_93, o227_100, o227_101, o227_103, o227_105, o227_106, o227_107, cl0, cl1]
            (try simp only [ite_ar, implies_true, true_and, and_true, Classical.not_not])
            first | refine ⟨Rl_F9 ?_, rfl⟩ | refine Rl_F9 ?_ | refine ⟨Rl_Fr ?_ (show Fr (p_i (p_l h (A 39) 0 _) (A 22) 9 0) _ from (Fr_pi (Fr_pi (Fr_pi (Fr_pi (Fr_pi (Fr_pi (Fr_pi (Fr_pi (Fr_pi (Fr_pN Fr_rfl) (Nat.le_refl _)) (Nat.le_refl _)) (Nat.le_refl _)) (Nat.le_refl _)) (Nat.le_refl _)) (Nat.le_refl _)) (Nat.le_refl _)) (Nat.le_refl _)) (Nat.le_refl _))), rfl⟩ | refine Rl_Fr ?_ (show Fr (p_i (p_l h (A 39) 0 _) (A 22) 9 0) _ from (Fr_pi (Fr_pi (Fr_pi (Fr_pi (Fr_pi (Fr_pi (Fr_pi (Fr_pi (Fr_pi (Fr_pN Fr_rfl) (Nat.le_refl _)) (Nat.le_refl _)) (Nat.le_refl _)) (Nat.le_refl _)) (Nat.le_refl _)) (Nat.le_refl _)) (Nat.le_refl _)) (Nat.le_refl _)) (Nat.le_refl _)))
            first | refine ⟨⟨?_, ?_, ?_, ?_, ?_, ?_, ?_, ?_, ?_, ?_, ?_, ?_⟩, rfl⟩ | refine ⟨?_, ?_, ?_, ?_, ?_, ?_, ?_, ?_, ?_, ?_, ?_, ?_⟩
            · (try simp only [K_pi, K_pl])
              exact vk
            · (try simp only [Cn_pi_j22 hA, Cn_pl])
              exact vcn
            · (try simp only [Vq0_pi_j22 hA, Vq0_pl])
              exact v0
            · (try simp only [Vq1_pi_j22 hA, Vq1_pl])
              exact v1
            · (try simp only [Vq2_pi_j22 hA, Vq2_pl])
              exact v2
            · (try simp only [Vp_thr hA, Vp_pl])
              exact vp
            · (try simp only [Vl0_pi_j22 hA, Vl0_pl])
              exact vl0
            · (try simp only [Vl1_pi_j22 hA, Vl1_pl])
              exact vl1
            · (try simp only [Vlr_pi_j22 hA, Vlr_pl_j39 hA])
              exact vlr
            · (try simp only [Vsr_pi_j22 hA, Vsr_pl_j39 hA])
              exact vsr
            · (try simp only [Vc_pi_j22 hA, Vc_pl])
              exact vc
            · (try simp only [Tx_pi_j22 hA, Tx_pl])
              exact tx
          · skip
            simp only [↓ar_ite, ↓ar_ite2, ↓ar_ok, ↓reduceIte, o321_0, o321_1, o321_2, o321_3, o321_4, o321_7, o321_8, o321_11, o321_22, o321_23, o96_0, o96_1, o96_2, o96_5, o96_6, o96_7, o96_9, o96_12, o96_13, o96_98, o96_99, o96_102, o96_105, o96_106, o96_110, o228_0, o228_1, o228_2, o228_5, o228_12, o228_13, o228_14, o228_17, o228_18, o228_20, o228_27, o228_28, o228_31, o228_38, o228_39, o228_40, o228_41, o228_44, c_X8_isThrown_, c_X8_isLens, c_X5_checkChoice, c_lensOf_0, c_X7_rests, mc_pi, mc_pl, mc_pN, mn_pi, mn_pl, mn_pN, mi_pi, mi_pl, mi_pN, ml_pi, ml_pl, ml_pN, mr_pi, mr_pl, mt_pi, mt_pl, mz_pi, mz_pl, mz_pN, mcs_0, mcs_i, mcs_r, Kn_v, Kn_0, mrf_some, true_and, and_true, and_false, or_false, not_false_eq_true, implies_true, and_self, Nat.reduceEqDiff, Nat.reduceLeDiff, Nat.reduceSub, Nat.reduceAdd, Nat.zero_le, Nat.le_refl, i10, i01, lt_le, Int32.reduceLT, cl0, cl1, cl2, cl3, cl4, cl5, cl6, cl7, cl8, cl9, Kc_v, Sum.inl.injEq, Option.some.injEq, Value.int.injEq, exists_eq_left', Nat.reduceLT, hAe, kc0, kc15, kc22, kc29, kc37, kc39, kn29, kr0_7, kr22_7, kr29_0, kz, be0, b2, b3, b4, b5, b6, s0, hta, hzt, lne, lti, vpk, Int.reduceLT, or_self, or_false, o227_0, o227_1, o227_4, o227_5, o227_6, o227_7, o227_9, o227_11, o227_12, o227_13, o227_14, o227_17, o227_18, o227_19, o227_20, o227_21, o227_24, o227_25, o227_26, o227_27, o227_28, o227_31, o227_32, o227_33, o227_34, o227_35, o227_38, o227_39, o227_40, o227_41, o227_42, o227_45, o227_46, o227_47, o227_48, o227_49, o227_52, o227_55, o227_56, o227_60, o227_61, o227_62, o227_64, o227_65, o227_68, o227_71, o227_72, o227_76, o227_77, o227_78, o227_80, o227_81, o227_82, o227_83, o227_85, o227_86, o227_89, o227_92, o227_93, o227_100, o227_101, o227_103, o227_105, o227_106, o227_107, cl0, cl1]
            (try simp only [ite_ar, implies_true, true_and, and_true, Classical.not_not])
            first | refine ⟨Rl_F9 ?_, rfl⟩ | refine Rl_F9 ?_ | refine ⟨Rl_Fr ?_ (show Fr (p_i (p_l h (A 39) 0 _) (A 22) 9 0) _ from (Fr_pi (Fr_pi (Fr_pi (Fr_pi (Fr_pi (Fr_pi (Fr_pi (Fr_pi (Fr_pi (Fr_pN Fr_rfl) (Nat.le_refl _)) (Nat.le_refl _)) (Nat.le_refl _)) (Nat.le_refl _)) (Nat.le_refl _)) (Nat.le_refl _)) (Nat.le_refl _)) (Nat.le_refl _)) (Nat.le_refl _))), rfl⟩ | refine Rl_Fr ?_ (show Fr (p_i (p_l h (A 39) 0 _) (A 22) 9 0) _ from (Fr_pi (Fr_pi (Fr_pi (Fr_pi (Fr_pi (Fr_pi (Fr_pi (Fr_pi (Fr_pi (Fr_pN Fr_rfl) (Nat.le_refl _)) (Nat.le_refl _)) (Nat.le_refl _)) (Nat.le_refl _)) (Nat.le_refl _)) (Nat.le_refl _)) (Nat.le_refl _)) (Nat.le_refl _)) (Nat.le_refl _)))
            first | refine ⟨⟨?_, ?_, ?_, ?_, ?_, ?_, ?_, ?_, ?_, ?_, ?_, ?_⟩, rfl⟩ | refine ⟨?_, ?_, ?_, ?_, ?_, ?_, ?_, ?_, ?_, ?_, ?_, ?_⟩
            · (try simp only [K_pi, K_pl])
              exact vk
            · (try simp only [Cn_pi_j22 hA, Cn_pl])
              exact vcn
            · (try simp only [Vq0_pi_j22 hA, Vq0_pl])
              exact v0
            · (try simp only [Vq1_pi_j22 hA, Vq1_pl])
              exact v1
            · (try simp only [Vq2_pi_j22 hA, Vq2_pl])
              exact v2
            · (try simp only [Vp_thr hA, Vp_pl])
              exact vp
            · (try simp only [Vl0_pi_j22 hA, Vl0_pl])
              exact vl0
            · (try simp only [Vl1_pi_j22 hA, Vl1_pl])
              exact vl1
            · (try simp only [Vlr_pi_j22 hA, Vlr_pl_j39 hA])
              exact vlr
            · (try simp only [Vsr_pi_j22 hA, Vsr_pl_j39 hA])
              exact vsr
            · (try simp only [Vc_pi_j22 hA, Vc_pl])
              exact vc
            · (try simp only [Tx_pi_j22 hA, Tx_pl])
              exact tx
          · skip
            simp only [↓ar_ite, ↓ar_ite2, ↓ar_ok, ↓reduceIte, o321_0, o321_1, o321_2, o321_3, o321_4, o321_7, o321_8, o321_11, o321_22, o321_23, o96_0, o96_1, o96_2, o96_5, o96_6, o96_7, o96_9, o96_12, o96_13, o96_111, o96_112, o228_0, o228_1, o228_2, o228_5, o228_12, o228_13, o228_14, o228_17, o228_18, o228_20, o228_27, o228_28, o228_31, o228_38, o228_39, o228_40, o228_41, o228_44, c_X8_isThrown_, c_X8_isLens, c_X5_checkChoice, c_lensOf_0, c_X7_rests, mc_pi, mc_pl, mc_pN, mn_pi, mn_pl, mn_pN, mi_pi, mi_pl, mi_pN, ml_pi, ml_pl, ml_pN, mr_pi, mr_pl, mt_pi, mt_pl, mz_pi, mz_pl, mz_pN, mcs_0, mcs_i, mcs_r, Kn_v, Kn_0, mrf_some, true_and, and_true, and_false, or_false, not_false_eq_true, implies_true, and_self, Nat.reduceEqDiff, Nat.reduceLeDiff, Nat.reduceSub, Nat.reduceAdd, Nat.zero_le, Nat.le_refl, i10, i01, lt_le, Int32.reduceLT, cl0, cl1, cl2, cl3, cl4, cl5, cl6, cl7, cl8, cl9, Kc_v, Sum.inl.injEq, Option.some.injEq, Value.int.injEq, exists_eq_left', Nat.reduceLT, hAe, kc0, kc22, kc29, kc37, kc39, kn29, kr0_7, kr22_7, kr29_0, kz, be0, b2, b3, b4, b5, b6, s0, hta, hzt, lne, lti, vpk, Int.reduceLT, or_self, or_false, o227_0, o227_1, o227_4, o227_5, o227_6, o227_7, o227_9, o227_11, o227_12, o227_13, o227_14, o227_17, o227_18, o227_19, o227_20, o227_21, o227_24, o227_25, o227_26, o227_27, o227_28, o227_31, o227_32, o227_33, o227_34, o227_35, o227_38, o227_39, o227_40, o227_41, o227_42, o227_45, o227_46, o227_47, o227_48, o227_49, o227_52, o227_55, o227_56, o227_60, o227_61, o227_62, o227_64, o227_65, o227_68, o227_71, o227_72, o227_76, o227_77, o227_78, o227_80, o227_81, o227_82, o227_83, o227_85, o227_86, o227_89, o227_92, o227_93, o227_100, o227_101, o227_103, o227_105, o227_106, o227_107, cl0, cl1]
            (try simp only [ite_ar, implies_true, true_and, and_true, Classical.not_not])
            first | refine ⟨Rl_F9 ?_, rfl⟩ | refine Rl_F9 ?_ | refine ⟨Rl_Fr ?_ (show Fr (p_i (p_l h (A 39) 0 _) (A 22) 9 0) _ from (Fr_pi (Fr_pi (Fr_pi (Fr_pi (Fr_pi (Fr_pi (Fr_pi (Fr_pi (Fr_pi (Fr_pN Fr_rfl) (Nat.le_refl _)) (Nat.le_refl _)) (Nat.le_refl _)) (Nat.le_refl _)) (Nat.le_refl _)) (Nat.le_refl _)) (Nat.le_refl _)) (Nat.le_refl _)) (Nat.le_refl _))), rfl⟩ | refine Rl_Fr ?_ (show Fr (p_i (p_l h (A 39) 0 _) (A 22) 9 0) _ from (Fr_pi (Fr_pi (Fr_pi (Fr_pi (Fr_pi (Fr_pi (Fr_pi (Fr_pi (Fr_pi (Fr_pN Fr_rfl) (Nat.le_refl _)) (Nat.le_refl _)) (Nat.le_refl _)) (Nat.le_refl _)) (Nat.le_refl _)) (Nat.le_refl _)) (Nat.le_refl _)) (Nat.le_refl _)) (Nat.le_refl _)))
            first | refine ⟨⟨?_, ?_, ?_, ?_, ?_, ?_, ?_, ?_, ?_, ?_, ?_, ?_⟩, rfl⟩ | refine ⟨?_, ?_, ?_, ?_, ?_, ?_, ?_, ?_, ?_, ?_, ?_, ?_⟩
            · (try simp only [K_pi, K_pl])
              exact vk
            · (try simp only [Cn_pi_j22 hA, Cn_pl])
              exact vcn
            · (try simp only [Vq0_pi_j22 hA, Vq0_pl])
              exact v0
            · (try simp only [Vq1_pi_j22 hA, Vq1_pl])
              exact v1
            · (try simp only [Vq2_pi_j22 hA, Vq2_pl])
              exact v2
            · (try simp only [Vp_thr hA, Vp_pl])
              exact vp
            · (try simp only [Vl0_pi_j22 hA, Vl0_pl])
              exact vl0
            · (try simp only [Vl1_pi_j22 hA, Vl1_pl])
              exact vl1
            · (try simp only [Vlr_pi_j22 hA, Vlr_pl_j39 hA])
              exact vlr
            · (try simp only [Vsr_pi_j22 hA, Vsr_pl_j39 hA])
              exact vsr
            · (try simp only [Vc_pi_j22 hA, Vc_pl])
              exact vc
            · (try simp only [Tx_pi_j22 hA, Tx_pl])
              exact tx
          · skip
            simp only [↓ar_ite, ↓ar_ite2, ↓ar_ok, ↓reduceIte, o321_0, o321_1, o321_2, o321_3, o321_4, o321_7, o321_8, o321_11, o321_22, o321_23, o96_0, o96_1, o96_2, o96_5, o96_6, o96_7, o96_9, o96_12, o96_13, o96_113, o96_114, o96_117, o96_120, o96_121, o96_128, o228_0, o228_1, o228_2, o228_5, o228_12, o228_13, o228_14, o228_17, o228_18, o228_20, o228_27, o228_28, o228_31, o228_38, o228_39, o228_40, o228_41, o228_44, c_X8_isThrown_, c_X8_isLens, c_X5_checkChoice, c_lensOf_0, c_X7_rests, mc_pi, mc_pl, mc_pN, mn_pi, mn_pl, mn_pN, mi_pi, mi_pl, mi_pN, ml_pi, ml_pl, ml_pN, mr_pi, mr_pl, mt_pi, mt_pl, mz_pi, mz_pl, mz_pN, mcs_0, mcs_i, mcs_r, Kn_v, Kn_0, mrf_some, true_and, and_true, or_true, or_false, not_false_eq_true, implies_true, and_self, Nat.reduceEqDiff, Nat.reduceLeDiff, Nat.reduceSub, Nat.reduceAdd, Nat.zero_le, Nat.le_refl, i10, i01, lt_le, Int32.reduceLT, cl0, cl1, cl2, cl3, cl4, cl5, cl6, cl7, cl8, cl9, Kc_v, Sum.inl.injEq, Option.some.injEq, Value.int.injEq, exists_eq_left', Nat.reduceLT, hAe, kc0, kc15, kc22, kc29, kc37, kc39, kn29, kr0_7, kr22_7, kr29_0, kz, be0, b2, b3, b4, b5, b6, s0, hta, hzt, lne, lti, vpk, Int.reduceLT, or_self, or_false, o227_0, o227_1, o227_4, o227_5, o227_6, o227_7, o227_9, o227_11, o227_12, o227_13, o227_14, o227_17, o227_18, o227_19, o227_20, o227_21, o227_24, o227_25, o227_26, o227_27, o227_28, o227_31, o227_32, o227_33, o227_34, o227_35, o227_38, o227_39, o227_40, o227_41, o227_42, o227_45, o227_46, o227_47, o227_48, o227_49, o227_52, o227_55, o227_56, o227_60, o227_61, o227_62, o227_64, o227_65, o227_68, o227_71, o227_72, o227_76, o227_77, o227_78, o227_80, o227_81, o227_82, o227_83, o227_85, o227_86, o227_89, o227_92, o227_93, o227_100, o227_101, o227_103, o227_105, o227_106, o227_107, cl0, cl1]
            (try simp only [ite_ar, implies_true, true_and, and_true, Classical.not_not])
            first | refine ⟨Rl_F9 ?_, rfl⟩ | refine Rl_F9 ?_ | refine ⟨Rl_Fr ?_ (show Fr (p_i (p_l h (A 39) 0 _) (A 22) 9 0) _ from (Fr_pi (Fr_pi (Fr_pi (Fr_pi (Fr_pi (Fr_pi (Fr_pi (Fr_pi (Fr_pi (Fr_pN Fr_rfl) (Nat.le_refl _)) (Nat.le_refl _)) (Nat.le_refl _)) (Nat.le_refl _)) (Nat.le_refl _)) (Nat.le_refl _)) (Nat.le_refl _)) (Nat.le_refl _)) (Nat.le_refl _))), rfl⟩ | refine Rl_Fr ?_ (show Fr (p_i (p_l h (A 39) 0 _) (A 22) 9 0) _ from (Fr_pi (Fr_pi (Fr_pi (Fr_pi (Fr_pi (Fr_pi (Fr_pi (Fr_pi (Fr_pi (Fr_pN Fr_rfl) (Nat.le_refl _)) (Nat.le_refl _)) (Nat.le_refl _)) (Nat.le_refl _)) (Nat.le_refl _)) (Nat.le_refl _)) (Nat.le_refl _)) (Nat.le_refl _)) (Nat.le_refl _)))
            first | refine ⟨⟨?_, ?_, ?_, ?_, ?_, ?_, ?_, ?_, ?_, ?_, ?_, ?_⟩, rfl⟩ | refine ⟨?_, ?_, ?_, ?_, ?_, ?_, ?_, ?_, ?_, ?_, ?_, ?_⟩
            · (try simp only [K_pi, K_pl])
              exact vk
            · (try simp only [Cn_pi_j22 hA, Cn_pl])
              exact vcn
            · (try simp only [Vq0_pi_j22 hA, Vq0_pl])
              exact v0
            · (try simp only [Vq1_pi_j22 hA, Vq1_pl])
              exact v1
            · (try simp only [Vq2_pi_j22 hA, Vq2_pl])
              exact v2
            · (try simp only [Vp_thr hA, Vp_pl])
              exact vp
            · (try simp only [Vl0_pi_j22 hA, Vl0_pl])
              exact vl0
            · (try simp only [Vl1_pi_j22 hA, Vl1_pl])
              exact vl1
            · (try simp only [Vlr_pi_j22 hA, Vlr_pl_j39 hA])
              exact vlr
            · (try simp only [Vsr_pi_j22 hA, Vsr_pl_j39 hA])
              exact vsr
            · (try simp only [Vc_pi_j22 hA, Vc_pl])
              exact vc
            · (try simp only [Tx_pi_j22 hA, Tx_pl])
              exact tx
      · have hl2 := vl1
        obtain ⟨⟨b1, b2, b3, b4, b5, b6⟩, ln⟩ := hl2
        replace b1 := b1.symm
        replace b2 := b2.symm
        replace b3 := b3.symm
        replace b4 := b4.symm
        replace b5 := b5.symm
        replace b6 := b6.symm
        rw [b1, b2, b3, b4, b5, b6] at ln
        rcases ln.2.2.2.1 with s0 | s0
        · skip
          rcases x_cases bx0 (x_le bx9 (by decide)) with rfl | rfl | rfl | rfl | rfl | rfl | rfl | rfl | rfl
          · skip
            simp only [↓ar_ite, ↓ar_ite2, ↓ar_ok, ↓reduceIte, o321_0, o321_1, o321_2, o321_3, o321_4, o321_7, o321_8, o321_11, o321_22, o321_23, o96_0, o96_1, o96_2, o96_5, o96_6, o96_7, o96_9, o96_12, o96_13, o96_60, o96_61, o96_64, o228_0, o228_1, o228_2, o228_5, o228_12, o228_13, o228_14, o228_17, o228_18, o228_20, o228_27, o228_28, o228_31, o228_38, o228_39, o228_40, o228_41, o228_44, c_X8_isThrown_, c_X8_isLens, c_X5_checkChoice, c_lensOf_1, c_X7_rests, mc_pi, mc_pl, mc_pN, mn_pi, mn_pl, mn_pN, mi_pi, mi_pl, mi_pN, ml_pi, ml_pl, ml_pN, mr_pi, mr_pl, mt_pi, mt_pl, mz_pi, mz_pl, mz_pN, mcs_0, mcs_i, mcs_r, Kn_v, Kn_0, mrf_some, true_and, and_true, and_false, or_true, not_false_eq_true, implies_true, and_self, Nat.reduceEqDiff, Nat.reduceLeDiff, Nat.reduceSub, Nat.reduceAdd, Nat.zero_le, Nat.le_refl, i10, i01, lt_le, Int32.reduceLT, cl0, cl1, cl2, cl3, cl4, cl5, cl6, cl7, cl8, cl9, Kc_v, Sum.inl.injEq, Option.some.injEq, Value.int.injEq, exists_eq_left', Nat.reduceLT, hAe, kc0, kc16, kc22, kc29, kc38, kc39, kn29, kr0_8, kr22_7, kr29_1, kz, be0, b1, b2, b3, b4, b5, b6, s0, hta, hzt, lne, lti, vpk, Int.reduceLT, or_self, o227_0, o227_1, o227_4, o227_5, o227_6, o227_7, o227_9, o227_11, o227_12, o227_13, o227_14, o227_17, o227_18, o227_19, o227_20, o227_21, o227_24, o227_25, o227_26, o227_27, o227_28, o227_31, o227_32, o227_33, o227_34, o227_35, o227_38, o227_39, o227_40, o227_41, o227_42, o227_45, o227_46, o227_47, o227_48, o227_49, o227_52, o227_59, o227_60, o227_61, o227_62, o227_64, o227_65, o227_68, o227_75, o227_76, o227_77, o227_78, o227_80, o227_81, o227_82, o227_83, o227_85, o227_86, o227_89, o227_96, o227_97, o227_100, o227_101, o227_103, o227_105, o227_106, o227_107, cl0, cl1]
            (try simp only [ite_ar, implies_true, true_and, and_true, Classical.not_not])
            first | refine ⟨Rl_F9 ?_, rfl⟩ | refine Rl_F9 ?_ | refine ⟨Rl_Fr ?_ (show Fr (p_i (p_l h (A 39) 0 _) (A 22) 9 0) _ from (Fr_pi (Fr_pi (Fr_pi (Fr_pi (Fr_pi (Fr_pi (Fr_pi (Fr_pi (Fr_pi (Fr_pN Fr_rfl) (Nat.le_refl _)) (Nat.le_refl _)) (Nat.le_refl _)) (Nat.le_refl _)) (Nat.le_refl _)) (Nat.le_refl _)) (Nat.le_refl _)) (Nat.le_refl _)) (Nat.le_refl _))), rfl⟩ | refine Rl_Fr ?_ (show Fr (p_i (p_l h (A 39) 0 _) (A 22) 9 0) _ from (Fr_pi (Fr_pi (Fr_pi (Fr_pi (Fr_pi (Fr_pi (Fr_pi (Fr_pi (Fr_pi (Fr_pN Fr_rfl) (Nat.le_refl _)) (Nat.le_refl _)) (Nat.le_refl _)) (Nat.le_refl _)) (Nat.le_refl _)) (Nat.le_refl _)) (Nat.le_refl _)) (Nat.le_refl _)) (Nat.le_refl _)))
            first | refine ⟨⟨?_, ?_, ?_, ?_, ?_, ?_, ?_, ?_, ?_, ?_, ?_, ?_⟩, rfl⟩ | refine ⟨?_, ?_, ?_, ?_, ?_, ?_, ?_, ?_, ?_, ?_, ?_, ?_⟩
            · (try simp only [K_pi, K_pl])
              exact vk
            · (try simp only [Cn_pi_j22 hA, Cn_pl])
              exact vcn
            · (try simp only [Vq0_pi_j22 hA, Vq0_pl])
              exact v0
            · (try simp only [Vq1_pi_j22 hA, Vq1_pl])
              exact v1
            · (try simp only [Vq2_pi_j22 hA, Vq2_pl])
              exact v2
            · (try simp only [Vp_thr hA, Vp_pl])
              exact vp
            · (try simp only [Vl0_pi_j22 hA, Vl0_pl])
              exact vl0
            · (try simp only [Vl1_pi_j22 hA, Vl1_pl])
              exact vl1
            · (try simp only [Vlr_pi_j22 hA, Vlr_pl_j39 hA])
              exact vlr
            · (try simp only [Vsr_pi_j22 hA, Vsr_pl_j39 hA])
              exact vsr
            · (try simp only [Vc_pi_j22 hA, Vc_pl])
              exact vc
            · (try simp only [Tx_pi_j22 hA, Tx_pl])
              exact tx
          · skip
            simp only [↓ar_ite, ↓ar_ite2, ↓ar_ok, ↓reduceIte, o321_0, o321_1, o321_2, o321_3, o321_4, o321_7, o321_8, o321_11, o321_22, o321_23, o96_0, o96_1, o96_2, o96_5, o96_6, o96_7, o96_9, o96_12, o96_13, o96_65, o96_66, o96_69, o228_0, o228_1, o228_2, o228_5, o228_12, o228_13, o228_14, o228_17, o228_18, o228_20, o228_27, o228_28, o228_31, o228_38, o228_39, o228_40, o228_41, o228_44, c_X8_isThrown_, c_X8_isLens, c_X5_checkChoice, c_lensOf_1, c_X7_rests, mc_pi, mc_pl, mc_pN, mn_pi, mn_pl, mn_pN, mi_pi, mi_pl, mi_pN, ml_pi, ml_pl, ml_pN, mr_pi, mr_pl, mt_pi, mt_pl, mz_pi, mz_pl, mz_pN, mcs_0, mcs_i, mcs_r, Kn_v, Kn_0, mrf_some, true_and, and_true, and_false, or_true, not_false_eq_true, implies_true, and_self, Nat.reduceEqDiff, Nat.reduceLeDiff, Nat.reduceSub, Nat.reduceAdd, Nat.zero_le, Nat.le_refl, i10, lt_le, Int32.reduceLT, cl0, cl1, cl2, cl3, cl4, cl5, cl6, cl7, cl8, cl9, Kc_v, Sum.inl.injEq, Option.some.injEq, Value.int.injEq, exists_eq_left', Nat.reduceLT, hAe, kc0, kc16, kc22, kc29, kc38, kc39, kn29, kr0_8, kr22_7, kr29_1, kz, be0, b1, b2, b3, b4, b5, b6, s0, hta, hzt, lne, lti, vpk, Int.reduceLT, or_self, o227_0, o227_1, o227_4, o227_5, o227_6, o227_7, o227_9, o227_11, o227_12, o227_13, o227_14, o227_17, o227_18, o227_19, o227_20, o227_21, o227_24, o227_25, o227_26, o227_27, o227_28, o227_31, o227_32, o227_33, o227_34, o227_35, o227_38, o227_39, o227_40, o227_41, o227_42, o227_45, o227_46, o227_47, o227_48, o227_49, o227_52, o227_59, o227_60, o227_61, o227_62, o227_64, o227_65, o227_68, o227_75, o227_76, o227_77, o227_78, o227_80, o227_81, o227_82, o227_83, o227_85, o227_86, o227_89, o227_96, o227_97, o227_100, o227_101, o227_103, o227_105, o227_106, o227_107, cl0, cl1]
            (try simp only [ite_ar, implies_true, true_and, and_true, Classical.not_not])
            first | refine ⟨Rl_F9 ?_, rfl⟩ | refine Rl_F9 ?_ | refine ⟨Rl_Fr ?_ (show Fr (p_i (p_l h (A 39) 0 _) (A 22) 9 0) _ from (Fr_pi (Fr_pi (Fr_pi (Fr_pi (Fr_pi (Fr_pi (Fr_pi (Fr_pi (Fr_pi (Fr_pN Fr_rfl) (Nat.le_refl _)) (Nat.le_refl _)) (Nat.le_refl _)) (Nat.le_refl _)) (Nat.le_refl _)) (Nat.le_refl _)) (Nat.le_refl _)) (Nat.le_refl _)) (Nat.le_refl _))), rfl⟩ | refine Rl_Fr ?_ (show Fr (p_i (p_l h (A 39) 0 _) (A 22) 9 0) _ from (Fr_pi (Fr_pi (Fr_pi (Fr_pi (Fr_pi (Fr_pi (Fr_pi (Fr_pi (Fr_pi (Fr_pN Fr_rfl) (Nat.le_refl _)) (Nat.le_refl _)) (Nat.le_refl _)) (Nat.le_refl _)) (Nat.le_refl _)) (Nat.le_refl _)) (Nat.le_refl _)) (Nat.le_refl _)) (Nat.le_refl _)))
            first | refine ⟨⟨?_, ?_, ?_, ?_, ?_, ?_, ?_, ?_, ?_, ?_, ?_, ?_⟩, rfl⟩ | refine ⟨?_, ?_, ?_, ?_, ?_, ?_, ?_, ?_, ?_, ?_, ?_, ?_⟩
            · (try simp only [K_pi, K_pl])
              exact vk
            · (try simp only [Cn_pi_j22 hA, Cn_pl])
              exact vcn
            · (try simp only [Vq0_pi_j22 hA, Vq0_pl])
              exact v0
            · (try simp only [Vq1_pi_j22 hA, Vq1_pl])
              exact v1
            · (try simp only [Vq2_pi_j22 hA, Vq2_pl])
              exact v2
            · (try simp only [Vp_thr hA, Vp_pl])
              exact vp
            · (try simp only [Vl0_pi_j22 hA, Vl0_pl])
              exact vl0
            · (try simp only [Vl1_pi_j22 hA, Vl1_pl])
              exact vl1
            · (try simp only [Vlr_pi_j22 hA, Vlr_pl_j39 hA])
              exact vlr
            · (try simp only [Vsr_pi_j22 hA, Vsr_pl_j39 hA])
              exact vsr
            · (try simp only [Vc_pi_j22 hA, Vc_pl])
              exact vc
            · (try simp only [Tx_pi_j22 hA, Tx_pl])
              exact tx
          · skip
            simp only [↓ar_ite, ↓ar_ite2, ↓ar_ok, ↓reduceIte, o321_0, o321_1, o321_2, o321_3, o321_4, o321_7, o321_8, o321_11, o321_22, o321_23, o96_0, o96_1, o96_2, o96_5, o96_6, o96_7, o96_9, o96_12, o96_13, o96_70, o96_71, o96_74, o228_0, o228_1, o228_2, o228_5, o228_12, o228_13, o228_14, o228_17, o228_18, o228_20, o228_27, o228_28, o228_31, o228_38, o228_39, o228_40, o228_41, o228_44, c_X8_isThrown_, c_X8_isLens, c_X5_checkChoice, c_lensOf_1, c_X7_rests, mc_pi, mc_pl, mc_pN, mn_pi, mn_pl, mn_pN, mi_pi, mi_pl, mi_pN, ml_pi, ml_pl, ml_pN, mr_pi, mr_pl, mt_pi, mt_pl, mz_pi, mz_pl, mz_pN, mcs_0, mcs_i, mcs_r, Kn_v, Kn_0, mrf_some, true_and, and_true, and_false, or_true, not_false_eq_true, implies_true, and_self, Nat.reduceEqDiff, Nat.reduceLeDiff, Nat.reduceSub, Nat.reduceAdd, Nat.zero_le, Nat.le_refl, i10, lt_le, Int32.reduceLT, cl0, cl1, cl2, cl3, cl4, cl5, cl6, cl7, cl8, cl9, Kc_v, Sum.inl.injEq, Option.some.injEq, Value.int.injEq, exists_eq_left', Nat.reduceLT, hAe, i20, kc0, kc16, kc22, kc29, kc38, kc39, kn29, kr0_8, kr22_7, kr29_1, kz, be0, b1, b2, b3, b4, b5, b6, s0, hta, hzt, lne, lti, vpk, Int.reduceLT, or_self, o227_0, o227_1, o227_4, o227_5, o227_6, o227_7, o227_9, o227_11, o227_12, o227_13, o227_14, o227_17, o227_18, o227_19, o227_20, o227_21, o227_24, o227_25, o227_26, o227_27, o227_28, o227_31, o227_32, o227_33, o227_34, o227_35, o227_38, o227_39, o227_40, o227_41, o227_42, o227_45, o227_46, o227_47, o227_48, o227_49, o227_52, o227_59, o227_60, o227_61, o227_62, o227_64, o227_65, o227_68, o227_75, o227_76, o227_77, o227_78, o227_80, o227_81, o227_82, o227_83, o227_85, o227_86, o227_89, o227_96, o227_97, o227_100, o227_101, o227_103, o227_105, o227_106, o227_107, cl0, cl1]
            (try simp only [ite_ar, implies_true, true_and, and_true, Classical.not_not])
            first | refine ⟨Rl_F9 ?_, rfl⟩ | refine Rl_F9 ?_ | refine ⟨Rl_Fr ?_ (show Fr (p_i (p_l h (A 39) 0 _) (A 22) 9 0) _ from (Fr_pi (Fr_pi (Fr_pi (Fr_pi (Fr_pi (Fr_pi (Fr_pi (Fr_pi (Fr_pi (Fr_pN Fr_rfl) (Nat.le_refl _)) (Nat.le_refl _)) (Nat.le_refl _)) (Nat.le_refl _)) (Nat.le_refl _)) (Nat.le_refl _)) (Nat.le_refl _)) (Nat.le_refl _)) (Nat.le_refl _))), rfl⟩ | refine Rl_Fr ?_ (show Fr (p_i (p_l h (A 39) 0 _) (A 22) 9 0) _ from (Fr_pi (Fr_pi (Fr_pi (Fr_pi (Fr_pi (Fr_pi (Fr_pi (Fr_pi (Fr_pi (Fr_pN Fr_rfl) (Nat.le_refl _)) (Nat.le_refl _)) (Nat.le_refl _)) (Nat.le_refl _)) (Nat.le_refl _)) (Nat.le_refl _)) (Nat.le_refl _)) (Nat.le_refl _)) (Nat.le_refl _)))
            first | refine ⟨⟨?_, ?_, ?_, ?_, ?_, ?_, ?_, ?_, ?_, ?_, ?_, ?_⟩, rfl⟩ | refine ⟨?_, ?_, ?_, ?_, ?_, ?_, ?_, ?_, ?_, ?_, ?_, ?_⟩
            · (try simp only [K_pi, K_pl])
              exact vk
            · (try simp only [Cn_pi_j22 hA, Cn_pl])
              exact vcn
            · (try simp only [Vq0_pi_j22 hA, Vq0_pl])
              exact v0
            · (try simp only [Vq1_pi_j22 hA, Vq1_pl])
              exact v1
            · (try simp only [Vq2_pi_j22 hA, Vq2_pl])
              exact v2
            · (try simp only [Vp_thr hA, Vp_pl])
              exact vp
            · (try simp only [Vl0_pi_j22 hA, Vl0_pl])
              exact vl0
            · (try simp only [Vl1_pi_j22 hA, Vl1_pl])
              exact vl1
            · (try simp only [Vlr_pi_j22 hA, Vlr_pl_j39 hA])
              exact vlr
            · (try simp only [Vsr_pi_j22 hA, Vsr_pl_j39 hA])
              exact vsr
            · (try simp only [Vc_pi_j22 hA, Vc_pl])
              exact vc
            · (try simp only [Tx_pi_j22 hA, Tx_pl])
              exact tx
          · skip
            simp only [↓ar_ite, ↓ar_ite2, ↓ar_ok, ↓reduceIte, o321_0, o321_1, o321_2, o321_3, o321_4, o321_7, o321_8, o321_11, o321_22, o321_23, o96_0, o96_1, o96_2, o96_5, o96_6, o96_7, o96_9, o96_12, o96_13, o96_75, o96_76, o96_79, o228_0, o228_1, o228_2, o228_5, o228_12, o228_13, o228_14, o228_17, o228_18, o228_20, o228_27, o228_28, o228_31, o228_38, o228_39, o228_40, o228_41, o228_44, c_X8_isThrown_, c_X8_isLens, c_X5_checkChoice, c_lensOf_1, c_X3_rests, c_X7_rests, mc_pi, mc_pl, mc_pN, mn_pi, mn_pl, mn_pN, mi_pi, mi_pl, mi_pN, ml_pi, ml_pl, ml_pN, mr_pi, mr_pl, mt_pi, mt_pl, mz_pi, mz_pl, mz_pN, mcs_0, mcs_i, mcs_r, Kn_v, Kn_0, mrf_some, true_and, and_true, and_false, or_true, not_false_eq_true, implies_true, and_self, Nat.reduceEqDiff, Nat.reduceLeDiff, Nat.reduceSub, Nat.reduceAdd, Nat.zero_le, Nat.le_refl, i10, lt_le, Int32.reduceLT, cl0, cl1, cl2, cl3, cl4, cl5, cl6, cl7, cl8, cl9, Kc_v, Sum.inl.injEq, Option.some.injEq, Value.int.injEq, exists_eq_left', Nat.reduceLT, hAe, i30, kc0, kc16, kc22, kc29, kc38, kc39, kn29, kr0_8, kr22_7, kr29_1, kz, be0, b1, b2, b3, b4, b5, b6, s0, hta, hzt, lne, lti, vpk, Int.reduceLT, or_self, o227_0, o227_1, o227_4, o227_5, o227_6, o227_7, o227_9, o227_11, o227_12, o227_13, o227_14, o227_17, o227_18, o227_19, o227_20, o227_21, o227_24, o227_25, o227_26, o227_27, o227_28, o227_31, o227_32, o227_33, o227_34, o227_35, o227_38, o227_39, o227_40, o227_41, o227_42, o227_45, o227_46, o227_47, o227_48, o227_49, o227_52, o227_59, o227_60, o227_61, o227_62, o227_64, o227_65, o227_68, o227_75, o227_76, o227_77, o227_78, o227_80, o227_81, o227_82, o227_83, o227_85, o227_86, o227_89, o227_96, o227_97, o227_100, o227_101, o227_103, o227_105, o227_106, o227_107, cl0, cl1]
            (try simp only [ite_ar, implies_true, true_and, and_true, Classical.not_not])
            first | refine ⟨Rl_F9 ?_, rfl⟩ | refine Rl_F9 ?_ | refine ⟨Rl_Fr ?_ (show Fr (p_i (p_l h (A 39) 0 _) (A 22) 9 0) _ from (Fr_pi (Fr_pi (Fr_pi (Fr_pi (Fr_pi (Fr_pi (Fr_pi (Fr_pi (Fr_pi (Fr_pN Fr_rfl) (Nat.le_refl _)) (Nat.le_refl _)) (Nat.le_refl _)) (Nat.le_refl _)) (Nat.le_refl _)) (Nat.le_refl _)) (Nat.le_refl _)) (Nat.le_refl _)) (Nat.le_refl _))), rfl⟩ | refine Rl_Fr ?_ (show Fr (p_i (p_l h (A 39) 0 _) (A 22) 9 0) _ from (Fr_pi (Fr_pi (Fr_pi (Fr_pi (Fr_pi (Fr_pi (Fr_pi (Fr_pi (Fr_pi (Fr_pN Fr_rfl) (Nat.le_refl _)) (Nat.le_refl _)) (Nat.le_refl _)) (Nat.le_refl _)) (Nat.le_refl _)) (Nat.le_refl _)) (Nat.le_refl _)) (Nat.le_refl _)) (Nat.le_refl _)))
            first | refine ⟨⟨?_, ?_, ?_, ?_, ?_, ?_, ?_, ?_, ?_, ?_, ?_, ?_⟩, rfl⟩ | refine ⟨?_, ?_, ?_, ?_, ?_, ?_, ?_, ?_, ?_, ?_, ?_, ?_⟩
            · (try simp only [K_pi, K_pl])
              exact vk
            · (try simp only [Cn_pi_j22 hA, Cn_pl])
              exact vcn
            · (try simp only [Vq0_pi_j22 hA, Vq0_pl])
              exact v0
            · (try simp only [Vq1_pi_j22 hA, Vq1_pl])
              exact v1
            · (try simp only [Vq2_pi_j22 hA, Vq2_pl])
              exact v2
            · (try simp only [Vp_thr hA, Vp_pl])
              exact vp
            · (try simp only [Vl0_pi_j22 hA, Vl0_pl])
              exact vl0
            · (try simp only [Vl1_pi_j22 hA, Vl1_pl])
              exact vl1
            · (try simp only [Vlr_pi_j22 hA, Vlr_pl_j39 hA])
              exact vlr
            · (try simp only [Vsr_pi_j22 hA, Vsr_pl_j39 hA])
              exact vsr
            · (try simp only [Vc_pi_j22 hA, Vc_pl])
              exact vc
            · (try simp only [Tx_pi_j22 hA, Tx_pl])
              exact tx
          · skip
            simp only [↓ar_ite, ↓ar_ite2, ↓ar_ok, ↓reduceIte, o321_0, o321_1, o321_2, o321_3, o321_4, o321_7, o321_8, o321_11, o321_22, o321_23, o96_0, o96_1, o96_2, o96_5, o96_6, o96_7, o96_9, o96_12, o96_13, o96_80, o96_81, o96_84, o228_0, o228_1, o228_2, o228_5, o228_12, o228_13, o228_14, o228_17, o228_18, o228_20, o228_27, o228_28, o228_31, o228_38, o228_39, o228_40, o228_41, o228_44, c_X8_isThrown_, c_X8_isLens, c_X5_checkChoice, c_lensOf_1, c_X7_rests, mc_pi, mc_pl, mc_pN, mn_pi, mn_pl, mn_pN, mi_pi, mi_pl, mi_pN, ml_pi, ml_pl, ml_pN, mr_pi, mr_pl, mt_pi, mt_pl, mz_pi, mz_pl, mz_pN, mcs_0, mcs_i, mcs_r, Kn_v, Kn_0, mrf_some, true_and, and_true, and_false, or_true, not_false_eq_true, implies_true, and_self, Nat.reduceEqDiff, Nat.reduceLeDiff, Nat.reduceSub, Nat.reduceAdd, Nat.zero_le, Nat.le_refl, i10, lt_le, Int32.reduceLT, cl0, cl1, cl2, cl3, cl4, cl5, cl6, cl7, cl8, cl9, Kc_v, Sum.inl.injEq, Option.some.injEq, Value.int.injEq, exists_eq_left', Nat.reduceLT, hAe, kc0, kc16, kc22, kc29, kc38, kc39, kn29, kr0_8, kr22_7, kr29_1, kz, be0, b1, b2, b3, b4, b5, b6, s0, hta, hzt, lne, lti, vpk, Int.reduceLT, or_self, o227_0, o227_1, o227_4, o227_5, o227_6, o227_7, o227_9, o227_11, o227_12, o227_13, o227_14, o227_17, o227_18, o227_19, o227_20, o227_21, o227_24, o227_25, o227_26, o227_27, o227_28, o227_31, o227_32, o227_33, o227_34, o227_35, o227_38, o227_39, o227_40, o227_41, o227_42, o227_45, o227_46, o227_47, o227_48, o227_49, o227_52, o227_59, o227_60, o227_61, o227_62, o227_64, o227_65, o227_68, o227_75, o227_76, o227_77, o227_78, o227_80, o227_81, o227_82, o227_83, o227_85, o227_86, o227_89, o227_96, o227_97, o227_100, o227_101, o227_103, o227_105, o227_106, o227_107, cl0, cl1]
            (try simp only [ite_ar, implies_true, true_and, and_true, Classical.not_not])
            first | refine ⟨Rl_F9 ?_, rfl⟩ | refine Rl_F9 ?_ | refine ⟨Rl_Fr ?_ (show Fr (p_i (p_l h (A 39) 0 _) (A 22) 9 0) _ from (Fr_pi (Fr_pi (Fr_pi (Fr_pi (Fr_pi (Fr_pi (Fr_pi (Fr_pi (Fr_pi (Fr_pN Fr_rfl) (Nat.le_refl _)) (Nat.le_refl _)) (Nat.le_refl _)) (Nat.le_refl _)) (Nat.le_refl _)) (Nat.le_refl _)) (Nat.le_refl _)) (Nat.le_refl _)) (Nat.le_refl _))), rfl⟩ | refine Rl_Fr ?_ (show Fr (p_i (p_l h (A 39) 0 _) (A 22) 9 0) _ from (Fr_pi (Fr_pi (Fr_pi (Fr_pi (Fr_pi (Fr_pi (Fr_pi (Fr_pi (Fr_pi (Fr_pN Fr_rfl) (Nat.le_refl _)) (Nat.le_refl _)) (Nat.le_refl _)) (Nat.le_refl _)) (Nat.le_refl _)) (Nat.le_refl _)) (Nat.le_refl _)) (Nat.le_refl _)) (Nat.le_refl _)))
            first | refine ⟨⟨?_, ?_, ?_, ?_, ?_, ?_, ?_, ?_, ?_, ?_, ?_, ?_⟩, rfl⟩ | refine ⟨?_, ?_, ?_, ?_, ?_, ?_, ?_, ?_, ?_, ?_, ?_, ?_⟩
            · (try simp only [K_pi, K_pl])
              exact vk
            · (try simp only [Cn_pi_j22 hA, Cn_pl])
              exact vcn
            · (try simp only [Vq0_pi_j22 hA, Vq0_pl])
              exact v0
            · (try simp only [Vq1_pi_j22 hA, Vq1_pl])
              exact v1
            · (try simp only [Vq2_pi_j22 hA, Vq2_pl])
              exact v2
            · (try simp only [Vp_thr hA, Vp_pl])
              exact vp
            · (try simp only [Vl0_pi_j22 hA, Vl0_pl])
              exact vl0
            · (try simp only [Vl1_pi_j22 hA, Vl1_pl])
              exact vl1
            · (try simp only [Vlr_pi_j22 hA, Vlr_pl_j39 hA])
              exact vlr
            · (try simp only [Vsr_pi_j22 hA, Vsr_pl_j39 hA])
              exact vsr
            · (try simp only [Vc_pi_j22 hA, Vc_pl])
              exact vc
            · (try simp only [Tx_pi_j22 hA, Tx_pl])
              exact tx
          · skip
            simp only [↓ar_ite, ↓ar_ite2, ↓ar_ok, ↓reduceIte, o321_0, o321_1, o321_2, o321_3, o321_4, o321_7, o321_8, o321_11, o321_22, o321_23, o96_0, o96_1, o96_2, o96_5, o96_6, o96_7, o96_9, o96_12, o96_13, o96_85, o96_86, o96_89, o96_96, o96_97, o228_0, o228_1, o228_2, o228_5, o228_12, o228_13, o228_14, o228_17, o228_18, o228_20, o228_27, o228_28, o228_31, o228_38, o228_39, o228_40, o228_41, o228_44, c_X8_isThrown_, c_X8_isLens, c_X5_checkChoice, c_lensOf_1, c_X7_rests, mc_pi, mc_pl, mc_pN, mn_pi, mn_pl, mn_pN, mi_pi, mi_pl, mi_pN, ml_pi, ml_pl, ml_pN, mr_pi, mr_pl, mt_pi, mt_pl, mz_pi, mz_pl, mz_pN, mcs_0, mcs_i, mcs_r, Kn_v, Kn_0, mrf_some, true_and, and_true, and_false, or_true, not_false_eq_true, implies_true, and_self, Nat.reduceEqDiff, Nat.reduceLeDiff, Nat.reduceSub, Nat.reduceAdd, Nat.zero_le, Nat.le_refl, i10, lt_le, Int32.reduceLT, cl0, cl1, cl2, cl3, cl4, cl5, cl6, cl7, cl8, cl9, Kc_v, Sum.inl.injEq, Option.some.injEq, Value.int.injEq, exists_eq_left', Nat.reduceLT, hAe, kc0, kc16, kc22, kc29, kc38, kc39, kn29, kr0_8, kr22_7, kr29_1, kz, be0, b1, b2, b3, b4, b5, b6, s0, hta, hzt, lne, lti, vpk, Int.reduceLT, or_self, o227_0, o227_1, o227_4, o227_5, o227_6, o227_7, o227_9, o227_11, o227_12, o227_13, o227_14, o227_17, o227_18, o227_19, o227_20, o227_21, o227_24, o227_25, o227_26, o227_27, o227_28, o227_31, o227_32, o227_33, o227_34, o227_35, o227_38, o227_39, o227_40, o227_41, o227_42, o227_45, o227_46, o227_47, o227_48, o227_49, o227_52, o227_59, o227_60, o227_61, o227_62, o227_64, o227_65, o227_68, o227_75, o227_76, o227_77, o227_78, o227_80, o227_81, o227_82, o227_83, o227_85, o227_86, o227_89, o227_96, o227_97, o227_100, o227_101, o227_103, o227_105, o227_106, o227_107, cl0, cl1]
            (try simp only [ite_ar, implies_true, true_and, and_true, Classical.not_not])
            first | refine ⟨Rl_F9 ?_, rfl⟩ | refine Rl_F9 ?_ | refine ⟨Rl_Fr ?_ (show Fr (p_i (p_l h (A 39) 0 _) (A 22) 9 0) _ from (Fr_pi (Fr_pi (Fr_pi (Fr_pi (Fr_pi (Fr_pi (Fr_pi (Fr_pi (Fr_pi (Fr_pN Fr_rfl) (Nat.le_refl _)) (Nat.le_refl _)) (Nat.le_refl _)) (Nat.le_refl _)) (Nat.le_refl _)) (Nat.le_refl _)) (Nat.le_refl _)) (Nat.le_refl _)) (Nat.le_refl _))), rfl⟩ | refine Rl_Fr ?_ (show Fr (p_i (p_l h (A 39) 0 _) (A 22) 9 0) _ from (Fr_pi (Fr_pi (Fr_pi (Fr_pi (Fr_pi (Fr_pi (Fr_pi (Fr_pi (Fr_pi (Fr_pN Fr_rfl) (Nat.le_refl _)) (Nat.le_refl _)) (Nat.le_refl _)) (Nat.le_refl _)) (Nat.le_refl _)) (Nat.le_refl _)) (Nat.le_refl _)) (Nat.le_refl _)) (Nat.le_refl _)))
            first | refine ⟨⟨?_, ?_, ?_, ?_, ?_, ?_, ?_, ?_, ?_, ?_, ?_, ?_⟩, rfl⟩ | refine ⟨?_, ?_, ?_, ?_, ?_, ?_, ?_, ?_, ?_, ?_, ?_, ?_⟩
            · (try simp only [K_pi, K_pl])
              exact vk
            · (try simp only [Cn_pi_j22 hA, Cn_pl])
              exact vcn
            · (try simp only [Vq0_pi_j22 hA, Vq0_pl])
              exact v0
            · (try simp only [Vq1_pi_j22 hA, Vq1_pl])
              exact v1
            · (try simp only [Vq2_pi_j22 hA, Vq2_pl])
              exact v2
            · (try simp only [Vp_thr hA, Vp_pl])
              exact vp
            · (try simp only [Vl0_pi_j22 hA, Vl0_pl])
              exact vl0
            · (try simp only [Vl1_pi_j22 hA, Vl1_pl])
              exact vl1
            · (try simp only [Vlr_pi_j22 hA, Vlr_pl_j39 hA])
              exact vlr
            · (try simp only [Vsr_pi_j22 hA, Vsr_pl_j39 hA])
              exact vsr
            · (try simp only [Vc_pi_j22 hA, Vc_pl])
              exact vc
            · (try simp only [Tx_pi_j22 hA, Tx_pl])
              exact tx
          · skip
            simp only [↓ar_ite, ↓ar_ite2, ↓ar_ok, ↓reduceIte, o321_0, o321_1, o321_2, o321_3, o321_4, o321_7, o321_8, o321_11, o321_22, o321_23, o96_0, o96_1, o96_2, o96_5, o96_6, o96_7, o96_9, o96_12, o96_13, o96_98, o96_99, o96_102, o96_109, o96_110, o228_0, o228_1, o228_2, o228_5, o228_12, o228_13, o228_14, o228_17, o228_18, o228_20, o228_27, o228_28, o228_31, o228_38, o228_39, o228_40, o228_41, o228_44, c_X8_isThrown_, c_X8_isLens, c_X5_checkChoice, c_lensOf_1, c_X7_rests, mc_pi, mc_pl, mc_pN, mn_pi, mn_pl, mn_pN, mi_pi, mi_pl, mi_pN, ml_pi, ml_pl, ml_pN, mr_pi, mr_pl, mt_pi, mt_pl, mz_pi, mz_pl, mz_pN, mcs_0, mcs_i, mcs_r, Kn_v, Kn_0, mrf_some, true_and, and_true, and_false, or_true, not_false_eq_true, implies_true, and_self, Nat.reduceEqDiff, Nat.reduceLeDiff, Nat.reduceSub, Nat.reduceAdd, Nat.zero_le, Nat.le_refl, i10, lt_le, Int32.reduceLT, cl0, cl1, cl2, cl3, cl4, cl5, cl6, cl7, cl8, cl9, Kc_v, Sum.inl.injEq, Option.some.injEq, Value.int.injEq, exists_eq_left', Nat.reduceLT, hAe, kc0, kc16, kc22, kc29, kc38, kc39, kn29, kr0_8, kr22_7, kr29_1, kz, be0, b1, b2, b3, b4, b5, b6, s0, hta, hzt, lne, lti, vpk, Int.reduceLT, or_self, o227_0, o227_1, o227_4, o227_5, o227_6, o227_7, o227_9, o227_11, o227_12, o227_13, o227_14, o227_17, o227_18, o227_19, o227_20, o227_21, o227_24, o227_25, o227_26, o227_27, o227_28, o227_31, o227_32, o227_33, o227_34, o227_35, o227_38, o227_39, o227_40, o227_41, o227_42, o227_45, o227_46, o227_47, o227_48, o227_49, o227_52, o227_59, o227_60, o227_61, o227_62, o227_64, o227_65, o227_68, o227_75, o227_76, o227_77, o227_78, o227_80, o227_81, o227_82, o227_83, o227_85, o227_86, o227_89, o227_96, o227_97, o227_100, o227_101, o227_103, o227_105, o227_106, o227_107, cl0, cl1]
            (try simp only [ite_ar, implies_true, true_and, and_true, Classical.not_not])
            first | refine ⟨Rl_F9 ?_, rfl⟩ | refine Rl_F9 ?_ | refine ⟨Rl_Fr ?_ (show Fr (p_i (p_l h (A 39) 0 _) (A 22) 9 0) _ from (Fr_pi (Fr_pi (Fr_pi (Fr_pi (Fr_pi (Fr_pi (Fr_pi (Fr_pi (Fr_pi (Fr_pN Fr_rfl) (Nat.le_refl _)) (Nat.le_refl _)) (Nat.le_refl _)) (Nat.le_refl _)) (Nat.le_refl _)) (Nat.le_refl _)) (Nat.le_refl _)) (Nat.le_refl _)) (Nat.le_refl _))), rfl⟩ | refine Rl_Fr ?_ (show Fr (p_i (p_l h (A 39) 0 _) (A 22) 9 0) _ from (Fr_pi (Fr_pi (Fr_pi (Fr_pi (Fr_pi (Fr_pi (Fr_pi (Fr_pi (Fr_pi (Fr_pN Fr_rfl) (Nat.le_refl _)) (Nat.le_refl _)) (Nat.le_refl _)) (Nat.le_refl _)) (Nat.le_refl _)) (Nat.le_refl _)) (Nat.le_refl _)) (Nat.le_refl _)) (Nat.le_refl _)))
            first | refine ⟨⟨?_, ?_, ?_, ?_, ?_, ?_, ?_, ?_, ?_, ?_, ?_, ?_⟩, rfl⟩ | refine ⟨?_, ?_, ?_, ?_, ?_, ?_, ?_, ?_, ?_, ?_, ?_, ?_⟩
            · (try simp only [K_pi, K_pl])
              exact vk
            · (try simp only [Cn_pi_j22 hA, Cn_pl])
              exact vcn
            · (try simp only [Vq0_pi_j22 hA, Vq0_pl])
              exact v0
            · (try simp only [Vq1_pi_j22 hA, Vq1_pl])
              exact v1
            · (try simp only [Vq2_pi_j22 hA, Vq2_pl])
              exact v2
            · (try simp only [Vp_thr hA, Vp_pl])
              exact vp
            · (try simp only [Vl0_pi_j22 hA, Vl0_pl])
              exact vl0
            · (try simp only [Vl1_pi_j22 hA, Vl1_pl])
              exact vl1
            · (try simp only [Vlr_pi_j22 hA, Vlr_pl_j39 hA])
              exact vlr
            · (try simp only [Vsr_pi_j22 hA, Vsr_pl_j39 hA])
              exact vsr
            · (try simp only [Vc_pi_j22 hA, Vc_pl])
              exact vc
            · (try simp only [Tx_pi_j22 hA, Tx_pl])
              exact tx
          · skip
            simp only [↓ar_ite, ↓ar_ite2, ↓ar_ok, ↓reduceIte, o321_0, o321_1, o321_2, o321_3, o321_4, o321_7, o321_8, o321_11, o321_22, o321_23, o96_0, o96_1, o96_2, o96_5, o96_6, o96_7, o96_9, o96_12, o96_13, o96_111, o96_112, o228_0, o228_1, o228_2, o228_5, o228_12, o228_13, o228_14, o228_17, o228_18, o228_20, o228_27, o228_28, o228_31, o228_38, o228_39, o228_40, o228_41, o228_44, c_X8_isThrown_, c_X8_isLens, c_X5_checkChoice, c_lensOf_1, c_X7_rests, mc_pi, mc_pl, mc_pN, mn_pi, mn_pl, mn_pN, mi_pi, mi_pl, mi_pN, ml_pi, ml_pl, ml_pN, mr_pi, mr_pl, mt_pi, mt_pl, mz_pi, mz_pl, mz_pN, mcs_0, mcs_i, mcs_r, Kn_v, Kn_0, mrf_some, true_and, and_true, and_false, or_true, not_false_eq_true, implies_true, and_self, Nat.reduceEqDiff, Nat.reduceLeDiff, Nat.reduceSub, Nat.reduceAdd, Nat.zero_le, Nat.le_refl, i10, lt_le, Int32.reduceLT, cl0, cl1, cl2, cl3, cl4, cl5, cl6, cl7, cl8, cl9, Kc_v, Sum.inl.injEq, Option.some.injEq, Value.int.injEq, exists_eq_left', Nat.reduceLT, hAe, kc0, kc22, kc29, kc38, kc39, kn29, kr0_8, kr22_7, kr29_1, kz, be0, b1, b2, b3, b4, b5, b6, s0, hta, hzt, lne, lti, vpk, Int.reduceLT, or_self, o227_0, o227_1, o227_4, o227_5, o227_6, o227_7, o227_9, o227_11, o227_12, o227_13, o227_14, o227_17, o227_18, o227_19, o227_20, o227_21, o227_24, o227_25, o227_26, o227_27, o227_28, o227_31, o227_32, o227_33, o227_34, o227_35, o227_38, o227_39, o227_40, o227_41, o227_42, o227_45, o227_46, o227_47, o227_48, o227_49, o227_52, o227_59, o227_60, o227_61, o227_62, o227_64, o227_65, o227_68, o227_75, o227_76, o227_77, o227_78, o227_80, o227_81, o227_82, o227_83, o227_85, o227_86, o227_89, o227_96, o227_97, o227_100, o227_101, o227_103, o227_105, o227_106, o227_107, cl0, cl1]
            (try simp only [ite_ar, implies_true, true_and, and_true, Classical.not_not])
            first | refine ⟨Rl_F9 ?_, rfl⟩ | refine Rl_F9 ?_ | refine ⟨Rl_Fr ?_ (show Fr (p_i (p_l h (A 39) 0 _) (A 22) 9 0) _ from (Fr_pi (Fr_pi (Fr_pi (Fr_pi (Fr_pi (Fr_pi (Fr_pi (Fr_pi (Fr_pi (Fr_pN Fr_rfl) (Nat.le_refl _)) (Nat.le_refl _)) (Nat.le_refl _)) (Nat.le_refl _)) (Nat.le_refl _)) (Nat.le_refl _)) (Nat.le_refl _)) (Nat.le_refl _)) (Nat.le_refl _))), rfl⟩ | refine Rl_Fr ?_ (show Fr (p_i (p_l h (A 39) 0 _) (A 22) 9 0) _ from (Fr_pi (Fr_pi (Fr_pi (Fr_pi (Fr_pi (Fr_pi (Fr_pi (Fr_pi (Fr_pi (Fr_pN Fr_rfl) (Nat.le_refl _)) (Nat.le_refl _)) (Nat.le_refl _)) (Nat.le_refl _)) (Nat.le_refl _)) (Nat.le_refl _)) (Nat.le_refl _)) (Nat.le_refl _)) (Nat.le_refl _)))
            first | refine ⟨⟨?_, ?_, ?_, ?_, ?_, ?_, ?_, ?_, ?_, ?_, ?_, ?_⟩, rfl⟩ | refine ⟨?_, ?_, ?_, ?_, ?_, ?_, ?_, ?_, ?_, ?_, ?_, ?_⟩
            · (try simp only [K_pi, K_pl])
              exact vk
            · (try simp only [Cn_pi_j22 hA, Cn_pl])
              exact vcn
            · (try simp only [Vq0_pi_j22 hA, Vq0_pl])
              exact v0
            · (try simp only [Vq1_pi_j22 hA, Vq1_pl])
              exact v1
            · (try simp only [Vq2_pi_j22 hA, Vq2_pl])
              exact v2
            · (try simp only [Vp_thr hA, Vp_pl])
              exact vp
            · (try simp only [Vl0_pi_j22 hA, Vl0_pl])
              exact vl0
            · (try simp only [Vl1_pi_j22 hA, Vl1_pl])
              exact vl1
            · (try simp only [Vlr_pi_j22 hA, Vlr_pl_j39 hA])
              exact vlr
            · (try simp only [Vsr_pi_j22 hA, Vsr_pl_j39 hA])
              exact vsr
            · (try simp only [Vc_pi_j22 hA, Vc_pl])
              exact vc
            · (try simp only [Tx_pi_j22 hA, Tx_pl])
              exact tx
          · skip
            simp only [↓ar_ite, ↓ar_ite2, ↓ar_ok, ↓reduceIte, o321_0, o321_1, o321_2, o321_3, o321_4, o321_7, o321_8, o321_11, o321_22, o321_23, o96_0, o96_1, o96_2, o96_5, o96_6, o96_7, o96_9, o96_12, o96_13, o96_113, o96_114, o96_117, o96_124, o96_125, o96_128, o228_0, o228_1, o228_2, o228_5, o228_12, o228_13, o228_14, o228_17, o228_18, o228_20, o228_27, o228_28, o228_31, o228_38, o228_39, o228_40, o228_41, o228_44, c_X8_isThrown_, c_X8_isLens, c_X5_checkChoice, c_lensOf_1, c_X7_rests, mc_pi, mc_pl, mc_pN, mn_pi, mn_pl, mn_pN, mi_pi, mi_pl, mi_pN, ml_pi, ml_pl, ml_pN, mr_pi, mr_pl, mt_pi, mt_pl, mz_pi, mz_pl, mz_pN, mcs_0, mcs_i, mcs_r, Kn_v, Kn_0, mrf_some, true_and, and_true, or_true, not_false_eq_true, implies_true, and_self, Nat.reduceEqDiff, Nat.reduceLeDiff, Nat.reduceSub, Nat.reduceAdd, Nat.zero_le, Nat.le_refl, i10, lt_le, Int32.reduceLT, cl0, cl1, cl2, cl3, cl4, cl5, cl6, cl7, cl8, cl9, Kc_v, Sum.inl.injEq, Option.some.injEq, Value.int.injEq, exists_eq_left', Nat.reduceLT, hAe, kc0, kc16, kc22, kc29, kc38, kc39, kn29, kr0_8, kr22_7, kr29_1, kz, be0, b1, b2, b3, b4, b5, b6, s0, hta, hzt, lne, lti, vpk, Int.reduceLT, or_self, o227_0, o227_1, o227_4, o227_5, o227_6, o227_7, o227_9, o227_11, o227_12, o227_13, o227_14, o227_17, o227_18, o227_19, o227_20, o227_21, o227_24, o227_25, o227_26, o227_27, o227_28, o227_31, o227_32, o227_33, o227_34, o227_35, o227_38, o227_39, o227_40, o227_41, o227_42, o227_45, o227_46, o227_47, o227_48, o227_49, o227_52, o227_59, o227_60, o227_61, o227_62, o227_64, o227_65, o227_68, o227_75, o227_76, o227_77, o227_78, o227_80, o227_81, o227_82, o227_83, o227_85, o227_86, o227_89, o227_96, o227_97, o227_100, o227_101, o227_103, o227_105, o227_106, o227_107, cl0, cl1]
            (try simp only [ite_ar, implies_true, true_and, and_true, Classical.not_not])
            first | refine ⟨Rl_F9 ?_, rfl⟩ | refine Rl_F9 ?_ | refine ⟨Rl_Fr ?_ (show Fr (p_i (p_l h (A 39) 0 _) (A 22) 9 0) _ from (Fr_pi (Fr_pi (Fr_pi (Fr_pi (Fr_pi (Fr_pi (Fr_pi (Fr_pi (Fr_pi (Fr_pN Fr_rfl) (Nat.le_refl _)) (Nat.le_refl _)) (Nat.le_refl _)) (Nat.le_refl _)) (Nat.le_refl _)) (Nat.le_refl _)) (Nat.le_refl _)) (Nat.le_refl _)) (Nat.le_refl _))), rfl⟩ | refine Rl_Fr ?_ (show Fr (p_i (p_l h (A 39) 0 _) (A 22) 9 0) _ from (Fr_pi (Fr_pi (Fr_pi (Fr_pi (Fr_pi (Fr_pi (Fr_pi (Fr_pi (Fr_pi (Fr_pN Fr_rfl) (Nat.le_refl _)) (Nat.le_refl _)) (Nat.le_refl _)) (Nat.le_refl _)) (Nat.le_refl _)) (Nat.le_refl _)) (Nat.le_refl _)) (Nat.le_refl _)) (Nat.le_refl _)))
            first | refine ⟨⟨?_, ?_, ?_, ?_, ?_, ?_, ?_, ?_, ?_, ?_, ?_, ?_⟩, rfl⟩ | refine ⟨?_, ?_, ?_, ?_, ?_, ?_, ?_, ?_, ?_, ?_, ?_, ?_⟩
            · (try simp only [K_pi, K_pl])
              exact vk
            · (try simp only [Cn_pi_j22 hA, Cn_pl])
              exact vcn
            · (try simp only [Vq0_pi_j22 hA, Vq0_pl])
              exact v0
            · (try simp only [Vq1_pi_j22 hA, Vq1_pl])
              exact v1
            · (try simp only [Vq2_pi_j22 hA, Vq2_pl])
              exact v2
            · (try simp only [Vp_thr hA, Vp_pl])
              exact vp
            · (try simp only [Vl0_pi_j22 hA, Vl0_pl])
              exact vl0
            · (try simp only [Vl1_pi_j22 hA, Vl1_pl])
              exact vl1
            · (try simp only [Vlr_pi_j22 hA, Vlr_pl_j39 hA])
              exact vlr
            · (try simp only [Vsr_pi_j22 hA, Vsr_pl_j39 hA])
              exact vsr
            · (try simp only [Vc_pi_j22 hA, Vc_pl])
              exact vc
            · (try simp only [Tx_pi_j22 hA, Tx_pl])
              exact tx
        · skip
          rcases x_cases bx0 (x_le bx9 (by decide)) with rfl | rfl | rfl | rfl | rfl | rfl | rfl | rfl | rfl
          · skip
            simp only [↓ar_ite, ↓ar_ite2, ↓ar_ok, ↓reduceIte, o321_0, o321_1, o321_2, o321_3, o321_4, o321_7, o321_8, o321_11, o321_22, o321_23, o96_0, o96_1, o96_2, o96_5, o96_6, o96_7, o96_9, o96_12, o96_13, o96_60, o96_61, o96_64, o228_0, o228_1, o228_2, o228_5, o228_12, o228_13, o228_14, o228_17, o228_18, o228_20, o228_27, o228_28, o228_31, o228_38, o228_39, o228_40, o228_41, o228_44, c_X8_isThrown_, c_X8_isLens, c_X5_checkChoice, c_lensOf_1, c_X7_rests, mc_pi, mc_pl, mc_pN, mn_pi, mn_pl, mn_pN, mi_pi, mi_pl, mi_pN, ml_pi, ml_pl, ml_pN, mr_pi, mr_pl, mt_pi, mt_pl, mz_pi, mz_pl, mz_pN, mcs_0, mcs_i, mcs_r, Kn_v, Kn_0, mrf_some, true_and, and_true, and_false, or_true, not_false_eq_true, implies_true, and_self, Nat.reduceEqDiff, Nat.reduceLeDiff, Nat.reduceSub, Nat.reduceAdd, Nat.zero_le, Nat.le_refl, i10, i01, lt_le, Int32.reduceLT, cl0, cl1, cl2, cl3, cl4, cl5, cl6, cl7, cl8, cl9, Kc_v, Sum.inl.injEq, Option.some.injEq, Value.int.injEq, exists_eq_left', Nat.reduceLT, hAe, kc0, kc16, kc22, kc29, kc38, kc39, kn29, kr0_8, kr22_7, kr29_1, kz, be0, b2, b3, b4, b5, b6, s0, hta, hzt, lne, lti, vpk, Int.reduceLT, or_self, o227_0, o227_1, o227_4, o227_5, o227_6, o227_7, o227_9, o227_11, o227_12, o227_13, o227_14, o227_17, o227_18, o227_19, o227_20, o227_21, o227_24, o227_25, o227_26, o227_27, o227_28, o227_31, o227_32, o227_33, o227_34, o227_35, o227_38, o227_39, o227_40, o227_41, o227_42, o227_45, o227_46, o227_47, o227_48, o227_49, o227_52, o227_55, o227_56, o227_60, o227_61, o227_62, o227_64, o227_65, o227_68, o227_71, o227_72, o227_76, o227_77, o227_78, o227_80, o227_81, o227_82, o227_83, o227_85, o227_86, o227_89, o227_92, o227_93, o227_100, o227_101, o227_103, o227_105, o227_106, o227_107, cl0, cl1]
            (try simp only [ite_ar, implies_true, true_and, and_true, Classical.not_not])
            first | refine ⟨Rl_F9 ?_, rfl⟩ | refine Rl_F9 ?_ | refine ⟨Rl_Fr ?_ (show Fr (p_i (p_l h (A 39) 0 _) (A 22) 9 0) _ from (Fr_pi (Fr_pi (Fr_pi (Fr_pi (Fr_pi (Fr_pi (Fr_pi (Fr_pi (Fr_pi (Fr_pN Fr_rfl) (Nat.le_refl _)) (Nat.le_refl _)) (Nat.le_refl _)) (Nat.le_refl _)) (Nat.le_refl _)) (Nat.le_refl _)) (Nat.le_refl _)) (Nat.le_refl _)) (Nat.le_refl _))), rfl⟩ | refine Rl_Fr ?_ (show Fr (p_i (p_l h (A 39) 0 _) (A 22) 9 0) _ from (Fr_pi (Fr_pi (Fr_pi (Fr_pi (Fr_pi (Fr_pi (Fr_pi (Fr_pi (Fr_pi (Fr_pN Fr_rfl) (Nat.le_refl _)) (Nat.le_refl _)) (Nat.le_refl _)) (Nat.le_refl _)) (Nat.le_refl _)) (Nat.le_refl _)) (Nat.le_refl _)) (Nat.le_refl _)) (Nat.le_refl _)))
            first | refine ⟨⟨?_, ?_, ?_, ?_, ?_, ?_, ?_, ?_, ?_, ?_, ?_, ?_⟩, rfl⟩ | refine ⟨?_, ?_, ?_, ?_, ?_, ?_, ?_, ?_, ?_, ?_, ?_, ?_⟩
            · (try simp only [K_pi, K_pl])
              exact vk
            · (try simp only [Cn_pi_j22 hA, Cn_pl])
              exact vcn
            · (try simp only [Vq0_pi_j22 hA, Vq0_pl])
              exact v0
            · (try simp only [Vq1_pi_j22 hA, Vq1_pl])
              exact v1
            · (try simp only [Vq2_pi_j22 hA, Vq2_pl])
              exact v2
            · (try simp only [Vp_thr hA, Vp_pl])
              exact vp
            · (try simp only [Vl0_pi_j22 hA, Vl0_pl])
              exact vl0
            · (try simp only [Vl1_pi_j22 hA, Vl1_pl])
              exact vl1
            · (try simp only [Vlr_pi_j22 hA, Vlr_pl_j39 hA])
              exact vlr
            · (try simp only [Vsr_pi_j22 hA, Vsr_pl_j39 hA])
              exact vsr
            · (try simp only [Vc_pi_j22 hA, Vc_pl])
              exact vc
            · (try simp only [Tx_pi_j22 hA, Tx_pl])
              exact tx
          · skip
            simp only [↓ar_ite, ↓ar_ite2, ↓ar_ok, ↓reduceIte, o321_0, o321_1, o321_2, o321_3, o321_4, o321_7, o321_8, o321_11, o321_22, o321_23, o96_0, o96_1, o96_2, o96_5, o96_6, o96_7, o96_9, o96_12, o96_13, o96_65, o96_66, o96_69, o228_0, o228_1, o228_2, o228_5, o228_12, o228_13, o228_14, o228_17, o228_18, o228_20, o228_27, o228_28, o228_31, o228_38, o228_39, o228_40, o228_41, o228_44, c_X8_isThrown_, c_X8_isLens, c_X5_checkChoice, c_lensOf_1, c_X7_rests, mc_pi, mc_pl, mc_pN, mn_pi, mn_pl, mn_pN, mi_pi, mi_pl, mi_pN, ml_pi, ml_pl, ml_pN, mr_pi, mr_pl, mt_pi, mt_pl, mz_pi, mz_pl, mz_pN, mcs_0, mcs_i, mcs_r, Kn_v, Kn_0, mrf_some, true_and, and_true, and_false, or_true, not_false_eq_true, implies_true, and_self, Nat.reduceEqDiff, Nat.reduceLeDiff, Nat.reduceSub, Nat.reduceAdd, Nat.zero_le, Nat.le_refl, i10, lt_le, Int32.reduceLT, cl0, cl1, cl2, cl3, cl4, cl5, cl6, cl7, cl8, cl9, Kc_v, Sum.inl.injEq, Option.some.injEq, Value.int.injEq, exists_eq_left', Nat.reduceLT, hAe, kc0, kc16, kc22, kc29, kc38, kc39, kn29, kr0_8, kr22_7, kr29_1, kz, be0, b2, b3, b4, b5, b6, s0, hta, hzt, lne, lti, vpk, Int.reduceLT, or_self, o227_0, o227_1, o227_4, o227_5, o227_6, o227_7, o227_9, o227_11, o227_12, o227_13, o227_14, o227_17, o227_18, o227_19, o227_20, o227_21, o227_24, o227_25, o227_26, o227_27, o227_28, o227_31, o227_32, o227_33, o227_34, o227_35, o227_38, o227_39, o227_40, o227_41, o227_42, o227_45, o227_46, o227_47, o227_48, o227_49, o227_52, o227_55, o227_56, o227_60, o227_61, o227_62, o227_64, o227_65, o227_68, o227_71, o227_72, o227_76, o227_77, o227_78, o227_80, o227_81, o227_82, o227_83, o227_85, o227_86, o227_89, o227_92, o227_93, o227_100, o227_101, o227_103, o227_105, o227_106, o227_107, cl0, cl1]
            (try simp only [ite_ar, implies_true, true_and, and_true, Classical.not_not])
            first | refine ⟨Rl_F9 ?_, rfl⟩ | refine Rl_F9 ?_ | refine ⟨Rl_Fr ?_ (show Fr (p_i (p_l h (A 39) 0 _) (A 22) 9 0) _ from (Fr_pi (Fr_pi (Fr_pi (Fr_pi (Fr_pi (Fr_pi (Fr_pi (Fr_pi (Fr_pi (Fr_pN Fr_rfl) (Nat.le_refl _)) (Nat.le_refl _)) (Nat.le_refl _)) (Nat.le_refl _)) (Nat.le_refl _)) (Nat.le_refl _)) (Nat.le_refl _)) (Nat.le_refl _)) (Nat.le_refl _))), rfl⟩ | refine Rl_Fr ?_ (show Fr (p_i (p_l h (A 39) 0 _) (A 22) 9 0) _ from (Fr_pi (Fr_pi (Fr_pi (Fr_pi (Fr_pi (Fr_pi (Fr_pi (Fr_pi (Fr_pi (Fr_pN Fr_rfl) (Nat.le_refl _)) (Nat.le_refl _)) (Nat.le_refl _)) (Nat.le_refl _)) (Nat.le_refl _)) (Nat.le_refl _)) (Nat.le_refl _)) (Nat.le_refl _)) (Nat.le_refl _)))
            first | refine ⟨⟨?_, ?_, ?_, ?_, ?_, ?_, ?_, ?_, ?_, ?_, ?_, ?_⟩, rfl⟩ | refine ⟨?_, ?_, ?_, ?_, ?_, ?_, ?_, ?_, ?_, ?_, ?_, ?_⟩
            · (try simp only [K_pi, K_pl])
              exact vk
            · (try simp only [Cn_pi_j22 hA, Cn_pl])
              exact vcn
            · (try simp only [Vq0_pi_j22 hA, Vq0_pl])
              exact v0
            · (try simp only [Vq1_pi_j22 hA, Vq1_pl])
              exact v1
            · (try simp only [Vq2_pi_j22 hA, Vq2_pl])
              exact v2
            · (try simp only [Vp_thr hA, Vp_pl])
              exact vp
            · (try simp only [Vl0_pi_j22 hA, Vl0_pl])
              exact vl0
            · (try simp only [Vl1_pi_j22 hA, Vl1_pl])
              exact vl1
            · (try simp only [Vlr_pi_j22 hA, Vlr_pl_j39 hA])
              exact vlr
            · (try simp only [Vsr_pi_j22 hA, Vsr_pl_j39 hA])
              exact vsr
            · (try simp only [Vc_pi_j22 hA, Vc_pl])
              exact vc
            · (try simp only [Tx_pi_j22 hA, Tx_pl])
              exact tx
          · skip
            simp only [↓ar_ite, ↓ar_ite2, ↓ar_ok, ↓reduceIte, o321_0, o321_1, o321_2, o321_3, o321_4, o321_7, o321_8, o321_11, o321_22, o321_23, o96_0, o96_1, o96_2, o96_5, o96_6, o96_7, o96_9, o96_12, o96_13, o96_70, o96_71, o96_74, o228_0, o228_1, o228_2, o228_5, o228_12, o228_13, o228_14, o228_17, o228_18, o228_20, o228_27, o228_28, o228_31, o228_38, o228_39, o228_40, o228_41, o228_44, c_X8_isThrown_, c_X8_isLens, c_X5_checkChoice, c_lensOf_1, c_X7_rests, mc_pi, mc_pl, mc_pN, mn_pi, mn_pl, mn_pN, mi_pi, mi_pl, mi_pN, ml_pi, ml_pl, ml_pN, mr_pi, mr_pl, mt_pi, mt_pl, mz_pi, mz_pl, mz_pN, mcs_0, mcs_i, mcs_r, Kn_v, Kn_0, mrf_some, true_and, and_true, and_false, or_true, not_false_eq_true, implies_true, and_self, Nat.reduceEqDiff, Nat.reduceLeDiff, Nat.reduceSub, Nat.reduceAdd, Nat.zero_le, Nat.le_refl, i10, lt_le, Int32.reduceLT, cl0, cl1, cl2, cl3, cl4, cl5, cl6, cl7, cl8, cl9, Kc_v, Sum.inl.injEq, Option.some.injEq, Value.int.injEq, exists_eq_left', Nat.reduceLT, hAe, i20, kc0, kc16, kc22, kc29, kc38, kc39, kn29, kr0_8, kr22_7, kr29_1, kz, be0, b2, b3, b4, b5, b6, s0, hta, hzt, lne, lti, vpk, Int.reduceLT, or_self, o227_0, o227_1, o227_4, o227_5, o227_6, o227_7, o227_9, o227_11, o227_12, o227_13, o227_14, o227_17, o227_18, o227_19, o227_20, o227_21, o227_24, o227_25, o227_26, o227_27, o227_28, o227_31, o227_32, o227_33, o227_34, o227_35, o227_38, o227_39, o227_40, o227_41, o227_42, o227_45, o227_46, o227_47, o227_48, o227_49, o227_52, o227_55, o227_56, o227_60, o227_61, o227_62, o227_64, o227_65, o227_68, o227_71, o227_72, o227_76, o227_77, o227_78, o227_80, o227_81, o227_82, o227_83, o227_85, o227_86, o227_89, o227_92, o227_93, o227_100, o227_101, o227_103, o227_105, o227_106, o227_107, cl0, cl1]
            (try simp only [ite_ar, implies_true, true_and, and_true, Classical.not_not])
            first | refine ⟨Rl_F9 ?_, rfl⟩ | refine Rl_F9 ?_ | refine ⟨Rl_Fr ?_ (show Fr (p_i (p_l h (A 39) 0 _) (A 22) 9 0) _ from (Fr_pi (Fr_pi (Fr_pi (Fr_pi (Fr_pi (Fr_pi (Fr_pi (Fr_pi (Fr_pi (Fr_pN Fr_rfl) (Nat.le_refl _)) (Nat.le_refl _)) (Nat.le_refl _)) (Nat.le_refl _)) (Nat.le_refl _)) (Nat.le_refl _)) (Nat.le_refl _)) (Nat.le_refl _)) (Nat.le_refl _))), rfl⟩ | refine Rl_Fr ?_ (show Fr (p_i (p_l h (A 39) 0 _) (A 22) 9 0) _ from (Fr_pi (Fr_pi (Fr_pi (Fr_pi (Fr_pi (Fr_pi (Fr_pi (Fr_pi (Fr_pi (Fr_pN Fr_rfl) (Nat.le_refl _)) (Nat.le_refl _)) (Nat.le_refl _)) (Nat.le_refl _)) (Nat.le_refl _)) (Nat.le_refl _)) (Nat.le_refl _)) (Nat.le_refl _)) (Nat.le_refl _)))
            first | refine ⟨⟨?_, ?_, ?_, ?_, ?_, ?_, ?_, ?_, ?_, ?_, ?_, ?_⟩, rfl⟩ | refine ⟨?_, ?_, ?_, ?_, ?_, ?_, ?_, ?_, ?_, ?_, ?_, ?_⟩
            · (try simp only [K_pi, K_pl])
              exact vk
            · (try simp only [Cn_pi_j22 hA, Cn_pl])
              exact vcn
            · (try simp only [Vq0_pi_j22 hA, Vq0_pl])
              exact v0
            · (try simp only [Vq1_pi_j22 hA, Vq1_pl])
              exact v1
            · (try simp only [Vq2_pi_j22 hA, Vq2_pl])
              exact v2
            · (try simp only [Vp_thr hA, Vp_pl])
              exact vp
            · (try simp only [Vl0_pi_j22 hA, Vl0_pl])
              exact vl0
            · (try simp only [Vl1_pi_j22 hA, Vl1_pl])
              exact vl1
            · (try simp only [Vlr_pi_j22 hA, Vlr_pl_j39 hA])
              exact vlr
            · (try simp only [Vsr_pi_j22 hA, Vsr_pl_j39 hA])
              exact vsr
            · (try simp only [Vc_pi_j22 hA, Vc_pl])
              exact vc
            · (try simp only [Tx_pi_j22 hA, Tx_pl])
              exact tx
          · skip
            simp only [↓ar_ite, ↓ar_ite2, ↓ar_ok, ↓reduceIte, o321_0, o321_1, o321_2, o321_3, o321_4, o321_7, o321_8, o321_11, o321_22, o321_23, o96_0, o96_1, o96_2, o96_5, o96_6, o96_7, o96_9, o96_12, o96_13, o96_75, o96_76, o96_79, o228_0, o228_1, o228_2, o228_5, o228_12, o228_13, o228_14, o228_17, o228_18, o228_20, o228_27, o228_28, o228_31, o228_38, o228_39, o228_40, o228_41, o228_44, c_X8_isThrown_, c_X8_isLens, c_X5_checkChoice, c_lensOf_1, c_X3_rests, c_X7_rests, mc_pi, mc_pl, mc_pN, mn_pi, mn_pl, mn_pN, mi_pi, mi_pl, mi_pN, ml_pi, ml_pl, ml_pN, mr_pi, mr_pl, mt_pi, mt_pl, mz_pi, mz_pl, mz_pN, mcs_0, mcs_i, mcs_r, Kn_v, Kn_0, mrf_some, true_and, and_true, and_false, or_true, not_false_eq_true, implies_true, and_self, Nat.reduceEqDiff, Nat.reduceLeDiff, Nat.reduceSub, Nat.reduceAdd, Nat.zero_le, Nat.le_refl, i10, lt_le, Int32.reduceLT, cl0, cl1, cl2, cl3, cl4, cl5, cl6, cl7, cl8, cl9, Kc_v, Sum.inl.injEq, Option.some.injEq, Value.int.injEq, exists_eq_left', Nat.reduceLT, hAe, i30, kc0, kc16, kc22, kc29, kc38, kc39, kn29, kr0_8, kr22_7, kr29_1, kz, be0, b2, b3, b4, b5, b6, s0, hta, hzt, lne, lti, vpk, Int.reduceLT, or_self, o227_0, o227_1, o227_4, o227_5, o227_6, o227_7, o227_9, o227_11, o227_12, o227_13, o227_14, o227_17, o227_18, o227_19, o227_20, o227_21, o227_24, o227_25, o227_26, o227_27, o227_28, o227_31, o227_32, o227_33, o227_34, o227_35, o227_38, o227_39, o227_40, o227_41, o227_42, o227_45, o227_46, o227_47, o227_48, o227_49, o227_52, o227_55, o227_56, o227_60, o227_61, o227_62, o227_64, o227_65, o227_68, o227_71, o227_72, o227_76, o227_77, o227_78, o227_80, o227_81, o227_82, o227_83, o227_85, o227_86, o227_89, o227_92, o227_93, o227_100, o227_101, o227_103, o227_105, o227_106, o227_107, cl0, cl1]
            (try simp only [ite_ar, implies_true, true_and, and_true, Classical.not_not])
            first | refine ⟨Rl_F9 ?_, rfl⟩ | refine Rl_F9 ?_ | refine ⟨Rl_Fr ?_ (show Fr (p_i (p_l h (A 39) 0 _) (A 22) 9 0) _ from (Fr_pi (Fr_pi (Fr_pi (Fr_pi (Fr_pi (Fr_pi (Fr_pi (Fr_pi (Fr_pi (Fr_pN Fr_rfl) (Nat.le_refl _)) (Nat.le_refl _)) (Nat.le_refl _)) (Nat.le_refl _)) (Nat.le_refl _)) (Nat.le_refl _)) (Nat.le_refl _)) (Nat.le_refl _)) (Nat.le_refl _))), rfl⟩ | refine Rl_Fr ?_ (show Fr (p_i (p_l h (A 39) 0 _) (A 22) 9 0) _ from (Fr_pi (Fr_pi (Fr_pi (Fr_pi (Fr_pi (Fr_pi (Fr_pi (Fr_pi (Fr_pi (Fr_pN Fr_rfl) (Nat.le_refl _)) (Nat.le_refl _)) (Nat.le_refl _)) (Nat.le_refl _)) (Nat.le_refl _)) (Nat.le_refl _)) (Nat.le_refl _)) (Nat.le_refl _)) (Nat.le_refl _)))
            first | refine ⟨⟨?_, ?_, ?_, ?_, ?_, ?_, ?_, ?_, ?_, ?_, ?_, ?_⟩, rfl⟩ | refine ⟨?_, ?_, ?_, ?_, ?_, ?_, ?_, ?_, ?_, ?_, ?_, ?_⟩
            · (try simp only [K_pi, K_pl])
              exact vk
            · (try simp only [Cn_pi_j22 hA, Cn_pl])
              exact vcn
            · (try simp only [Vq0_pi_j22 hA, Vq0_pl])
              exact v0
            · (try simp only [Vq1_pi_j22 hA, Vq1_pl])
              exact v1
            · (try simp only [Vq2_pi_j22 hA, Vq2_pl])
              exact v2
            · (try simp only [Vp_thr hA, Vp_pl])
              exact vp
            · (try simp only [Vl0_pi_j22 hA, Vl0_pl])
              exact vl0
            · (try simp only [Vl1_pi_j22 hA, Vl1_pl])
              exact vl1
            · (try simp only [Vlr_pi_j22 hA, Vlr_pl_j39 hA])
              exact vlr
            · (try simp only [Vsr_pi_j22 hA, Vsr_pl_j39 hA])
              exact vsr
            · (try simp only [Vc_pi_j22 hA, Vc_pl])
              exact vc
            · (try simp only [Tx_pi_j22 hA, Tx_pl])
              exact tx
          · skip
            simp only [↓ar_ite, ↓ar_ite2, ↓ar_ok, ↓reduceIte, o321_0, o321_1, o321_2, o321_3, o321_4, o321_7, o321_8, o321_11, o321_22, o321_23, o96_0, o96_1, o96_2, o96_5, o96_6, o96_7, o96_9, o96_12, o96_13, o96_80, o96_81, o96_84, o228_0, o228_1, o228_2, o228_5, o228_12, o228_13, o228_14, o228_17, o228_18, o228_20, o228_27, o228_28, o228_31, o228_38, o228_39, o228_40, o228_41, o228_44, c_X8_isThrown_, c_X8_isLens, c_X5_checkChoice, c_lensOf_1, c_X7_rests, mc_pi, mc_pl, mc_pN, mn_pi, mn_pl, mn_pN, mi_pi, mi_pl, mi_pN, ml_pi, ml_pl, ml_pN, mr_pi, mr_pl, mt_pi, mt_pl, mz_pi, mz_pl, mz_pN, mcs_0, mcs_i, mcs_r, Kn_v, Kn_0, mrf_some, true_and, and_true, and_false, or_true, not_false_eq_true, implies_true, and_self, Nat.reduceEqDiff, Nat.reduceLeDiff, Nat.reduceSub, Nat.reduceAdd, Nat.zero_le, Nat.le_refl, i10, lt_le, Int32.reduceLT, cl0, cl1, cl2, cl3, cl4, cl5, cl6, cl7, cl8, cl9, Kc_v, Sum.inl.injEq, Option.some.injEq, Value.int.injEq, exists_eq_left', Nat.reduceLT, hAe, kc0, kc16, kc22, kc29, kc38, kc39, kn29, kr0_8, kr22_7, kr29_1, kz, be0, b2, b3, b4, b5, b6, s0, hta, hzt, lne, lti, vpk, Int.reduceLT, or_self, o227_0, o227_1, o227_4, o227_5, o227_6, o227_7, o227_9, o227_11, o227_12, o227_13, o227_14, o227_17, o227_18, o227_19, o227_20, o227_21, o227_24, o227_25, o227_26, o227_27, o227_28, o227_31, o227_32, o227_33, o227_34, o227_35, o227_38, o227_39, o227_40, o227_41, o227_42, o227_45, o227_46, o227_47, o227_48, o227_49, o227_52, o227_55, o227_56, o227_60, o227_61, o227_62, o227_64, o227_65, o227_68, o227_71, o227_72, o227_76, o227_77, o227_78, o227_80, o227_81, o227_82, o227_83, o227_85, o227_86, o227_89, o227_92, o227_93, o227_100, o227_101, o227_103, o227_105, o227_106, o227_107, cl0, cl1]
            (try simp only [ite_ar, implies_true, true_and, and_true, Classical.not_not])
            first | refine ⟨Rl_F9 ?_, rfl⟩ | refine Rl_F9 ?_ | refine ⟨Rl_Fr ?_ (show Fr (p_i (p_l h (A 39) 0 _) (A 22) 9 0) _ from (Fr_pi (Fr_pi (Fr_pi (Fr_pi (Fr_pi (Fr_pi (Fr_pi (Fr_pi (Fr_pi (Fr_pN Fr_rfl) (Nat.le_refl _)) (Nat.le_refl _)) (Nat.le_refl _)) (Nat.le_refl _)) (Nat.le_refl _)) (Nat.le_refl _)) (Nat.le_refl _)) (Nat.le_refl _)) (Nat.le_refl _))), rfl⟩ | refine Rl_Fr ?_ (show Fr (p_i (p_l h (A 39) 0 _) (A 22) 9 0) _ from (Fr_pi (Fr_pi (Fr_pi (Fr_pi (Fr_pi (Fr_pi (Fr_pi (Fr_pi (Fr_pi (Fr_pN Fr_rfl) (Nat.le_refl _)) (Nat.le_refl _)) (Nat.le_refl _)) (Nat.le_refl _)) (Nat.le_refl _)) (Nat.le_refl _)) (Nat.le_refl _)) (Nat.le_refl _)) (Nat.le_refl _)))
            first | refine ⟨⟨?_, ?_, ?_, ?_, ?_, ?_, ?_, ?_, ?_, ?_, ?_, ?_⟩, rfl⟩ | refine ⟨?_, ?_, ?_, ?_, ?_, ?_, ?_, ?_, ?_, ?_, ?_, ?_⟩
            · (try simp only [K_pi, K_pl])
              exact vk
            · (try simp only [Cn_pi_j22 hA, Cn_pl])
              exact vcn
            · (try simp only [Vq0_pi_j22 hA, Vq0_pl])
              exact v0
            · (try simp only [Vq1_pi_j22 hA, Vq1_pl])
              exact v1
            · (try simp only [Vq2_pi_j22 hA, Vq2_pl])
              exact v2
            · (try simp only [Vp_thr hA, Vp_pl])
              exact vp
            · (try simp only [Vl0_pi_j22 hA, Vl0_pl])
              exact vl0
            · (try simp only [Vl1_pi_j22 hA, Vl1_pl])
              exact vl1
            · (try simp only [Vlr_pi_j22 hA, Vlr_pl_j39 hA])
              exact vlr
            · (try simp only [Vsr_pi_j22 hA, Vsr_pl_j39 hA])
              exact vsr
            · (try simp only [Vc_pi_j22 hA, Vc_pl])
              exact vc
            · (try simp only [Tx_pi_j22 hA, Tx_pl])
              exact tx
          · skip
            simp only [↓ar_ite, ↓ar_ite2, ↓ar_ok, ↓reduceIte, o321_0, o321_1, o321_2, o321_3, o321_4, o321_7, o321_8, o321_11, o321_22, o321_23, o96_0, o96_1, o96_2, o96_5, o96_6, o96_7, o96_9, o96_12, o96_13, o96_85, o96_86, o96_89, o96_92, o96_93, o96_97, o228_0, o228_1, o228_2, o228_5, o228_12, o228_13, o228_14, o228_17, o228_18, o228_20, o228_27, o228_28, o228_31, o228_38, o228_39, o228_40, o228_41, o228_44, c_X8_isThrown_, c_X8_isLens, c_X5_checkChoice, c_lensOf_1, c_X7_rests, mc_pi, mc_pl, mc_pN, mn_pi, mn_pl, mn_pN, mi_pi, mi_pl, mi_pN, ml_pi, ml_pl, ml_pN, mr_pi, mr_pl, mt_pi, mt_pl, mz_pi, mz_pl, mz_pN, mcs_0, mcs_i, mcs_r, Kn_v, Kn_0, mrf_some, true_and, and_true, and_false, or_true, not_false_eq_true, implies_true, and_self, Nat.reduceEqDiff, Nat.reduceLeDiff, Nat.reduceSub, Nat.reduceAdd, Nat.zero_le, Nat.le_refl, i10, lt_le, Int32.reduceLT, cl0, cl1, cl2, cl3, cl4, cl5, cl6, cl7, cl8, cl9, Kc_v, Sum.inl.injEq, Option.some.injEq, Value.int.injEq, exists_eq_left', Nat.reduceLT, hAe, kc0, kc16, kc22, kc29, kc38, kc39, kn29, kr0_8, kr22_7, kr29_1, kz, be0, b2, b3, b4, b5, b6, s0, hta, hzt, lne, lti, vpk, Int.reduceLT, or_self, o227_0, o227_1, o227_4, o227_5, o227_6, o227_7, o227_9, o227_11, o227_12, o227_13, o227_14, o227_17, o227_18, o227_19, o227_20, o227_21, o227_24, o227_25, o227_26, o227_27, o227_28, o227_31, o227_32, o227_33, o227_34, o227_35, o227_38, o227_39, o227_40, o227_41, o227_42, o227_45, o227_46, o227_47, o227_48, o227_49, o227_52, o227_55, o227_56, o227_60, o227_61, o227_62, o227_64, o227_65, o227_68, o227_71, o227_72, o227_76, o227_77, o227_78, o227_80, o227_81, o227_82, o227_83, o227_85, o227_86, o227_89, o227_92, o227_93, o227_100, o227_101, o227_103, o227_105, o227_106, o227_107, cl0, cl1]
            (try simp only [ite_ar, implies_true, true_and, and_true, Classical.not_not])
            first | refine ⟨Rl_F9 ?_, rfl⟩ | refine Rl_F9 ?_ | refine ⟨Rl_Fr ?_ (show Fr (p_i (p_l h (A 39) 0 _) (A 22) 9 0) _ from (Fr_pi (Fr_pi (Fr_pi (Fr_pi (Fr_pi (Fr_pi (Fr_pi (Fr_pi (Fr_pi (Fr_pN Fr_rfl) (Nat.le_refl _)) (Nat.le_refl _)) (Nat.le_refl _)) (Nat.le_refl _)) (Nat.le_refl _)) (Nat.le_refl _)) (Nat.le_refl _)) (Nat.le_refl _)) (Nat.le_refl _))), rfl⟩ | refine Rl_Fr ?_ (show Fr (p_i (p_l h (A 39) 0 _) (A 22) 9 0) _ from (Fr_pi (Fr_pi (Fr_pi (Fr_pi (Fr_pi (Fr_pi (Fr_pi (Fr_pi (Fr_pi (Fr_pN Fr_rfl) (Nat.le_refl _)) (Nat.le_refl _)) (Nat.le_refl _)) (Nat.le_refl _)) (Nat.le_refl _)) (Nat.le_refl _)) (Nat.le_refl _)) (Nat.le_refl _)) (Nat.le_refl _)))
            first | refine ⟨⟨?_, ?_, ?_, ?_, ?_, ?_, ?_, ?_, ?_, ?_, ?_, ?_⟩, rfl⟩ | refine ⟨?_, ?_, ?_, ?_, ?_, ?_, ?_, ?_, ?_, ?_, ?_, ?_⟩
            · (try simp only [K_pi, K_pl])
              exact vk
            · (try simp only [Cn_pi_j22 hA, Cn_pl])
              exact vcn
            · (try simp only [Vq0_pi_j22 hA, Vq0_pl])
              exact v0
            · (try simp only [Vq1_pi_j22 hA, Vq1_pl])
              exact v1
            · (try simp only [Vq2_pi_j22 hA, Vq2_pl])
              exact v2
            · (try simp only [Vp_thr hA, Vp_pl])
              exact vp
            · (try simp only [Vl0_pi_j22 hA, Vl0_pl])
              exact vl0
            · (try simp only [Vl1_pi_j22 hA, Vl1_pl])
              exact vl1
            · (try simp only [Vlr_pi_j22 hA, Vlr_pl_j39 hA])
              exact vlr
            · (try simp only [Vsr_pi_j22 hA, Vsr_pl_j39 hA])
              exact vsr
            · (try simp only [Vc_pi_j22 hA, Vc_pl])
              exact vc
            · (try simp only [Tx_pi_j22 hA, Tx_pl])
              exact tx
          · skip
            simp only [↓ar_ite, ↓ar_ite2, ↓ar_ok, ↓reduceIte, o321_0, o321_1, o321_2, o321_3, o321_4, o321_7, o321_8, o321_11, o321_22, o321_23, o96_0, o96_1, o96_2, o96_5, o96_6, o96_7, o96_9, o96_12, o96_13, o96_98, o96_99, o96_102, o96_105, o96_106, o96_110, o228_0, o228_1, o228_2, o228_5, o228_12, o228_13, o228_14, o228_17, o228_18, o228_20, o228_27, o228_28, o228_31, o228_38, o228_39, o228_40, o228_41, o228_44, c_X8_isThrown_, c_X8_isLens, c_X5_checkChoice, c_lensOf_1, c_X7_rests, mc_pi, mc_pl, mc_pN, mn_pi, mn_pl, mn_pN, mi_pi, mi_pl, mi_pN, ml_pi, ml_pl, ml_pN, mr_pi, mr_pl, mt_pi, mt_pl, mz_pi, mz_pl, mz_pN, mcs_0, mcs_i, mcs_r, Kn_v, Kn_0, mrf_some, true_and, and_true, and_false, or_true, not_false_eq_true, implies_true, and_self, Nat.reduceEqDiff, Nat.reduceLeDiff, Nat.reduceSub, Nat.reduceAdd, Nat.zero_le, Nat.le_refl, i10, lt_le, Int32.reduceLT, cl0, cl1, cl2, cl3, cl4, cl5, cl6, cl7, cl8, cl9, Kc_v, Sum.inl.injEq, Option.some.injEq, Value.int.injEq, exists_eq_left', Nat.reduceLT, hAe, kc0, kc16, kc22, kc29, kc38, kc39, kn29, kr0_8, kr22_7, kr29_1, kz, be0, b2, b3, b4, b5, b6, s0, hta, hzt, lne, lti, vpk, Int.reduceLT, or_self, o227_0, o227_1, o227_4, o227_5, o227_6, o227_7, o227_9, o227_11, o227_12, o227_13, o227_14, o227_17, o227_18, o227_19, o227_20, o227_21, o227_24, o227_25, o227_26, o227_27, o227_28, o227_31, o227_32, o227_33, o227_34, o227_35, o227_38, o227_39, o227_40, o227_41, o227_42, o227_45, o227_46, o227_47, o227_48, o227_49, o227_52, o227_55, o227_56, o227_60, o227_61, o227_62, o227_64, o227_65, o227_68, o227_71, o227_72, o227_76, o227_77, o227_78, o227_80, o227_81, o227_82, o227_83, o227_85, o227_86, o227_89, o227_92, o227_93, o227_100, o227_101, o227_103, o227_105, o227_106, o227_107, cl0, cl1]
            (try simp only [ite_ar, implies_true, true_and, and_true, Classical.not_not])
            first | refine ⟨Rl_F9 ?_, rfl⟩ | refine Rl_F9 ?_ | refine ⟨Rl_Fr ?_ (show Fr (p_i (p_l h (A 39) 0 _) (A 22) 9 0) _ from (Fr_pi (Fr_pi (Fr_pi (Fr_pi (Fr_pi (Fr_pi (Fr_pi (Fr_pi (Fr_pi (Fr_pN Fr_rfl) (Nat.le_refl _)) (Nat.le_refl _)) (Nat.le_refl _)) (Nat.le_refl _)) (Nat.le_refl _)) (Nat.le_refl _)) (Nat.le_refl _)) (Nat.le_refl _)) (Nat.le_refl _))), rfl⟩ | refine Rl_Fr ?_ (show Fr (p_i (p_l h (A 39) 0 _) (A 22) 9 0) _ from (Fr_pi (Fr_pi (Fr_pi (Fr_pi (Fr_pi (Fr_pi (Fr_pi (Fr_pi (Fr_pi (Fr_pN Fr_rfl) (Nat.le_refl _)) (Nat.le_refl _)) (Nat.le_refl _)) (Nat.le_refl _)) (Nat.le_refl _)) (Nat.le_refl _)) (Nat.le_refl _)) (Nat.le_refl _)) (Nat.le_refl _)))
            first | refine ⟨⟨?_, ?_, ?_, ?_, ?_, ?_, ?_, ?_, ?_, ?_, ?_, ?_⟩, rfl⟩ | refine ⟨?_, ?_, ?_, ?_, ?_, ?_, ?_, ?_, ?_, ?_, ?_, ?_⟩
            · (try simp only [K_pi, K_pl])
              exact vk
            · (try simp only [Cn_pi_j22 hA, Cn_pl])
              exact vcn
            · (try simp only [Vq0_pi_j22 hA, Vq0_pl])
              exact v0
            · (try simp only [Vq1_pi_j22 hA, Vq1_pl])
              exact v1
            · (try simp only [Vq2_pi_j22 hA, Vq2_pl])
              exact v2
            · (try simp only [Vp_thr hA, Vp_pl])
              exact vp
            · (try simp only [Vl0_pi_j22 hA, Vl0_pl])
              exact vl0
            · (try simp only [Vl1_pi_j22 hA, Vl1_pl])
              exact vl1
            · (try simp only [Vlr_pi_j22 hA, Vlr_pl_j39 hA])
              exact vlr
            · (try simp only [Vsr_pi_j22 hA, Vsr_pl_j39 hA])
              exact vsr
            · (try simp only [Vc_pi_j22 hA, Vc_pl])
              exact vc
            · (try simp only [Tx_pi_j22 hA, Tx_pl])
              exact tx
          · skip
            simp only [↓ar_ite, ↓ar_ite2, ↓ar_ok, ↓reduceIte, o321_0, o321_1, o321_2, o321_3, o321_4, o321_7, o321_8, o321_11, o321_22, o321_23, o96_0, o96_1, o96_2, o96_5, o96_6, o96_7, o96_9, o96_12, o96_13, o96_111, o96_112, o228_0, o228_1, o228_2, o228_5, o228_12, o228_13, o228_14, o228_17, o228_18, o228_20, o228_27, o228_28, o228_31, o228_38, o228_39, o228_40, o228_41, o228_44, c_X8_isThrown_, c_X8_isLens, c_X5_checkChoice, c_lensOf_1, c_X7_rests, mc_pi, mc_pl, mc_pN, mn_pi, mn_pl, mn_pN, mi_pi, mi_pl, mi_pN, ml_pi, ml_pl, ml_pN, mr_pi, mr_pl, mt_pi, mt_pl, mz_pi, mz_pl, mz_pN, mcs_0, mcs_i, mcs_r, Kn_v, Kn_0, mrf_some, true_and, and_true, and_false, or_true, not_false_eq_true, implies_true, and_self, Nat.reduceEqDiff, Nat.reduceLeDiff, Nat.reduceSub, Nat.reduceAdd, Nat.zero_le, Nat.le_refl, i10, lt_le, Int32.reduceLT, cl0, cl1, cl2, cl3, cl4, cl5, cl6, cl7, cl8, cl9, Kc_v, Sum.inl.injEq, Option.some.injEq, Value.int.injEq, exists_eq_left', Nat.reduceLT, hAe, kc0, kc22, kc29, kc38, kc39, kn29, kr0_8, kr22_7, kr29_1, kz, be0, b2, b3, b4, b5, b6, s0, hta, hzt, lne, lti, vpk, Int.reduceLT, or_self, o227_0, o227_1, o227_4, o227_5, o227_6, o227_7, o227_9, o227_11, o227_12, o227_13, o227_14, o227_17, o227_18, o227_19, o227_20, o227_21, o227_24, o227_25, o227_26, o227_27, o227_28, o227_31, o227_32, o227_33, o227_34, o227_35, o227_38, o227_39, o227_40, o227_41, o227_42, o227_45, o227_46, o227_47, o227_48, o227_49, o227_52, o227_55, o227_56, o227_60, o227_61, o227_62, o227_64, o227_65, o227_68, o227_71, o227_72, o227_76, o227_77, o227_78, o227_80, o227_81, o227_82, o227_83, o227_85, o227_86, o227_89, o227_92, o227_93, o227_100, o227_101, o227_103, o227_105, o227_106, o227_107, cl0, cl1]
            (try simp only [ite_ar, implies_true, true_and, and_true, Classical.not_not])
            first | refine ⟨Rl_F9 ?_, rfl⟩ | refine Rl_F9 ?_ | refine ⟨Rl_Fr ?_ (show Fr (p_i (p_l h (A 39) 0 _) (A 22) 9 0) _ from (Fr_pi (Fr_pi (Fr_pi (Fr_pi (Fr_pi (Fr_pi (Fr_pi (Fr_pi (Fr_pi (Fr_pN Fr_rfl) (Nat.le_refl _)) (Nat.le_refl _)) (Nat.le_refl _)) (Nat.le_refl _)) (Nat.le_refl _)) (Nat.le_refl _)) (Nat.le_refl _)) (Nat.le_refl _)) (Nat.le_refl _))), rfl⟩ | refine Rl_Fr ?_ (show Fr (p_i (p_l h (A 39) 0 _) (A 22) 9 0) _ from (Fr_pi (Fr_pi (Fr_pi (Fr_pi (Fr_pi (Fr_pi (Fr_pi (Fr_pi (Fr_pi (Fr_pN Fr_rfl) (Nat.le_refl _)) (Nat.le_refl _)) (Nat.le_refl _)) (Nat.le_refl _)) (Nat.le_refl _)) (Nat.le_refl _)) (Nat.le_refl _)) (Nat.le_refl _)) (Nat.le_refl _)))
            first | refine ⟨⟨?_, ?_, ?_, ?_, ?_, ?_, ?_, ?_, ?_, ?_, ?_, ?_⟩, rfl⟩ | refine ⟨?_, ?_, ?_, ?_, ?_, ?_, ?_, ?_, ?_, ?_, ?_, ?_⟩
            · (try simp only [K_pi, K_pl])
              exact vk
            · (try simp only [Cn_pi_j22 hA, Cn_pl])
              exact vcn
            · (try simp only [Vq0_pi_j22 hA, Vq0_pl])
              exact v0
            · (try simp only [Vq1_pi_j22 hA, Vq1_pl])
              exact v1
            · (try simp only [Vq2_pi_j22 hA, Vq2_pl])
              exact v2
            · (try simp only [Vp_thr hA, Vp_pl])
              exact vp
            · (try simp only [Vl0_pi_j22 hA, Vl0_pl])
              exact vl0
            · (try simp only [Vl1_pi_j22 hA, Vl1_pl])
              exact vl1
            · (try simp only [Vlr_pi_j22 hA, Vlr_pl_j39 hA])
              exact vlr
            · (try simp only [Vsr_pi_j22 hA, Vsr_pl_j39 hA])
              exact vsr
            · (try simp only [Vc_pi_j22 hA, Vc_pl])
              exact vc
            · (try simp only [Tx_pi_j22 hA, Tx_pl])
              exact tx
          · skip
            simp only [↓ar_ite, ↓ar_ite2, ↓ar_ok, ↓reduceIte, o321_0, o321_1, o321_2, o321_3, o321_4, o321_7, o321_8, o321_11, o321_22, o321_23, o96_0, o96_1, o96_2, o96_5, o96_6, o96_7, o96_9, o96_12, o96_13, o96_113, o96_114, o96_117, o96_120, o96_121, o96_128, o228_0, o228_1, o228_2, o228_5, o228_12, o228_13, o228_14, o228_17, o228_18, o228_20, o228_27, o228_28, o228_31, o228_38, o228_39, o228_40, o228_41, o228_44, c_X8_isThrown_, c_X8_isLens, c_X5_checkChoice, c_lensOf_1, c_X7_rests, mc_pi, mc_pl, mc_pN, mn_pi, mn_pl, mn_pN, mi_pi, mi_pl, mi_pN, ml_pi, ml_pl, ml_pN, mr_pi, mr_pl, mt_pi, mt_pl, mz_pi, mz_pl, mz_pN, mcs_0, mcs_i, mcs_r, Kn_v, Kn_0, mrf_some, true_and, and_true, or_true, not_false_eq_true, implies_true, and_self, Nat.reduceEqDiff, Nat.reduceLeDiff, Nat.reduceSub, Nat.reduceAdd, Nat.zero_le, Nat.le_refl, i10, lt_le, Int32.reduceLT, cl0, cl1, cl2, cl3, cl4, cl5, cl6, cl7, cl8, cl9, Kc_v, Sum.inl.injEq, Option.some.injEq, Value.int.injEq, exists_eq_left', Nat.reduceLT, hAe, kc0, kc16, kc22, kc29, kc38, kc39, kn29, kr0_8, kr22_7, kr29_1, kz, be0, b2, b3, b4, b5, b6, s0, hta, hzt, lne, lti, vpk, Int.reduceLT, or_self, o227_0, o227_1, o227_4, o227_5, o227_6, o227_7, o227_9, o227_11, o227_12, o227_13, o227_14, o227_17, o227_18, o227_19, o227_20, o227_21, o227_24, o227_25, o227_26, o227_27, o227_28, o227_31, o227_32, o227_33, o227_34, o227_35, o227_38, o227_39, o227_40, o227_41, o227_42, o227_45, o227_46, o227_47, o227_48, o227_49, o227_52, o227_55, o227_56, o227_60, o227_61, o227_62, o227_64, o227_65, o227_68, o227_71, o227_72, o227_76, o227_77, o227_78, o227_80, o227_81, o227_82, o227_83, o227_85, o227_86, o227_89, o227_92, o227_93, o227_100, o227_101, o227_103, o227_105, o227_106, o227_107, cl0, cl1]
            (try simp only [ite_ar, implies_true, true_and, and_true, Classical.not_not])
            first | refine ⟨Rl_F9 ?_, rfl⟩ | refine Rl_F9 ?_ | refine ⟨Rl_Fr ?_ (show Fr (p_i (p_l h (A 39) 0 _) (A 22) 9 0) _ from (Fr_pi (Fr_pi (Fr_pi (Fr_pi (Fr_pi (Fr_pi (Fr_pi (Fr_pi (Fr_pi (Fr_pN Fr_rfl) (Nat.le_refl _)) (Nat.le_refl _)) (Nat.le_refl _)) (Nat.le_refl _)) (Nat.le_refl _)) (Nat.le_refl _)) (Nat.le_refl _)) (Nat.le_refl _)) (Nat.le_refl _))), rfl⟩ | refine Rl_Fr ?_ (show Fr (p_i (p_l h (A 39) 0 _) (A 22) 9 0) _ from (Fr_pi (Fr_pi (Fr_pi (Fr_pi (Fr_pi (Fr_pi (Fr_pi (Fr_pi (Fr_pi (Fr_pN Fr_rfl) (Nat.le_refl _)) (Nat.le_refl _)) (Nat.le_refl _)) (Nat.le_refl _)) (Nat.le_refl _)) (Nat.le_refl _)) (Nat.le_refl _)) (Nat.le_refl _)) (Nat.le_refl _)))
            first | refine ⟨⟨?_, ?_, ?_, ?_, ?_, ?_, ?_, ?_, ?_, ?_, ?_, ?_⟩, rfl⟩ | refine ⟨?_, ?_, ?_, ?_, ?_, ?_, ?_, ?_, ?_, ?_, ?_, ?_⟩
            · (try simp only [K_pi, K_pl])
              exact vk
            · (try simp only [Cn_pi_j22 hA, Cn_pl])
              exact vcn
            · (try simp only [Vq0_pi_j22 hA, Vq0_pl])
              exact v0
            · (try simp only [Vq1_pi_j22 hA, Vq1_pl])
              exact v1
            · (try simp only [Vq2_pi_j22 hA, Vq2_pl])
              exact v2
            · (try simp only [Vp_thr hA, Vp_pl])
              exact vp
            · (try simp only [Vl0_pi_j22 hA, Vl0_pl])
              exact vl0
            · (try simp only [Vl1_pi_j22 hA, Vl1_pl])
              exact vl1
            · (try simp only [Vlr_pi_j22 hA, Vlr_pl_j39 hA])
              exact vlr
            · (try simp only [Vsr_pi_j22 hA, Vsr_pl_j39 hA])
              exact vsr
            · (try simp only [Vc_pi_j22 hA, Vc_pl])
              exact vc
            · (try simp only [Tx_pi_j22 hA, Tx_pl])
              exact tx


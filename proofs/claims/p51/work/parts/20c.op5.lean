section
theorem hx_313_3 {l rest : List Value} {bc bs : Nat} {Q : MR → MH → Prop} {h : MH} : Kc Ok 313 2 5 l rest bc bs Q (.inr 3) h ↔ ∀ q : Nat, Ok 313 12 l [.ref q] h bc bs Q := Kc_x (by decide +kernel) (by decide +kernel)
theorem op_draw {A : Nat → Nat} {h : MH} (R : Rl A h) : Ok 313 0 [.ref (A 0), .ref (A 39), mk0] [] h 1 6 (fun r h1 => ∃ k : Int32, r = .inl (some (.int k)) ∧ g_c h1 (A 22) = 9 ∧ Ok 210 0 [.ref (A 22)] [] h1 0 0 (fun r2 h2 => ∃ b : Int32, r2 = .inl (some (.int b)) ∧ Rl A h2 ∧ g_i h2 (A 22) 9 = k ∧ (k = 0 → g_l h2 (A 39) 0 = b.toInt64))) := by
  obtain ⟨vk, vcn, v0, v1, v2, vp, vl0, vl1, vlr, vsr, vc, tx⟩ := R
  have vk0 := vk
  have vcn0 := vcn
  (refine K_el vk0 ?_; intros hA kc0 kc1 kc2 kc3 kc4 kc5 kc6 kc7 kc8 kc9 kc10 kc11 kc12 kc13 kc14 kc15 kc16 kc17 kc18 kc19 kc20 kc21 kc22 kc23 kc24 kc25 kc26 kc27 kc28 kc29 kc30 kc31 kc32 kc33 kc34 kc35 kc36 kc37 kc38 kc39 kz kt kn3 kn4 kn18 kn21 kn23 kn24 kn25 kn26 kn27 kn29 kn30 kr0_0 kr0_1 kr0_2 kr0_3 kr0_4 kr0_5 kr0_7 kr0_8 kr0_9 kr0_10 kr1_0 kr2_0 kr5_0 kr5_1 kr6_0 kr6_1 kr7_0 kr7_1 kr8_0 kr9_0 kr10_0 kr11_0 kr12_0 kr13_0 kr14_0 kr15_0 kr16_0 kr17_0 kr19_0 kr19_1 kr22_0 kr22_1 kr22_2 kr22_3 kr22_4 kr22_5 kr22_7 kr22_8 kr25_0 kr25_1 kr25_2 kr26_0 kr26_1 kr26_2 kr29_0 kr29_1)
  (refine Cn_el vcn0 ?_; intros ki5_2 ki6_2 ki7_2 ki8_1 ki8_2 ki8_3 ki9_1 ki9_2 ki9_3 ki10_1 ki10_2 ki10_3 ki11_1 ki11_2 ki11_3 ki12_1 ki12_2 ki12_3 ki13_1 ki13_2 ki13_3 ki14_1 ki14_2 ki14_3 ki28_0 ki28_1 ki31_0 ki31_1 ki32_0 ki32_1 ki33_0 ki33_1 ki34_0 ki34_1 ki35_0 ki35_1 ki36_0 ki36_1)
  have hAe : ∀ i j, i < 40 → j < 40 → (A i = A j ↔ i = j) := hA
  have hp2 := vp
  obtain ⟨⟨p1, p2, p3, p4⟩, hpm⟩ := hp2
  replace p1 := p1.symm
  replace p2 := p2.symm
  replace p3 := p3.symm
  replace p4 := p4.symm
  rw [p1, p2, p3, p4] at hpm
  obtain ⟨pm, pd⟩ := pA _ hpm
  simp only at pm pd
  rcases pd with pd | pd
  · skip
    simp only [o313_0, o313_1, o313_2, o313_12, o313_13, o313_14, o83_0, o83_1, o83_4, o83_5, o83_8, o210_0, o210_1, o210_2, o210_5, o210_8, o210_9, o210_12, o210_13, o210_16, o210_19, o210_20, o210_21, o210_22, o210_25, hx_313_3, c_X5_checkDraining, c_X8_isThrown__, mc_pi, mc_pT, mi_pi, mi_pT, ml_pi, ml_pT, mr_pi, mr_pT, mz_pT, mcs_0, mcs_r, Kn_v, Kn_0, Kn_x, mrf_some, true_and, and_true, not_true_eq_false, not_false_eq_true, false_implies, forall_const, if_true, if_false, and_self, Nat.reduceLeDiff, Nat.reduceSub, Nat.reduceAdd, Nat.zero_le, Nat.le_refl, i10, Sum.inl.injEq, Option.some.injEq, Value.int.injEq, exists_eq_left', Nat.reduceLT, kc0, kc14, kc22, kc28, kr0_5, kr22_5, kz, p4, pd]
    intro t ht
    first | refine ⟨⟨?_, ?_, ?_, ?_, ?_, ?_, ?_, ?_, ?_, ?_, ?_, ?_⟩, rfl⟩ | refine ⟨?_, ?_, ?_, ?_, ?_, ?_, ?_, ?_, ?_, ?_, ?_, ?_⟩
    · (try simp only [K_pi])
      exact K_pT ht vk
    · (try simp only [Cn_pi_j22 hA, Cn_pT])
      exact vcn
    · (try simp only [Vq0_pi_j22 hA, Vq0_pT])
      exact v0
    · (try simp only [Vq1_pi_j22 hA, Vq1_pT])
      exact v1
    · (try simp only [Vq2_pi_j22 hA, Vq2_pT])
      exact v2
    · (try simp only [Vp_thr hA, Vp_pT])
      exact vp
    · (try simp only [Vl0_pi_j22 hA, Vl0_pT])
      exact vl0
    · (try simp only [Vl1_pi_j22 hA, Vl1_pT])
      exact vl1
    · (try simp only [Vlr_pi_j22 hA, Vlr_pT])
      exact vlr
    · (try simp only [Vsr_pi_j22 hA, Vsr_pT])
      exact vsr
    · (try simp only [Vc_pi_j22 hA, Vc_pT])
      exact vc
    · (try simp only [Tx_pi_j22 hA])
      exact Tx_pT ht tx
  · by_cases e0 : g_i h (A 14) 5 - g_i h (A 14) 4 = 0
    · skip
      simp only [o313_0, o313_1, o313_2, o313_5, o313_6, o313_9, o313_12, o313_13, o313_14, o313_15, o313_16, o83_0, o83_1, o83_4, o83_5, o83_8, o83_11, o83_14, o83_15, o83_18, o83_19, o83_22, o83_23, o83_24, o83_27, o83_28, o83_31, o210_0, o210_1, o210_2, o210_5, o210_8, o210_9, o210_12, o210_13, o210_16, o210_19, o210_20, o210_21, o210_22, o210_25, o210_28, o210_31, o210_32, o210_33, o210_36, o210_39, o210_40, o210_41, o210_47, hx_313_3, c_X5_checkDraining, c_X8_isThrown__, c_X3_rests, c_X7_rests, c_ref_2 (cs := A 18), c_X8_no (cs := A 30), mc_pi, mc_pl, mc_pT, mn_pi, mn_pl, mn_pT, mi_pi, mi_pl, mi_pT, ml_pi, ml_pl, ml_pT, mr_pi, mr_pl, mr_pT, mz_pi, mz_pl, mz_pT, mcs_0, mcs_r, Kn_v, Kn_0, Kn_x, mrf_some, true_and, and_true, and_false, not_true_eq_false, not_false_eq_true, false_implies, implies_true, forall_const, if_true, if_false, and_self, Nat.reduceEqDiff, Nat.reduceLeDiff, Nat.reduceSub, Nat.reduceAdd, Nat.zero_le, Nat.le_refl, i10, i01, Int32.reduceSub, cl2, Kc_v, Sum.inl.injEq, Option.some.injEq, Value.int.injEq, exists_eq_left', Nat.reduceLT, hAe, kc0, kc14, kc17, kc18, kc22, kc28, kc30, kc39, kn18, kn30, kr0_5, kr0_9, kr17_0, kr22_5, kr22_8, kz, p1, p2, p4, pco, pd, e0, v18, cl2]
      first | refine ⟨⟨?_, ?_, ?_, ?_, ?_, ?_, ?_, ?_, ?_, ?_, ?_, ?_⟩, rfl⟩ | refine ⟨?_, ?_, ?_, ?_, ?_, ?_, ?_, ?_, ?_, ?_, ?_, ?_⟩
      · (try simp only [K_pi, K_pl])
        exact vk
      · (try simp only [Cn_pi_j18 hA, Cn_pi_j22 hA, Cn_pi_j30 hA, Cn_pl])
        exact vcn
      · (try simp only [Vq0_pi_j18 hA, Vq0_pi_j22 hA, Vq0_pi_j30 hA, Vq0_pl])
        exact v0
      · (try simp only [Vq1_pi_j18 hA, Vq1_pi_j22 hA, Vq1_pi_j30 hA, Vq1_pl])
        exact v1
      · (try simp only [Vq2_pi_j18 hA, Vq2_pi_j22 hA, Vq2_pi_j30 hA, Vq2_pl])
        exact v2
      · (try simp only [Vp_pi_j18 hA, Vp_pi_j30 hA, Vp_thr hA, Vp_pl])
        exact vp
      · (try simp only [Vl0_pi_j18 hA, Vl0_pi_j22 hA, Vl0_pi_j30 hA, Vl0_pl])
        exact vl0
      · (try simp only [Vl1_pi_j18 hA, Vl1_pi_j22 hA, Vl1_pi_j30 hA, Vl1_pl])
        exact vl1
      · (try simp only [Vlr_pi_j18 hA, Vlr_pi_j22 hA, Vlr_pi_j30 hA, Vlr_pl_j39 hA])
        exact vlr
      · (try simp only [Vsr_pi_j18 hA, Vsr_pi_j22 hA, Vsr_pi_j30 hA, Vsr_pl_j39 hA])
        exact vsr
      · refine Vc_of (c := 2) vc (by decide) (fun k => ?_) (fun k => ?_) <;> simp only [mi_pi, mi_pl, hAe, Nat.reduceLT, Nat.reduceEqDiff, false_and, true_and, if_false, pco]
      · (try simp only [Tx_pi_j18 hA, Tx_pi_j22 hA, Tx_pi_j30 hA, Tx_pl])
        exact tx
    · obtain ⟨i1, i2, hj, hq9⟩ := (pF _ hpm).resolve_left e0
      simp only at i1 i2 hj hq9
      have hj2 := hj.2.2
      have vsf := (vsr _ (rdy_lt hj)).1
      simp only [o313_0, o313_1, o313_2, o313_5, o313_6, o313_9, o313_12, o313_13, o313_14, o313_15, o313_16, o83_0, o83_1, o83_4, o83_5, o83_8, o83_11, o83_14, o83_15, o83_18, o83_19, o83_23, o83_24, o83_27, o83_28, o83_31, o83_34, o83_35, o83_38, o210_0, o210_1, o210_2, o210_5, o210_8, o210_9, o210_12, o210_13, o210_16, o210_19, o210_20, o210_21, o210_22, o210_25, o210_28, o210_31, o210_32, o210_33, o210_39, o210_40, o210_41, o210_44, o210_47, hx_313_3, c_X5_checkDraining, c_X8_isThrown__, c_X3_rests, c_X7_rests, c_X3_readNext (rw := A 2) (cs := A 4) (n := 36), c_X0_done (cs := A 18), c_X8_done (cs := A 30), mc_pi, mc_pl, mc_pT, mn_pi, mn_pl, mn_pT, mi_pi, mi_pl, mi_pT, ml_pi, ml_pl, ml_pT, mr_pi, mr_pl, mr_pT, mz_pi, mz_pl, mz_pT, mcs_0, mcs_r, Kn_v, Kn_0, Kn_x, mrf_some, kok_0, true_and, and_true, false_and, and_false, not_true_eq_false, not_false_eq_true, false_implies, implies_true, forall_const, if_true, if_false, and_self, Nat.reduceEqDiff, Nat.reduceLeDiff, Nat.reduceSub, Nat.reduceAdd, Nat.zero_le, Nat.le_refl, i10, i01, Kc_v, Sum.inl.injEq, Option.some.injEq, Value.int.injEq, exists_eq_left', Nat.reduceLT, hAe, kc0, kc2, kc4, kc14, kc17, kc18, kc22, kc24, kc28, kc30, kc39, kn4, kn18, kn24, kn30, kr0_5, kr0_9, kr2_0, kr14_0, kr17_0, kr22_1, kr22_5, kr22_8, kz, ki14_1, ki14_2, p1, p2, p4, pco, pd, e0, i1, i2, hj, hj2, vsf, i64_back, o207_0, o207_1, o207_4, o207_5, o207_8, o207_9, o207_10, o207_13, o207_14, o207_17, o207_18, o207_21, o207_24, o207_25]
      first | refine ⟨⟨?_, ?_, ?_, ?_, ?_, ?_, ?_, ?_, ?_, ?_, ?_, ?_⟩, rfl⟩ | refine ⟨?_, ?_, ?_, ?_, ?_, ?_, ?_, ?_, ?_, ?_, ?_, ?_⟩
      · (try simp only [K_pi, K_pl])
        exact vk
      · (try simp only [Cn_pi_j18 hA, Cn_pi_j22 hA, Cn_pi_j30 hA, Cn_14_4 hA, Cn_28_3 hA, Cn_pl])
        exact vcn
      · (try simp only [Vq0_pi_j18 hA, Vq0_pi_j22 hA, Vq0_pi_j30 hA, Vq0_pi_j14 hA, Vq0_pi_j28 hA, Vq0_pl])
        exact v0
      · (try simp only [Vq1_pi_j18 hA, Vq1_pi_j22 hA, Vq1_pi_j30 hA, Vq1_pi_j14 hA, Vq1_pi_j28 hA, Vq1_pl])
        exact v1
      · (try simp only [Vq2_pi_j18 hA, Vq2_pi_j22 hA, Vq2_pi_j30 hA, Vq2_pi_j14 hA, Vq2_pi_j28 hA, Vq2_pl])
        exact v2
      · simp only [Vp, mi_pi, mi_pl, hAe, Nat.reduceLT, Nat.reduceEqDiff, and_false, true_and, and_true, if_false, if_true, p1, p2, p3, p4, true_and, and_self]
        first | exact hq9 | exact ⟨⟨rfl, rfl, rfl, rfl⟩, hq9⟩ | (refine ⟨⟨?_, ?_, ?_, ?_⟩, hq9⟩ <;> first | rfl | trivial)
      · (try simp only [Vl0_pi_j18 hA, Vl0_pi_j22 hA, Vl0_pi_j30 hA, Vl0_pi_j14 hA, Vl0_pi_j28 hA, Vl0_pl])
        exact vl0
      · (try simp only [Vl1_pi_j18 hA, Vl1_pi_j22 hA, Vl1_pi_j30 hA, Vl1_pi_j14 hA, Vl1_pi_j28 hA, Vl1_pl])
        exact vl1
      · (try simp only [Vlr_pi_j18 hA, Vlr_pi_j22 hA, Vlr_pi_j30 hA, Vlr_pi_j14 hA, Vlr_pi_j28 hA, Vlr_pl_j39 hA])
        exact vlr
      · (try simp only [Vsr_pi_j18 hA, Vsr_pi_j22 hA, Vsr_pi_j30 hA, Vsr_pi_j14 hA, Vsr_pi_j28 hA, Vsr_pl_j39 hA])
        exact vsr
      · refine Vc_of (c := 0) vc (by decide) (fun k => ?_) (fun k => ?_) <;> simp only [mi_pi, mi_pl, hAe, Nat.reduceLT, Nat.reduceEqDiff, false_and, true_and, if_false, pco]
      · (try simp only [Tx_pi_j18 hA, Tx_pi_j22 hA, Tx_pi_j30 hA, Tx_pi_j14 hA, Tx_pi_j28 hA, Tx_pl])
        exact tx

theorem hx_311_1 {l rest : List Value} {bc bs : Nat} {Q : MR → MH → Prop} {h : MH} : Kc Ok 311 4 7 l rest bc bs Q (.inr 1) h ↔ ∀ q : Nat, Ok 311 14 l [.ref q] h bc bs Q := Kc_x (by decide +kernel) (by decide +kernel)
theorem hx_311_2 {l rest : List Value} {bc bs : Nat} {Q : MR → MH → Prop} {h : MH} : Kc Ok 311 4 7 l rest bc bs Q (.inr 2) h ↔ ∀ q : Nat, Ok 311 18 l [.ref q] h bc bs Q := Kc_x (by decide +kernel) (by decide +kernel)
theorem hx_311_3 {l rest : List Value} {bc bs : Nat} {Q : MR → MH → Prop} {h : MH} : Kc Ok 311 4 7 l rest bc bs Q (.inr 3) h ↔ ∀ q : Nat, Ok 311 22 l [.ref q] h bc bs Q := Kc_x (by decide +kernel) (by decide +kernel)
theorem op_pour {A : Nat → Nat} {h : MH} (R : Rl A h) {s f : Int32} : Ok 311 0 [.ref (A 0), .int s, .int f, .ref (A 39), mk0] [] h 3 18 (fun r h1 => ∃ k : Int32, r = .inl (some (.int k)) ∧ g_c h1 (A 22) = 9 ∧ Ok 208 0 [.ref (A 22), .int s, .int f] [] h1 0 0 (fun r2 h2 => ∃ b : Int32, r2 = .inl (some (.int b)) ∧ Rl A h2 ∧ g_i h2 (A 22) 9 = k ∧ (k = 0 → g_l h2 (A 39) 0 = b.toInt64))) := by
  obtain ⟨vk, vcn, v0, v1, v2, vp, vl0, vl1, vlr, vsr, vc, tx⟩ := R
  have vk0 := vk
  have vcn0 := vcn
  (refine K_el vk0 ?_; intros hA kc0 kc1 kc2 kc3 kc4 kc5 kc6 kc7 kc8 kc9 kc10 kc11 kc12 kc13 kc14 kc15 kc16 kc17 kc18 kc19 kc20 kc21 kc22 kc23 kc24 kc25 kc26 kc27 kc28 kc29 kc30 kc31 kc32 kc33 kc34 kc35 kc36 kc37 kc38 kc39 kz kt kn3 kn4 kn18 kn21 kn23 kn24 kn25 kn26 kn27 kn29 kn30 kr0_0 kr0_1 kr0_2 kr0_3 kr0_4 kr0_5 kr0_7 kr0_8 kr0_9 kr0_10 kr1_0 kr2_0 kr5_0 kr5_1 kr6_0 kr6_1 kr7_0 kr7_1 kr8_0 kr9_0 kr10_0 kr11_0 kr12_0 kr13_0 kr14_0 kr15_0 kr16_0 kr17_0 kr19_0 kr19_1 kr22_0 kr22_1 kr22_2 kr22_3 kr22_4 kr22_5 kr22_7 kr22_8 kr25_0 kr25_1 kr25_2 kr26_0 kr26_1 kr26_2 kr29_0 kr29_1)
  (refine Cn_el vcn0 ?_; intros ki5_2 ki6_2 ki7_2 ki8_1 ki8_2 ki8_3 ki9_1 ki9_2 ki9_3 ki10_1 ki10_2 ki10_3 ki11_1 ki11_2 ki11_3 ki12_1 ki12_2 ki12_3 ki13_1 ki13_2 ki13_3 ki14_1 ki14_2 ki14_3 ki28_0 ki28_1 ki31_0 ki31_1 ki32_0 ki32_1 ki33_0 ki33_1 ki34_0 ki34_1 ki35_0 ki35_1 ki36_0 ki36_1)
  have hAe : ∀ i j, i < 40 → j < 40 → (A i = A j ↔ i = j) := hA
  have hp2 := vp
  obtain ⟨⟨p1, p2, p3, p4⟩, hpm⟩ := hp2
  replace p1 := p1.symm
  replace p2 := p2.symm
  replace p3 := p3.symm
  replace p4 := p4.symm
  rw [p1, p2, p3, p4] at hpm
  obtain ⟨pm, pd⟩ := pA _ hpm
  simp only at pm pd
  have pd2 : g_i h (A 0) 6 = 0 ∨ ¬ g_i h (A 0) 6 = 0 := Classical.em _
  by_cases bs : s < 0 ∨ ¬ s < 6
  · have bs2 : (¬ s < 0 ∧ s < 6) = False := nrng bs
    by_cases bf : (¬ f < 0 ∧ f < 4) <;> rcases pd with pd | pd
    all_goals
      simp only [o311_0, o311_1, o311_2, o311_3, o311_4, o311_14, o311_16, o311_17, o311_18, o311_20, o311_21, o311_22, o311_24, o311_25, o81_0, o81_1, o81_4, o81_5, o81_8, o81_9, o81_12, o81_13, o81_16, o208_0, o208_1, o208_2, o208_5, o208_8, o208_9, o208_12, o208_13, o208_14, o208_17, o208_20, o208_21, o208_24, o208_25, o208_26, o208_29, o208_32, o208_35, o208_36, o208_37, o208_38, o208_41, hx_311_1, hx_311_2, hx_311_3, c_X5_checkSlot, c_X8_isSlot, c_X8_isThrown, c_X5_checkFourth, c_X8_isFourth, c_X5_checkFilling, mc_pi, mc_pT, mi_pi, mi_pT, ml_pi, ml_pT, mr_pi, mr_pT, mz_pT, mcs_0, mcs_i, mcs_r, Kn_v, Kn_0, Kn_x, mrf_some, true_and, and_true, and_false, or_false, not_true_eq_false, not_false_eq_true, false_implies, forall_const, if_true, if_false, and_self, Nat.reduceLeDiff, Nat.reduceSub, Nat.reduceAdd, Nat.zero_le, Nat.le_refl, i10, Sum.inl.injEq, Option.some.injEq, Value.int.injEq, exists_eq_left', Nat.reduceLT, i20, i30, kc0, kc14, kc22, kc28, kr0_5, kr22_5, kz, bs, bs2, bf, pd, p4]
      intro t ht
      first | refine ⟨⟨?_, ?_, ?_, ?_, ?_, ?_, ?_, ?_, ?_, ?_, ?_, ?_⟩, rfl⟩ | refine ⟨?_, ?_, ?_, ?_, ?_, ?_, ?_, ?_, ?_, ?_, ?_, ?_⟩
      · (try simp only [K_pi])
        exact K_pT ht vk
      · (try simp only [Cn_pi_j22 hA, Cn_pT])
        exact vcn
      · (try simp only [Vq0_pi_j22 hA, Vq0_pT])
        exact v0
      · (try simp only [Vq1_pi_j22 hA, Vq1_pT])
        exact v1
      · (try simp only [Vq2_pi_j22 hA, Vq2_pT])
        exact v2
      · (try simp only [Vp_thr hA, Vp_pT])
        exact vp
      · (try simp only [Vl0_pi_j22 hA, Vl0_pT])
        exact vl0
      · (try simp only [Vl1_pi_j22 hA, Vl1_pT])
        exact vl1
      · (try simp only [Vlr_pi_j22 hA, Vlr_pT])
        exact vlr
      · (try simp only [Vsr_pi_j22 hA, Vsr_pT])
        exact vsr
      · (try simp only [Vc_pi_j22 hA, Vc_pT])
        exact vc
      · (try simp only [Tx_pi_j22 hA])
        exact Tx_pT ht tx
  · have s1 : ¬ s < 0 := fun z => bs (Or.inl z)
    have s2 : s < 6 := Classical.byContradiction fun z => bs (Or.inr z)
    have hs := ix_ok s1 s2
    have hs2 := hs
    obtain ⟨⟨j0, j1, j2, j3⟩, d01, d02, d03, d10, d12, d13, d20, d21, d23, d30, d31, d32⟩ := hs2
    obtain ⟨l0, l1, l2, l3⟩ := ix_lt hs
    have vs0 := (vsr _ l0).1
    have vs1 := (vsr _ l1).1
    have vs2 := (vsr _ l2).1
    have vs3 := (vsr _ l3).1
    have bs2 : (¬ s < 0 ∧ s < 6) = True := eq_true ⟨s1, s2⟩
    by_cases bf : f < 0 ∨ ¬ f < 4
    · have bf2 : (¬ f < 0 ∧ f < 4) = False := nrng bf
      rcases pd with pd | pd
      all_goals
        simp only [o311_0, o311_1, o311_2, o311_3, o311_4, o311_14, o311_16, o311_17, o311_18, o311_20, o311_21, o311_22, o311_24, o311_25, o81_0, o81_1, o81_4, o81_5, o81_8, o81_9, o81_12, o81_13, o81_16, o208_0, o208_1, o208_2, o208_5, o208_8, o208_9, o208_12, o208_13, o208_14, o208_17, o208_20, o208_21, o208_24, o208_25, o208_26, o208_29, o208_32, o208_35, o208_36, o208_37, o208_38, o208_41, hx_311_1, hx_311_2, hx_311_3, c_X5_checkSlot, c_X8_isSlot, c_X8_isThrown, c_X5_checkFourth, c_X8_isFourth, c_X5_checkFilling, mc_pi, mc_pT, mi_pi, mi_pT, ml_pi, ml_pT, mr_pi, mr_pT, mz_pT, mcs_0, mcs_i, mcs_r, Kn_v, Kn_0, Kn_x, mrf_some, true_and, and_true, and_false, or_false, not_true_eq_false, not_false_eq_true, false_implies, forall_const, if_true, if_false, and_self, Nat.reduceLeDiff, Nat.reduceSub, Nat.reduceAdd, Nat.zero_le, Nat.le_refl, i10, Sum.inl.injEq, Option.some.injEq, Value.int.injEq, exists_eq_left', Nat.reduceLT, i20, i30, kc0, kc14, kc22, kc28, kr0_5, kr22_5, kz, bf, bf2, pd, p4, s1, s2]
        intro t ht
        first | refine ⟨⟨?_, ?_, ?_, ?_, ?_, ?_, ?_, ?_, ?_, ?_, ?_, ?_⟩, rfl⟩ | refine ⟨?_, ?_, ?_, ?_, ?_, ?_, ?_, ?_, ?_, ?_, ?_, ?_⟩
        · (try simp only [K_pi])
          exact K_pT ht vk
        · (try simp only [Cn_pi_j22 hA, Cn_pT])
          exact vcn
        · (try simp only [Vq0_pi_j22 hA, Vq0_pT])
          exact v0
        · (try simp only [Vq1_pi_j22 hA, Vq1_pT])
          exact v1
        · (try simp only [Vq2_pi_j22 hA, Vq2_pT])
          exact v2
        · (try simp only [Vp_thr hA, Vp_pT])
          exact vp
        · (try simp only [Vl0_pi_j22 hA, Vl0_pT])
          exact vl0
        · (try simp only [Vl1_pi_j22 hA, Vl1_pT])
          exact vl1
        · (try simp only [Vlr_pi_j22 hA, Vlr_pT])
          exact vlr
        · (try simp only [Vsr_pi_j22 hA, Vsr_pT])
          exact vsr
        · (try simp only [Vc_pi_j22 hA, Vc_pT])
          exact vc
        · (try simp only [Tx_pi_j22 hA])
          exact Tx_pT ht tx
    · have f1 : ¬ f < 0 := fun z => bf (Or.inl z)
      have f2 : f < 4 := Classical.byContradiction fun z => bf (Or.inr z)
      have bf2 : (¬ f < 0 ∧ f < 4) = True := eq_true ⟨f1, f2⟩
      have hjf := ixf_ok s1 s2 f1 f2
      have hvf := hjf.2.2
      have vsf := (vsr _ (rdy_lt hjf))
      have vsg := vsf.1
      rcases pd with pd | pd
      · by_cases e0 : g_i h (A 14) 5 - g_i h (A 14) 4 = 0
        · skip
          simp only [o311_0, o311_1, o311_2, o311_3, o311_4, o311_7, o311_8, o311_11, o311_14, o311_16, o311_17, o311_18, o311_20, o311_21, o311_22, o311_24, o311_25, o311_26, o311_27, o81_0, o81_1, o81_4, o81_5, o81_8, o81_9, o81_12, o81_13, o81_16, o81_19, o81_22, o81_23, o81_26, o81_27, o81_30, o81_31, o81_32, o81_35, o81_36, o81_37, o81_38, o208_0, o208_1, o208_2, o208_5, o208_8, o208_9, o208_12, o208_13, o208_14, o208_17, o208_20, o208_21, o208_24, o208_25, o208_26, o208_29, o208_32, o208_35, o208_36, o208_37, o208_38, o208_41, o208_44, o208_47, o208_48, o208_49, o208_52, o208_53, o208_54, o208_55, o208_58, o208_60, o208_61, o208_62, o208_63, o208_64, o208_65, o208_66, o208_67, hx_311_1, hx_311_2, hx_311_3, c_X5_checkSlot, c_X8_isSlot, c_X8_isThrown, c_X5_checkFourth, c_X8_isFourth, c_X5_checkFilling, c_X3_rests, c_X7_rests, c_ref_1 (cs := A 18), c_X8_no (cs := A 30), mc_pi, mc_pl, mc_pT, mn_pi, mn_pl, mn_pT, mi_pi, mi_pl, mi_pT, ml_pi, ml_pl, ml_pT, mr_pi, mr_pl, mr_pT, mz_pi, mz_pl, mz_pT, mcs_0, mcs_i, mcs_r, Kn_v, Kn_0, Kn_x, mrf_some, true_and, and_true, false_and, and_false, or_false, not_true_eq_false, not_false_eq_true, false_implies, implies_true, forall_const, if_true, if_false, and_self, Nat.reduceEqDiff, Nat.reduceLeDiff, Nat.reduceSub, Nat.reduceAdd, Nat.zero_le, Nat.le_refl, i10, i01, Int32.reduceSub, cl1, Kc_v, Sum.inl.injEq, Option.some.injEq, Value.int.injEq, exists_eq_left', Nat.reduceLT, hAe, i20, i30, kc0, kc14, kc17, kc18, kc22, kc24, kc28, kc30, kc39, kn18, kn24, kn30, kr0_5, kr0_9, kr17_0, kr22_1, kr22_5, kr22_8, kz, p1, p2, p4, pco, f1, f2, pd, e0, v18, cl1, s1, s2, i64_inj]
          first | refine ⟨⟨?_, ?_, ?_, ?_, ?_, ?_, ?_, ?_, ?_, ?_, ?_, ?_⟩, rfl⟩ | refine ⟨?_, ?_, ?_, ?_, ?_, ?_, ?_, ?_, ?_, ?_, ?_, ?_⟩
          · (try simp only [K_pi, K_pl])
            exact vk
          · (try simp only [Cn_pi_j18 hA, Cn_pi_j22 hA, Cn_pi_j30 hA, Cn_pl])
            exact vcn
          · (try simp only [Vq0_pi_j18 hA, Vq0_pi_j22 hA, Vq0_pi_j30 hA, Vq0_pl])
            exact v0
          · (try simp only [Vq1_pi_j18 hA, Vq1_pi_j22 hA, Vq1_pi_j30 hA, Vq1_pl])
            exact v1
          · (try simp only [Vq2_pi_j18 hA, Vq2_pi_j22 hA, Vq2_pi_j30 hA, Vq2_pl])
            exact v2
          · (try simp only [Vp_pi_j18 hA, Vp_pi_j30 hA, Vp_thr hA, Vp_pl])
            exact vp
          · (try simp only [Vl0_pi_j18 hA, Vl0_pi_j22 hA, Vl0_pi_j30 hA, Vl0_pl])
            exact vl0
          · (try simp only [Vl1_pi_j18 hA, Vl1_pi_j22 hA, Vl1_pi_j30 hA, Vl1_pl])
            exact vl1
          · (try simp only [Vlr_pi_j18 hA, Vlr_pi_j22 hA, Vlr_pi_j30 hA, Vlr_pl_j39 hA])
            exact vlr
          · (try simp only [Vsr_pi_j18 hA, Vsr_pi_j22 hA, Vsr_pi_j30 hA, Vsr_pl_j39 hA])
            exact vsr
          · refine Vc_of (c := 1) vc (by decide) (fun k => ?_) (fun k => ?_) <;> simp only [mi_pi, mi_pl, hAe, Nat.reduceLT, Nat.reduceEqDiff, false_and, true_and, if_false, pco]
          · (try simp only [Tx_pi_j18 hA, Tx_pi_j22 hA, Tx_pi_j30 hA, Tx_pl])
            exact tx
        · obtain ⟨i1, i2, hj, hq9⟩ := (pF _ hpm).resolve_left e0
          simp only at i1 i2 hj hq9
          have hj2 := hj.2.2
          simp only [o311_0, o311_1, o311_2, o311_3, o311_4, o311_7, o311_8, o311_11, o311_14, o311_16, o311_17, o311_18, o311_20, o311_21, o311_22, o311_24, o311_25, o311_26, o311_27, o81_0, o81_1, o81_4, o81_5, o81_8, o81_9, o81_12, o81_13, o81_16, o81_19, o81_22, o81_23, o81_26, o81_27, o81_31, o81_32, o81_35, o81_36, o81_37, o81_38, o81_41, o81_42, o81_45, o81_46, o81_47, o81_50, o81_51, o81_54, o81_57, o81_60, o208_0, o208_1, o208_2, o208_5, o208_8, o208_9, o208_12, o208_13, o208_14, o208_17, o208_20, o208_21, o208_24, o208_25, o208_26, o208_29, o208_32, o208_35, o208_36, o208_37, o208_38, o208_41, o208_44, o208_47, o208_48, o208_49, o208_53, o208_54, o208_55, o208_58, o208_60, o208_61, o208_62, o208_63, o208_64, o208_65, o208_66, o208_67, o208_70, o208_71, o208_72, o208_75, o208_78, o208_81, hx_311_1, hx_311_2, hx_311_3, c_X5_checkSlot, c_X8_isSlot, c_X8_isThrown, c_X5_checkFourth, c_X8_isFourth, c_X5_checkFilling, c_X3_rests, c_X7_rests, c_X5_fourthIn (rw := A 2) (cs := A 4), c_X3_writeNext (rw := A 2) (cs := A 4) (n := 36), c_X0_done (cs := A 18), c_X8_done (cs := A 30), mc_pi, mc_pl, mc_pT, mn_pi, mn_pl, mn_pT, mi_pi, mi_pl, mi_pT, ml_pi, ml_pl, ml_pT, mr_pi, mr_pl, mr_pT, mz_pi, mz_pl, mz_pT, mcs_0, mcs_i, mcs_r, Kn_v, Kn_0, Kn_x, mrf_some, kok_0, true_and, and_true, false_and, and_false, or_false, not_true_eq_false, not_false_eq_true, false_implies, implies_true, forall_const, if_true, if_false, and_self, Nat.reduceEqDiff, Nat.reduceLeDiff, Nat.reduceSub, Nat.reduceAdd, Nat.zero_le, Nat.le_refl, i10, i01, Kc_v, Sum.inl.injEq, Option.some.injEq, Value.int.injEq, exists_eq_left', Nat.reduceLT, hAe, i20, i30, kc0, kc2, kc4, kc14, kc17, kc18, kc22, kc24, kc28, kc30, kc39, kn4, kn18, kn24, kn30, kr0_1, kr0_5, kr0_9, kr2_0, kr14_0, kr17_0, kr22_1, kr22_5, kr22_8, kz, ki14_1, ki14_2, ki14_3, p1, p2, p4, pco, f1, f2, pd, e0, i1, i2, hj, hj2, hjf, hvf, vsg, s1, s2, i64_inj, i64_back, o206_0, o206_1, o206_4, o206_5, o206_6, o206_9, o206_12, o206_13, o206_14, o206_15, o206_16, o206_19, o206_20, o206_23, o206_24, o206_25, o206_28]
          first | refine ⟨⟨?_, ?_, ?_, ?_, ?_, ?_, ?_, ?_, ?_, ?_, ?_, ?_⟩, rfl⟩ | refine ⟨?_, ?_, ?_, ?_, ?_, ?_, ?_, ?_, ?_, ?_, ?_, ?_⟩
          · (try simp only [K_pi, K_pl])
            exact vk
          · (try simp only [Cn_pi_j18 hA, Cn_pi_j22 hA, Cn_pi_j30 hA, Cn_pi_j24 hA, Cn_14_4 hA, Cn_28_3 hA, Cn_pl])
            exact vcn
          · (try simp only [Vq0_pi_j18 hA, Vq0_pi_j22 hA, Vq0_pi_j30 hA, Vq0_pi_j14 hA, Vq0_pi_j28 hA, Vq0_pi_j24 hA, Vq0_pl])
            exact v0
          · (try simp only [Vq1_pi_j18 hA, Vq1_pi_j22 hA, Vq1_pi_j30 hA, Vq1_pi_j14 hA, Vq1_pi_j28 hA, Vq1_pi_j24 hA, Vq1_pl])
            exact v1
          · (try simp only [Vq2_pi_j18 hA, Vq2_pi_j22 hA, Vq2_pi_j30 hA, Vq2_pi_j14 hA, Vq2_pi_j28 hA, Vq2_pi_j24 hA, Vq2_pl])
            exact v2
          · simp only [Vp, mi_pi, mi_pl, hAe, Nat.reduceLT, Nat.reduceEqDiff, false_and, and_false, true_and, and_true, if_false, if_true, p1, p2, p3, p4, true_and, and_self]
            first | exact hq9 | exact ⟨⟨rfl, rfl, rfl, rfl⟩, hq9⟩ | (refine ⟨⟨?_, ?_, ?_, ?_⟩, hq9⟩ <;> first | rfl | trivial)
          · (try simp only [Vl0_pi_j18 hA, Vl0_pi_j22 hA, Vl0_pi_j30 hA, Vl0_pi_j14 hA, Vl0_pi_j28 hA, Vl0_pi_j24 hA, Vl0_pl])
            exact vl0
          · (try simp only [Vl1_pi_j18 hA, Vl1_pi_j22 hA, Vl1_pi_j30 hA, Vl1_pi_j14 hA, Vl1_pi_j28 hA, Vl1_pi_j24 hA, Vl1_pl])
            exact vl1
          · (try simp only [Vlr_pi_j18 hA, Vlr_pi_j22 hA, Vlr_pi_j30 hA, Vlr_pi_j14 hA, Vlr_pi_j28 hA, Vlr_pi_j24 hA, Vlr_pl_j39 hA, Vlr_pl_j4 hA])
            exact vlr
          · refine Vsr_1 (i0 := (1 + g_i h (A 14) 4).toNatClampNeg) (x0 := g_i h (A 24) (11 + 4 * s + f).toNatClampNeg) vsr vsf.2 (fun k => ?_) (fun k => ?_) <;> simp only [mi_pi, mi_pl, ml_pi, ml_pl, hAe, Nat.reduceLT, Nat.reduceEqDiff, false_and, true_and, if_false]
          · refine Vc_of (c := 0) vc (by decide) (fun k => ?_) (fun k => ?_) <;> simp only [mi_pi, mi_pl, hAe, Nat.reduceLT, Nat.reduceEqDiff, false_and, true_and, if_false, pco]
          · (try simp only [Tx_pi_j18 hA, Tx_pi_j22 hA, Tx_pi_j30 hA, Tx_pi_j14 hA, Tx_pi_j28 hA, Tx_pi_j24 hA, Tx_pl])
            exact tx
      · skip
        simp only [o311_0, o311_1, o311_2, o311_3, o311_4, o311_14, o311_16, o311_17, o311_18, o311_20, o311_21, o311_22, o311_24, o311_25, o81_0, o81_1, o81_4, o81_5, o81_8, o81_9, o81_12, o81_13, o81_16, o208_0, o208_1, o208_2, o208_5, o208_8, o208_9, o208_12, o208_13, o208_14, o208_17, o208_20, o208_21, o208_24, o208_25, o208_26, o208_29, o208_32, o208_35, o208_36, o208_37, o208_38, o208_41, hx_311_1, hx_311_2, hx_311_3, c_X5_checkSlot, c_X8_isSlot, c_X8_isThrown, c_X5_checkFourth, c_X8_isFourth, c_X5_checkFilling, mc_pi, mc_pT, mi_pi, mi_pT, ml_pi, ml_pT, mr_pi, mr_pT, mz_pT, mcs_0, mcs_i, mcs_r, Kn_v, Kn_0, Kn_x, mrf_some, true_and, and_true, and_false, or_false, not_true_eq_false, not_false_eq_true, false_implies, forall_const, if_true, if_false, and_self, Nat.reduceLeDiff, Nat.reduceSub, Nat.reduceAdd, Nat.zero_le, Nat.le_refl, i10, Sum.inl.injEq, Option.some.injEq, Value.int.injEq, exists_eq_left', Nat.reduceLT, i20, i30, kc0, kc14, kc22, kc28, kr0_5, kr22_5, kz, p4, f1, f2, pd, s1, s2]
        intro t ht
        first | refine ⟨⟨?_, ?_, ?_, ?_, ?_, ?_, ?_, ?_, ?_, ?_, ?_, ?_⟩, rfl⟩ | refine ⟨?_, ?_, ?_, ?_, ?_, ?_, ?_, ?_, ?_, ?_, ?_, ?_⟩
        · (try simp only [K_pi])
          exact K_pT ht vk
        · (try simp only [Cn_pi_j22 hA, Cn_pT])
          exact vcn
        · (try simp only [Vq0_pi_j22 hA, Vq0_pT])
          exact v0
        · (try simp only [Vq1_pi_j22 hA, Vq1_pT])
          exact v1
        · (try simp only [Vq2_pi_j22 hA, Vq2_pT])
          exact v2
        · (try simp only [Vp_thr hA, Vp_pT])
          exact vp
        · (try simp only [Vl0_pi_j22 hA, Vl0_pT])
          exact vl0
        · (try simp only [Vl1_pi_j22 hA, Vl1_pT])
          exact vl1
        · (try simp only [Vlr_pi_j22 hA, Vlr_pT])
          exact vlr
        · (try simp only [Vsr_pi_j22 hA, Vsr_pT])
          exact vsr
        · (try simp only [Vc_pi_j22 hA, Vc_pT])
          exact vc
        · (try simp only [Tx_pi_j22 hA])
          exact Tx_pT ht tx
end

section
/-! THE OPS of the lenses -/
theorem t_add {x y : Int32} (h1 : -2147483648 ≤ x.toInt + y.toInt) (h2 : x.toInt + y.toInt < 2147483648) : (x + y).toInt = x.toInt + y.toInt := by
  rw [Int32.toInt_add, Int.bmod_eq_of_le (by omega) (by omega)]
theorem t_sub {x y : Int32} (h1 : -2147483648 ≤ x.toInt - y.toInt) (h2 : x.toInt - y.toInt < 2147483648) : (x - y).toInt = x.toInt - y.toInt := by
  rw [Int32.toInt_sub, Int.bmod_eq_of_le (by omega) (by omega)]
theorem rdy_of {n : Nat} {j : Int32} (h0 : n < 2147483648) (h1 : 0 ≤ j.toInt) (h2 : j.toInt < n) : rdy n j := by
  have e0 : (0 : Int32).toInt = 0 := rfl
  have e1 : (Int32.ofNat n).toInt = n := Int32.toInt_ofNat_of_lt (by omega)
  have e2 : j.toNatClampNeg = j.toInt.toNat := rfl
  refine ⟨?_, ?_, ?_⟩
  · rw [Int32.lt_iff_toInt_lt]; omega
  · rw [Int32.lt_iff_toInt_lt]; omega
  · unfold vp_in
    rw [Int32.lt_iff_toInt_lt]
    omega
theorem lnxt (f p : Int32) : f + (p + 1) - 1 = f + p := by rw [← Int32.add_assoc]; exact Int32.add_sub_cancel _ _
theorem ln_ne {l p : Int32} (h : ¬ l - p = 0) : ¬ l.toInt = p.toInt := fun z => h (by rw [Int32.toInt_inj.mp z]; exact Int32.sub_self _)
theorem lnN {lo hi : Int} {R x : Nat} {f n s p l m : Int32} (k : lnOk lo hi x f n s p l m) (h0 : 0 ≤ lo) (h1 : hi ≤ R) (h2 : R < 2147483648) (e0 : ¬ l - p = 0) : ¬ p < 0 ∧ p < n ∧ rdy R (f + p) ∧ lnOk lo hi x f n s (p + 1) l m := by
  obtain ⟨k1, k2, k3, k4, k5, k6, k7, k8, k9, k10⟩ := k
  have e1 := ln_ne e0
  have z0 : (0 : Int32).toInt = 0 := rfl
  have z1 : (1 : Int32).toInt = 1 := rfl
  have a1 : (f + p).toInt = f.toInt + p.toInt := t_add (by omega) (by omega)
  have a2 : (p + 1).toInt = p.toInt + 1 := by rw [t_add (by omega) (by omega)]; omega
  refine ⟨by rw [Int32.lt_iff_toInt_lt]; omega, by rw [Int32.lt_iff_toInt_lt]; omega, rdy_of h2 (by omega) (by omega), k1, k2, k3, k4, k5, by omega, by omega, k8, k9, by omega⟩
theorem lnA {lo hi : Int} {R x : Nat} {f n s p l m e : Int32} (k : lnOk lo hi x f n s p l m) (h0 : 0 ≤ lo) (h1 : hi ≤ R) (h2 : R < 2147483648) (e1 : ¬ e < 0) (e2 : e < l) : e < n ∧ rdy R (f + e) := by
  obtain ⟨k1, k2, k3, k4, k5, k6, k7, k8, k9, k10⟩ := k
  rw [Int32.lt_iff_toInt_lt] at e1 e2
  have z0 : (0 : Int32).toInt = 0 := rfl
  have a1 : (f + e).toInt = f.toInt + e.toInt := t_add (by omega) (by omega)
  exact ⟨by rw [Int32.lt_iff_toInt_lt]; omega, rdy_of h2 (by omega) (by omega)⟩
theorem lnP {lo hi : Int} {x : Nat} {f n s p l m e : Int32} (k : lnOk lo hi x f n s p l m) (e1 : ¬ e < 0) (e2 : ¬ l < e) : lnOk lo hi x f n s e l (liM m e) := by
  obtain ⟨k1, k2, k3, k4, k5, k6, k7, k8, k9, k10⟩ := k
  rw [Int32.lt_iff_toInt_lt] at e1 e2
  have z0 : (0 : Int32).toInt = 0 := rfl
  have zm : (-1 : Int32).toInt = -1 := rfl
  unfold liM
  by_cases h : e < m
  · rw [if_pos h]
    exact ⟨k1, k2, k3, k4, k5, by omega, by omega, k8, by omega, by omega⟩
  · rw [if_neg h]
    rw [Int32.lt_iff_toInt_lt] at h
    exact ⟨k1, k2, k3, k4, k5, by omega, by omega, k8, by omega, by omega⟩
theorem lnL {lo hi : Int} {x : Nat} {f n s p l m e : Int32} (k : lnOk lo hi x f n s p l m) (e1 : ¬ e < 0) (e2 : ¬ n < e) : lnOk lo hi x f n s (liP p e) e (liM m e) := by
  obtain ⟨k1, k2, k3, k4, k5, k6, k7, k8, k9, k10⟩ := k
  rw [Int32.lt_iff_toInt_lt] at e1 e2
  have z0 : (0 : Int32).toInt = 0 := rfl
  have zm : (-1 : Int32).toInt = -1 := rfl
  unfold liM liP
  by_cases h : e < m
  · rw [if_pos h]
    by_cases h2 : e < p
    · rw [if_pos h2]
      exact ⟨k1, k2, k3, k4, k5, by omega, by omega, by omega, by omega, by omega⟩
    · rw [if_neg h2]
      rw [Int32.lt_iff_toInt_lt] at h2
      exact ⟨k1, k2, k3, k4, k5, by omega, by omega, by omega, by omega, by omega⟩
  · rw [if_neg h]
    rw [Int32.lt_iff_toInt_lt] at h
    by_cases h2 : e < p
    · rw [if_pos h2]
      exact ⟨k1, k2, k3, k4, k5, by omega, by omega, by omega, by omega, by omega⟩
    · rw [if_neg h2]
      rw [Int32.lt_iff_toInt_lt] at h2
      exact ⟨k1, k2, k3, k4, k5, by omega, by omega, by omega, by omega, by omega⟩
theorem e_cases {e : Int32} (h1 : ¬ e < 0) (h2 : e < 2) : e = 0 ∨ e = 1 := by
  have h3 : e < 4 := by
    rw [Int32.lt_iff_toInt_lt] at h2 ⊢
    have e1 : (4 : Int32).toInt = 4 := rfl
    have e2 : (2 : Int32).toInt = 2 := rfl
    omega
  rcases f_cases h1 h3 with rfl | rfl | rfl | rfl
  · exact Or.inl rfl
  · exact Or.inr rfl
  · exact absurd h2 (by decide)
  · exact absurd h2 (by decide)
theorem e_bad {e : Int32} (h : e < 0 ∨ ¬ e < 2) : (e = 0 ∨ e = 1) = False := by
  apply propext
  constructor
  · rintro (rfl | rfl)
    · exact absurd h (by decide)
    · exact absurd h (by decide)
  · exact False.elim
theorem be0 : ((0 : Int32) < 0 ∨ ¬ (0 : Int32) < 2) = False ∧ ((1 : Int32) < 0 ∨ ¬ (1 : Int32) < 2) = False ∧ vp_in 0 2 = True ∧ vp_in 1 2 = True ∧ ((0 : Int32) = 0 ∨ (0 : Int32) = 1) = True ∧ ((1 : Int32) = 0 ∨ (1 : Int32) = 1) = True := by unfold vp_in; decide
end

section
theorem hx_316_1 {l rest : List Value} {bc bs : Nat} {Q : MR → MH → Prop} {h : MH} : Kc Ok 316 4 7 l rest bc bs Q (.inr 1) h ↔ ∀ q : Nat, Ok 316 14 l [.ref q] h bc bs Q := Kc_x (by decide +kernel) (by decide +kernel)
theorem op_lensPlace {A : Nat → Nat} {h : MH} (R : Rl A h) {e x : Int32} : Ok 316 0 [.ref (A 0), .int e, .int x, .ref (A 39), mk0] [] h 1 6 (fun r h1 => ∃ k : Int32, r = .inl (some (.int k)) ∧ g_c h1 (A 22) = 9 ∧ Ok 221 0 [.ref (A 22), .int e, .int x] [] h1 0 0 (fun r2 h2 => ∃ b : Int32, r2 = .inl (some (.int b)) ∧ Rl A h2 ∧ g_i h2 (A 22) 9 = k ∧ (k = 0 → g_l h2 (A 39) 0 = b.toInt64))) := by
  obtain ⟨vk, vcn, v0, v1, v2, vp, vl0, vl1, vlr, vsr, vc, tx⟩ := R
  have vk0 := vk
  have vcn0 := vcn
  (refine K_el vk0 ?_; intros hA kc0 kc1 kc2 kc3 kc4 kc5 kc6 kc7 kc8 kc9 kc10 kc11 kc12 kc13 kc14 kc15 kc16 kc17 kc18 kc19 kc20 kc21 kc22 kc23 kc24 kc25 kc26 kc27 kc28 kc29 kc30 kc31 kc32 kc33 kc34 kc35 kc36 kc37 kc38 kc39 kz kt kn3 kn4 kn18 kn21 kn23 kn24 kn25 kn26 kn27 kn29 kn30 kr0_0 kr0_1 kr0_2 kr0_3 kr0_4 kr0_5 kr0_7 kr0_8 kr0_9 kr0_10 kr1_0 kr2_0 kr5_0 kr5_1 kr6_0 kr6_1 kr7_0 kr7_1 kr8_0 kr9_0 kr10_0 kr11_0 kr12_0 kr13_0 kr14_0 kr15_0 kr16_0 kr17_0 kr19_0 kr19_1 kr22_0 kr22_1 kr22_2 kr22_3 kr22_4 kr22_5 kr22_7 kr22_8 kr25_0 kr25_1 kr25_2 kr26_0 kr26_1 kr26_2 kr29_0 kr29_1)
  (refine Cn_el vcn0 ?_; intros ki5_2 ki6_2 ki7_2 ki8_1 ki8_2 ki8_3 ki9_1 ki9_2 ki9_3 ki10_1 ki10_2 ki10_3 ki11_1 ki11_2 ki11_3 ki12_1 ki12_2 ki12_3 ki13_1 ki13_2 ki13_3 ki14_1 ki14_2 ki14_3 ki28_0 ki28_1 ki31_0 ki31_1 ki32_0 ki32_1 ki33_0 ki33_1 ki34_0 ki34_1 ki35_0 ki35_1 ki36_0 ki36_1)
  have hAe : ∀ i j, i < 40 → j < 40 → (A i = A j ↔ i = j) := hA
  by_cases be : e < 0 ∨ ¬ e < 2
  · have be2 := e_bad be
    simp only [o316_0, o316_1, o316_2, o316_3, o316_4, o316_14, o316_16, o316_17, o91_0, o91_1, o91_2, o221_0, o221_1, o221_2, o221_5, o221_8, o221_9, o221_12, o221_13, o221_16, o221_19, o221_20, o221_21, o221_22, o221_25, o221_26, o221_27, o221_30, o221_31, o221_38, o221_39, o221_41, hx_316_1, c_X8_isThrown__, c_X8_isLens, c_lensOf_bad, mc_pi, mc_pT, mn_pi, mn_pT, mi_pi, mi_pT, ml_pi, ml_pT, mr_pi, mr_pT, mz_pT, mcs_0, mcs_r, Kn_v, Kn_x, mrf_some, true_and, and_true, not_true_eq_false, not_false_eq_true, false_implies, forall_const, if_true, if_false, and_self, Nat.reduceLeDiff, Nat.reduceSub, Nat.reduceAdd, Nat.zero_le, Nat.le_refl, i10, Sum.inl.injEq, Option.some.injEq, Value.int.injEq, exists_eq_left', Nat.reduceLT, kc0, kc22, kc29, kn29, kr22_7, kz, be, be2]
    intro t ht
    first | refine ⟨⟨?_, ?_, ?_, ?_, ?_, ?_, ?_, ?_, ?_, ?_, ?_, ?_⟩, rfl⟩ | refine ⟨?_, ?_, ?_, ?_, ?_, ?_, ?_, ?_, ?_, ?_, ?_, ?_⟩
    · (try simp only [K_pi])
      exact K_pT ht vk
    · (try simp only [Cn_pi_j22 hA, Cn_pT])
      exact vcn
    · (try simp only [Vq0_pi_j22 hA, Vq0_pT])
      exact v0
    · (try simp only [Vq1_pi_j22 hA, Vq1_pT])
      exact v1
    · (try simp only [Vq2_pi_j22 hA, Vq2_pT])
      exact v2
    · (try simp only [Vp_thr hA, Vp_pT])
      exact vp
    · (try simp only [Vl0_pi_j22 hA, Vl0_pT])
      exact vl0
    · (try simp only [Vl1_pi_j22 hA, Vl1_pT])
      exact vl1
    · (try simp only [Vlr_pi_j22 hA, Vlr_pT])
      exact vlr
    · (try simp only [Vsr_pi_j22 hA, Vsr_pT])
      exact vsr
    · (try simp only [Vc_pi_j22 hA, Vc_pT])
      exact vc
    · (try simp only [Tx_pi_j22 hA])
      exact Tx_pT ht tx
  · have y1 : ¬ e < 0 := fun z => be (Or.inl z)
    have y2 : e < 2 := Classical.byContradiction fun z => be (Or.inr z)
    rcases e_cases y1 y2 with rfl | rfl
    · have hl2 := vl0
      obtain ⟨⟨b1, b2, b3, b4, b5, b6⟩, ln⟩ := hl2
      replace b1 := b1.symm
      replace b2 := b2.symm
      replace b3 := b3.symm
      replace b4 := b4.symm
      replace b5 := b5.symm
      replace b6 := b6.symm
      rw [b1, b2, b3, b4, b5, b6] at ln
      by_cases x0 : x < 0 <;> by_cases x1 : g_i h (A 15) 5 < x
      · skip
        simp only [o316_0, o316_1, o316_2, o316_3, o316_4, o316_7, o316_8, o316_11, o316_18, o316_19, o91_0, o91_1, o91_2, o91_5, o91_6, o91_7, o91_10, o91_11, o91_12, o91_15, o91_18, o91_19, o91_22, o91_24, o91_27, o91_28, o91_29, o91_30, o221_0, o221_1, o221_2, o221_5, o221_8, o221_9, o221_12, o221_13, o221_16, o221_19, o221_20, o221_21, o221_22, o221_25, o221_26, o221_27, o221_30, o221_31, o221_32, o221_35, o221_38, o221_39, o221_41, o221_44, o221_45, o221_46, o221_49, o221_50, o221_51, o221_52, c_X8_isThrown__, c_X8_isLens, c_lensOf_0, c_ref_6 (cs := A 18), c_X8_no (cs := A 30), mc_pi, mc_pl, mn_pi, mn_pl, mi_pi, mi_pl, ml_pi, ml_pl, mr_pi, mr_pl, mz_pi, mz_pl, mcs_0, mcs_r, Kn_v, mrf_some, true_and, and_true, or_false, not_true_eq_false, not_false_eq_true, false_implies, implies_true, forall_const, if_true, if_false, and_self, Nat.reduceEqDiff, Nat.reduceLeDiff, Nat.reduceSub, Nat.reduceAdd, Nat.zero_le, Nat.le_refl, i10, i01, lt_le, Int32.reduceSub, cl0, cl6, Kc_v, Sum.inl.injEq, Option.some.injEq, Value.int.injEq, exists_eq_left', Nat.reduceLT, hAe, kc0, kc15, kc17, kc18, kc22, kc29, kc30, kc37, kc39, kn18, kn29, kn30, kr0_7, kr0_9, kr17_0, kr22_7, kr22_8, kr29_0, kz, b5, be0, x0, x1, v18, cl6]
        first | refine ⟨⟨?_, ?_, ?_, ?_, ?_, ?_, ?_, ?_, ?_, ?_, ?_, ?_⟩, rfl⟩ | refine ⟨?_, ?_, ?_, ?_, ?_, ?_, ?_, ?_, ?_, ?_, ?_, ?_⟩
        · (try simp only [K_pi, K_pl])
          exact vk
        · (try simp only [Cn_pi_j18 hA, Cn_pi_j22 hA, Cn_pi_j30 hA, Cn_pl])
          exact vcn
        · (try simp only [Vq0_pi_j18 hA, Vq0_pi_j22 hA, Vq0_pi_j30 hA, Vq0_pl])
          exact v0
        · (try simp only [Vq1_pi_j18 hA, Vq1_pi_j22 hA, Vq1_pi_j30 hA, Vq1_pl])
          exact v1
        · (try simp only [Vq2_pi_j18 hA, Vq2_pi_j22 hA, Vq2_pi_j30 hA, Vq2_pl])
          exact v2
        · (try simp only [Vp_pi_j18 hA, Vp_pi_j30 hA, Vp_thr hA, Vp_pl])
          exact vp
        · (try simp only [Vl0_pi_j18 hA, Vl0_pi_j22 hA, Vl0_pi_j30 hA, Vl0_pl])
          exact vl0
        · (try simp only [Vl1_pi_j18 hA, Vl1_pi_j22 hA, Vl1_pi_j30 hA, Vl1_pl])
          exact vl1
        · (try simp only [Vlr_pi_j18 hA, Vlr_pi_j22 hA, Vlr_pi_j30 hA, Vlr_pl_j39 hA])
          exact vlr
        · (try simp only [Vsr_pi_j18 hA, Vsr_pi_j22 hA, Vsr_pi_j30 hA, Vsr_pl_j39 hA])
          exact vsr
        · refine Vc_of (c := 6) vc (by decide) (fun k => ?_) (fun k => ?_) <;> simp only [mi_pi, mi_pl, hAe, Nat.reduceLT, Nat.reduceEqDiff, false_and, true_and, if_false]
        · (try simp only [Tx_pi_j18 hA, Tx_pi_j22 hA, Tx_pi_j30 hA, Tx_pl])
          exact tx
      · skip
        simp only [o316_0, o316_1, o316_2, o316_3, o316_4, o316_7, o316_8, o316_11, o316_18, o316_19, o91_0, o91_1, o91_2, o91_5, o91_6, o91_7, o91_10, o91_11, o91_12, o91_15, o91_18, o91_19, o91_22, o91_24, o91_27, o91_28, o91_29, o91_30, o221_0, o221_1, o221_2, o221_5, o221_8, o221_9, o221_12, o221_13, o221_16, o221_19, o221_20, o221_21, o221_22, o221_25, o221_26, o221_27, o221_30, o221_31, o221_32, o221_35, o221_38, o221_39, o221_41, o221_44, o221_45, o221_46, o221_49, o221_50, o221_51, o221_52, c_X8_isThrown__, c_X8_isLens, c_lensOf_0, c_ref_6 (cs := A 18), c_X8_no (cs := A 30), mc_pi, mc_pl, mn_pi, mn_pl, mi_pi, mi_pl, ml_pi, ml_pl, mr_pi, mr_pl, mz_pi, mz_pl, mcs_0, mcs_r, Kn_v, mrf_some, true_and, and_true, or_false, not_true_eq_false, not_false_eq_true, false_implies, implies_true, forall_const, if_true, if_false, and_self, Nat.reduceEqDiff, Nat.reduceLeDiff, Nat.reduceSub, Nat.reduceAdd, Nat.zero_le, Nat.le_refl, i10, i01, lt_le, Int32.reduceSub, cl0, cl6, Kc_v, Sum.inl.injEq, Option.some.injEq, Value.int.injEq, exists_eq_left', Nat.reduceLT, hAe, kc0, kc15, kc17, kc18, kc22, kc29, kc30, kc37, kc39, kn18, kn29, kn30, kr0_7, kr0_9, kr17_0, kr22_7, kr22_8, kr29_0, kz, b5, be0, x0, x1, v18, cl6]
        first | refine ⟨⟨?_, ?_, ?_, ?_, ?_, ?_, ?_, ?_, ?_, ?_, ?_, ?_⟩, rfl⟩ | refine ⟨?_, ?_, ?_, ?_, ?_, ?_, ?_, ?_, ?_, ?_, ?_, ?_⟩
        · (try simp only [K_pi, K_pl])
          exact vk
        · (try simp only [Cn_pi_j18 hA, Cn_pi_j22 hA, Cn_pi_j30 hA, Cn_pl])
          exact vcn
        · (try simp only [Vq0_pi_j18 hA, Vq0_pi_j22 hA, Vq0_pi_j30 hA, Vq0_pl])
          exact v0
        · (try simp only [Vq1_pi_j18 hA, Vq1_pi_j22 hA, Vq1_pi_j30 hA, Vq1_pl])
          exact v1
        · (try simp only [Vq2_pi_j18 hA, Vq2_pi_j22 hA, Vq2_pi_j30 hA, Vq2_pl])
          exact v2
        · (try simp only [Vp_pi_j18 hA, Vp_pi_j30 hA, Vp_thr hA, Vp_pl])
          exact vp
        · (try simp only [Vl0_pi_j18 hA, Vl0_pi_j22 hA, Vl0_pi_j30 hA, Vl0_pl])
          exact vl0
        · (try simp only [Vl1_pi_j18 hA, Vl1_pi_j22 hA, Vl1_pi_j30 hA, Vl1_pl])
          exact vl1
        · (try simp only [Vlr_pi_j18 hA, Vlr_pi_j22 hA, Vlr_pi_j30 hA, Vlr_pl_j39 hA])
          exact vlr
        · (try simp only [Vsr_pi_j18 hA, Vsr_pi_j22 hA, Vsr_pi_j30 hA, Vsr_pl_j39 hA])
          exact vsr
        · refine Vc_of (c := 6) vc (by decide) (fun k => ?_) (fun k => ?_) <;> simp only [mi_pi, mi_pl, hAe, Nat.reduceLT, Nat.reduceEqDiff, false_and, true_and, if_false]
        · (try simp only [Tx_pi_j18 hA, Tx_pi_j22 hA, Tx_pi_j30 hA, Tx_pl])
          exact tx
      · skip
        simp only [o316_0, o316_1, o316_2, o316_3, o316_4, o316_7, o316_8, o316_11, o316_18, o316_19, o91_0, o91_1, o91_2, o91_5, o91_6, o91_7, o91_10, o91_11, o91_12, o91_15, o91_18, o91_19, o91_22, o91_24, o91_27, o91_28, o91_29, o91_30, o221_0, o221_1, o221_2, o221_5, o221_8, o221_9, o221_12, o221_13, o221_16, o221_19, o221_20, o221_21, o221_22, o221_25, o221_26, o221_27, o221_30, o221_31, o221_32, o221_35, o221_38, o221_39, o221_41, o221_44, o221_45, o221_46, o221_49, o221_50, o221_51, o221_52, c_X8_isThrown__, c_X8_isLens, c_lensOf_0, c_ref_6 (cs := A 18), c_X8_no (cs := A 30), mc_pi, mc_pl, mn_pi, mn_pl, mi_pi, mi_pl, ml_pi, ml_pl, mr_pi, mr_pl, mz_pi, mz_pl, mcs_0, mcs_r, Kn_v, mrf_some, true_and, and_true, or_false, not_true_eq_false, not_false_eq_true, false_implies, implies_true, forall_const, if_true, if_false, and_self, Nat.reduceEqDiff, Nat.reduceLeDiff, Nat.reduceSub, Nat.reduceAdd, Nat.zero_le, Nat.le_refl, i10, i01, lt_le, Int32.reduceSub, cl0, cl6, Kc_v, Sum.inl.injEq, Option.some.injEq, Value.int.injEq, exists_eq_left', Nat.reduceLT, hAe, kc0, kc15, kc17, kc18, kc22, kc29, kc30, kc37, kc39, kn18, kn29, kn30, kr0_7, kr0_9, kr17_0, kr22_7, kr22_8, kr29_0, kz, b5, be0, x0, x1, v18, cl6]
        first | refine ⟨⟨?_, ?_, ?_, ?_, ?_, ?_, ?_, ?_, ?_, ?_, ?_, ?_⟩, rfl⟩ | refine ⟨?_, ?_, ?_, ?_, ?_, ?_, ?_, ?_, ?_, ?_, ?_, ?_⟩
        · (try simp only [K_pi, K_pl])
          exact vk
        · (try simp only [Cn_pi_j18 hA, Cn_pi_j22 hA, Cn_pi_j30 hA, Cn_pl])
          exact vcn
        · (try simp only [Vq0_pi_j18 hA, Vq0_pi_j22 hA, Vq0_pi_j30 hA, Vq0_pl])
          exact v0
        · (try simp only [Vq1_pi_j18 hA, Vq1_pi_j22 hA, Vq1_pi_j30 hA, Vq1_pl])
          exact v1
        · (try simp only [Vq2_pi_j18 hA, Vq2_pi_j22 hA, Vq2_pi_j30 hA, Vq2_pl])
          exact v2
        · (try simp only [Vp_pi_j18 hA, Vp_pi_j30 hA, Vp_thr hA, Vp_pl])
          exact vp
        · (try simp only [Vl0_pi_j18 hA, Vl0_pi_j22 hA, Vl0_pi_j30 hA, Vl0_pl])
          exact vl0
        · (try simp only [Vl1_pi_j18 hA, Vl1_pi_j22 hA, Vl1_pi_j30 hA, Vl1_pl])
          exact vl1
        · (try simp only [Vlr_pi_j18 hA, Vlr_pi_j22 hA, Vlr_pi_j30 hA, Vlr_pl_j39 hA])
          exact vlr
        · (try simp only [Vsr_pi_j18 hA, Vsr_pi_j22 hA, Vsr_pi_j30 hA, Vsr_pl_j39 hA])
          exact vsr
        · refine Vc_of (c := 6) vc (by decide) (fun k => ?_) (fun k => ?_) <;> simp only [mi_pi, mi_pl, hAe, Nat.reduceLT, Nat.reduceEqDiff, false_and, true_and, if_false]
        · (try simp only [Tx_pi_j18 hA, Tx_pi_j22 hA, Tx_pi_j30 hA, Tx_pl])
          exact tx
      · have hq9 := lnP ln x0 x1
        simp only [o316_0, o316_1, o316_2, o316_3, o316_4, o316_7, o316_8, o316_11, o316_18, o316_19, o91_0, o91_1, o91_2, o91_5, o91_6, o91_7, o91_10, o91_11, o91_12, o91_15, o91_18, o91_19, o91_22, o91_24, o91_28, o91_29, o91_30, o91_33, o91_34, o91_37, o91_38, o91_41, o91_44, o221_0, o221_1, o221_2, o221_5, o221_8, o221_9, o221_12, o221_13, o221_16, o221_19, o221_20, o221_21, o221_22, o221_25, o221_26, o221_27, o221_30, o221_31, o221_32, o221_35, o221_38, o221_39, o221_41, o221_45, o221_46, o221_49, o221_50, o221_51, o221_52, o221_55, o221_56, o221_57, o221_60, o221_61, o221_62, o221_65, o221_68, c_X8_isThrown__, c_X8_isLens, c_lensOf_0, c_X3_setPlace, c_X7_toPlace, c_X3_rests, c_X7_rests, c_X0_done (cs := A 18), c_X8_done (cs := A 30), mc_pi, mc_pl, mn_pi, mn_pl, mi_pi, mi_pl, ml_pi, ml_pl, mr_pi, mr_pl, mz_pi, mz_pl, mcs_0, mcs_r, Kn_v, Kn_0, mrf_some, true_and, and_true, and_false, or_false, not_true_eq_false, not_false_eq_true, false_implies, implies_true, forall_const, if_true, if_false, and_self, Nat.reduceEqDiff, Nat.reduceLeDiff, Nat.reduceSub, Nat.reduceAdd, Nat.zero_le, Nat.le_refl, i10, i01, lt_le, cl0, Kc_v, Sum.inl.injEq, Option.some.injEq, Value.int.injEq, exists_eq_left', Nat.reduceLT, hAe, kc0, kc15, kc17, kc18, kc22, kc29, kc30, kc37, kc39, kn18, kn29, kn30, kr0_7, kr0_9, kr17_0, kr22_7, kr22_8, kr29_0, kz, b4, b5, b6, be0, x0, x1, liM]
        simp only [liM] at hq9
        first | refine ⟨⟨?_, ?_, ?_, ?_, ?_, ?_, ?_, ?_, ?_, ?_, ?_, ?_⟩, rfl⟩ | refine ⟨?_, ?_, ?_, ?_, ?_, ?_, ?_, ?_, ?_, ?_, ?_, ?_⟩
        · (try simp only [K_pi, K_pl])
          exact vk
        · (try simp only [Cn_pi_j18 hA, Cn_pi_j22 hA, Cn_pi_j30 hA, Cn_pi_j15 hA, Cn_pi_j37 hA, Cn_pl])
          exact vcn
        · (try simp only [Vq0_pi_j18 hA, Vq0_pi_j22 hA, Vq0_pi_j30 hA, Vq0_pi_j15 hA, Vq0_pi_j37 hA, Vq0_pl])
          exact v0
        · (try simp only [Vq1_pi_j18 hA, Vq1_pi_j22 hA, Vq1_pi_j30 hA, Vq1_pi_j15 hA, Vq1_pi_j37 hA, Vq1_pl])
          exact v1
        · (try simp only [Vq2_pi_j18 hA, Vq2_pi_j22 hA, Vq2_pi_j30 hA, Vq2_pi_j15 hA, Vq2_pi_j37 hA, Vq2_pl])
          exact v2
        · (try simp only [Vp_pi_j18 hA, Vp_pi_j30 hA, Vp_pi_j15 hA, Vp_pi_j37 hA, Vp_thr hA, Vp_pl])
          exact vp
        · simp only [Vl0, mi_pi, mi_pl, hAe, Nat.reduceLT, Nat.reduceEqDiff, and_false, true_and, and_true, if_false, if_true, b1, b2, b3, b4, b5, b6, true_and, and_self]
          first | exact hq9 | exact ⟨⟨rfl, rfl, rfl, rfl, rfl, rfl⟩, hq9⟩ | (refine ⟨⟨?_, ?_, ?_, ?_, ?_, ?_⟩, hq9⟩ <;> first | rfl | trivial)
        · (try simp only [Vl1_pi_j18 hA, Vl1_pi_j22 hA, Vl1_pi_j30 hA, Vl1_pi_j15 hA, Vl1_pi_j37 hA, Vl1_pl])
          exact vl1
        · (try simp only [Vlr_pi_j18 hA, Vlr_pi_j22 hA, Vlr_pi_j30 hA, Vlr_pi_j15 hA, Vlr_pi_j37 hA, Vlr_pl_j39 hA])
          exact vlr
        · (try simp only [Vsr_pi_j18 hA, Vsr_pi_j22 hA, Vsr_pi_j30 hA, Vsr_pi_j15 hA, Vsr_pi_j37 hA, Vsr_pl_j39 hA])
          exact vsr
        · refine Vc_of (c := 0) vc (by decide) (fun k => ?_) (fun k => ?_) <;> simp only [mi_pi, mi_pl, hAe, Nat.reduceLT, Nat.reduceEqDiff, false_and, true_and, if_false]
        · (try simp only [Tx_pi_j18 hA, Tx_pi_j22 hA, Tx_pi_j30 hA, Tx_pi_j15 hA, Tx_pi_j37 hA, Tx_pl])
          exact tx
    · have hl2 := vl1
      obtain ⟨⟨b1, b2, b3, b4, b5, b6⟩, ln⟩ := hl2
      replace b1 := b1.symm
      replace b2 := b2.symm
      replace b3 := b3.symm
      replace b4 := b4.symm
      replace b5 := b5.symm
      replace b6 := b6.symm
      rw [b1, b2, b3, b4, b5, b6] at ln
      by_cases x0 : x < 0 <;> by_cases x1 : g_i h (A 16) 5 < x
      · skip
        simp only [o316_0, o316_1, o316_2, o316_3, o316_4, o316_7, o316_8, o316_11, o316_18, o316_19, o91_0, o91_1, o91_2, o91_5, o91_6, o91_7, o91_10, o91_11, o91_12, o91_15, o91_18, o91_19, o91_22, o91_24, o91_27, o91_28, o91_29, o91_30, o221_0, o221_1, o221_2, o221_5, o221_8, o221_9, o221_12, o221_13, o221_16, o221_19, o221_20, o221_21, o221_22, o221_25, o221_26, o221_27, o221_30, o221_31, o221_32, o221_35, o221_38, o221_39, o221_41, o221_44, o221_45, o221_46, o221_49, o221_50, o221_51, o221_52, c_X8_isThrown__, c_X8_isLens, c_lensOf_1, c_ref_6 (cs := A 18), c_X8_no (cs := A 30), mc_pi, mc_pl, mn_pi, mn_pl, mi_pi, mi_pl, ml_pi, ml_pl, mr_pi, mr_pl, mz_pi, mz_pl, mcs_0, mcs_r, Kn_v, mrf_some, true_and, and_true, or_true, not_true_eq_false, not_false_eq_true, false_implies, implies_true, forall_const, if_true, if_false, and_self, Nat.reduceEqDiff, Nat.reduceLeDiff, Nat.reduceSub, Nat.reduceAdd, Nat.zero_le, Nat.le_refl, i10, lt_le, Int32.reduceSub, cl1, cl6, Kc_v, Sum.inl.injEq, Option.some.injEq, Value.int.injEq, exists_eq_left', Nat.reduceLT, hAe, kc0, kc16, kc17, kc18, kc22, kc29, kc30, kc38, kc39, kn18, kn29, kn30, kr0_8, kr0_9, kr17_0, kr22_7, kr22_8, kr29_1, kz, b5, be0, x0, x1, v18, cl6]
        first | refine ⟨⟨?_, ?_, ?_, ?_, ?_, ?_, ?_, ?_, ?_, ?_, ?_, ?_⟩, rfl⟩ | refine ⟨?_, ?_, ?_, ?_, ?_, ?_, ?_, ?_, ?_, ?_, ?_, ?_⟩
        · (try simp only [K_pi, K_pl])
          exact vk
        · (try simp only [Cn_pi_j18 hA, Cn_pi_j22 hA, Cn_pi_j30 hA, Cn_pl])
          exact vcn
        · (try simp only [Vq0_pi_j18 hA, Vq0_pi_j22 hA, Vq0_pi_j30 hA, Vq0_pl])
          exact v0
        · (try simp only [Vq1_pi_j18 hA, Vq1_pi_j22 hA, Vq1_pi_j30 hA, Vq1_pl])
          exact v1
        · (try simp only [Vq2_pi_j18 hA, Vq2_pi_j22 hA, Vq2_pi_j30 hA, Vq2_pl])
          exact v2
        · (try simp only [Vp_pi_j18 hA, Vp_pi_j30 hA, Vp_thr hA, Vp_pl])
          exact vp
        · (try simp only [Vl0_pi_j18 hA, Vl0_pi_j22 hA, Vl0_pi_j30 hA, Vl0_pl])
          exact vl0
        · (try simp only [Vl1_pi_j18 hA, Vl1_pi_j22 hA, Vl1_pi_j30 hA, Vl1_pl])
          exact vl1
        · (try simp only [Vlr_pi_j18 hA, Vlr_pi_j22 hA, Vlr_pi_j30 hA, Vlr_pl_j39 hA])
          exact vlr
        · (try simp only [Vsr_pi_j18 hA, Vsr_pi_j22 hA, Vsr_pi_j30 hA, Vsr_pl_j39 hA])
          exact vsr
        · refine Vc_of (c := 6) vc (by decide) (fun k => ?_) (fun k => ?_) <;> simp only [mi_pi, mi_pl, hAe, Nat.reduceLT, Nat.reduceEqDiff, false_and, true_and, if_false]
        · (try simp only [Tx_pi_j18 hA, Tx_pi_j22 hA, Tx_pi_j30 hA, Tx_pl])
          exact tx
      · skip
        simp only [o316_0, o316_1, o316_2, o316_3, o316_4, o316_7, o316_8, o316_11, o316_18, o316_19, o91_0, o91_1, o91_2, o91_5, o91_6, o91_7, o91_10, o91_11, o91_12, o91_15, o91_18, o91_19, o91_22, o91_24, o91_27, o91_28, o91_29, o91_30, o221_0, o221_1, o221_2, o221_5, o221_8, o221_9, o221_12, o221_13, o221_16, o221_19, o221_20, o221_21, o221_22, o221_25, o221_26, o221_27, o221_30, o221_31, o221_32, o221_35, o221_38, o221_39, o221_41, o221_44, o221_45, o221_46, o221_49, o221_50, o221_51, o221_52, c_X8_isThrown__, c_X8_isLens, c_lensOf_1, c_ref_6 (cs := A 18), c_X8_no (cs := A 30), mc_pi, mc_pl, mn_pi, mn_pl, mi_pi, mi_pl, ml_pi, ml_pl, mr_pi, mr_pl, mz_pi, mz_pl, mcs_0, mcs_r, Kn_v, mrf_some, true_and, and_true, or_true, not_true_eq_false, not_false_eq_true, false_implies, implies_true, forall_const, if_true, if_false, and_self, Nat.reduceEqDiff, Nat.reduceLeDiff, Nat.reduceSub, Nat.reduceAdd, Nat.zero_le, Nat.le_refl, i10, lt_le, Int32.reduceSub, cl1, cl6, Kc_v, Sum.inl.injEq, Option.some.injEq, Value.int.injEq, exists_eq_left', Nat.reduceLT, hAe, kc0, kc16, kc17, kc18, kc22, kc29, kc30, kc38, kc39, kn18, kn29, kn30, kr0_8, kr0_9, kr17_0, kr22_7, kr22_8, kr29_1, kz, b5, be0, x0, x1, v18, cl6]
        first | refine ⟨⟨?_, ?_, ?_, ?_, ?_, ?_, ?_, ?_, ?_, ?_, ?_, ?_⟩, rfl⟩ | refine ⟨?_, ?_, ?_, ?_, ?_, ?_, ?_, ?_, ?_, ?_, ?_, ?_⟩
        · (try simp only [K_pi, K_pl])
          exact vk
        · (try simp only [Cn_pi_j18 hA, Cn_pi_j22 hA, Cn_pi_j30 hA, Cn_pl])
          exact vcn
        · (try simp only [Vq0_pi_j18 hA, Vq0_pi_j22 hA, Vq0_pi_j30 hA, Vq0_pl])
          exact v0
        · (try simp only [Vq1_pi_j18 hA, Vq1_pi_j22 hA, Vq1_pi_j30 hA, Vq1_pl])
          exact v1
        · (try simp only [Vq2_pi_j18 hA, Vq2_pi_j22 hA, Vq2_pi_j30 hA, Vq2_pl])
          exact v2
        · (try simp only [Vp_pi_j18 hA, Vp_pi_j30 hA, Vp_thr hA, Vp_pl])
          exact vp
        · (try simp only [Vl0_pi_j18 hA, Vl0_pi_j22 hA, Vl0_pi_j30 hA, Vl0_pl])
          exact vl0
        · (try simp only [Vl1_pi_j18 hA, Vl1_pi_j22 hA, Vl1_pi_j30 hA, Vl1_pl])
          exact vl1
        · (try simp only [Vlr_pi_j18 hA, Vlr_pi_j22 hA, Vlr_pi_j30 hA, Vlr_pl_j39 hA])
          exact vlr
        · (try simp only [Vsr_pi_j18 hA, Vsr_pi_j22 hA, Vsr_pi_j30 hA, Vsr_pl_j39 hA])
          exact vsr
        · refine Vc_of (c := 6) vc (by decide) (fun k => ?_) (fun k => ?_) <;> simp only [mi_pi, mi_pl, hAe, Nat.reduceLT, Nat.reduceEqDiff, false_and, true_and, if_false]
        · (try simp only [Tx_pi_j18 hA, Tx_pi_j22 hA, Tx_pi_j30 hA, Tx_pl])
          exact tx
      · skip
        simp only [o316_0, o316_1, o316_2, o316_3, o316_4, o316_7, o316_8, o316_11, o316_18, o316_19, o91_0, o91_1, o91_2, o91_5, o91_6, o91_7, o91_10, o91_11, o91_12, o91_15, o91_18, o91_19, o91_22, o91_24, o91_27, o91_28, o91_29, o91_30, o221_0, o221_1, o221_2, o221_5, o221_8, o221_9, o221_12, o221_13, o221_16, o221_19, o221_20, o221_21, o221_22, o221_25, o221_26, o221_27, o221_30, o221_31, o221_32, o221_35, o221_38, o221_39, o221_41, o221_44, o221_45, o221_46, o221_49, o221_50, o221_51, o221_52, c_X8_isThrown__, c_X8_isLens, c_lensOf_1, c_ref_6 (cs := A 18), c_X8_no (cs := A 30), mc_pi, mc_pl, mn_pi, mn_pl, mi_pi, mi_pl, ml_pi, ml_pl, mr_pi, mr_pl, mz_pi, mz_pl, mcs_0, mcs_r, Kn_v, mrf_some, true_and, and_true, or_true, not_true_eq_false, not_false_eq_true, false_implies, implies_true, forall_const, if_true, if_false, and_self, Nat.reduceEqDiff, Nat.reduceLeDiff, Nat.reduceSub, Nat.reduceAdd, Nat.zero_le, Nat.le_refl, i10, lt_le, Int32.reduceSub, cl1, cl6, Kc_v, Sum.inl.injEq, Option.some.injEq, Value.int.injEq, exists_eq_left', Nat.reduceLT, hAe, kc0, kc16, kc17, kc18, kc22, kc29, kc30, kc38, kc39, kn18, kn29, kn30, kr0_8, kr0_9, kr17_0, kr22_7, kr22_8, kr29_1, kz, b5, be0, x0, x1, v18, cl6]
        first | refine ⟨⟨?_, ?_, ?_, ?_, ?_, ?_, ?_, ?_, ?_, ?_, ?_, ?_⟩, rfl⟩ | refine ⟨?_, ?_, ?_, ?_, ?_, ?_, ?_, ?_, ?_, ?_, ?_, ?_⟩
        · (try simp only [K_pi, K_pl])
          exact vk
        · (try simp only [Cn_pi_j18 hA, Cn_pi_j22 hA, Cn_pi_j30 hA, Cn_pl])
          exact vcn
        · (try simp only [Vq0_pi_j18 hA, Vq0_pi_j22 hA, Vq0_pi_j30 hA, Vq0_pl])
          exact v0
        · (try simp only [Vq1_pi_j18 hA, Vq1_pi_j22 hA, Vq1_pi_j30 hA, Vq1_pl])
          exact v1
        · (try simp only [Vq2_pi_j18 hA, Vq2_pi_j22 hA, Vq2_pi_j30 hA, Vq2_pl])
          exact v2
        · (try simp only [Vp_pi_j18 hA, Vp_pi_j30 hA, Vp_thr hA, Vp_pl])
          exact vp
        · (try simp only [Vl0_pi_j18 hA, Vl0_pi_j22 hA, Vl0_pi_j30 hA, Vl0_pl])
          exact vl0
        · (try simp only [Vl1_pi_j18 hA, Vl1_pi_j22 hA, Vl1_pi_j30 hA, Vl1_pl])
          exact vl1
        · (try simp only [Vlr_pi_j18 hA, Vlr_pi_j22 hA, Vlr_pi_j30 hA, Vlr_pl_j39 hA])
          exact vlr
        · (try simp only [Vsr_pi_j18 hA, Vsr_pi_j22 hA, Vsr_pi_j30 hA, Vsr_pl_j39 hA])
          exact vsr
        · refine Vc_of (c := 6) vc (by decide) (fun k => ?_) (fun k => ?_) <;> simp only [mi_pi, mi_pl, hAe, Nat.reduceLT, Nat.reduceEqDiff, false_and, true_and, if_false]
        · (try simp only [Tx_pi_j18 hA, Tx_pi_j22 hA, Tx_pi_j30 hA, Tx_pl])
          exact tx
      · have hq9 := lnP ln x0 x1
        simp only [o316_0, o316_1, o316_2, o316_3, o316_4, o316_7, o316_8, o316_11, o316_18, o316_19, o91_0, o91_1, o91_2, o91_5, o91_6, o91_7, o91_10, o91_11, o91_12, o91_15, o91_18, o91_19, o91_22, o91_24, o91_28, o91_29, o91_30, o91_33, o91_34, o91_37, o91_38, o91_41, o91_44, o221_0, o221_1, o221_2, o221_5, o221_8, o221_9, o221_12, o221_13, o221_16, o221_19, o221_20, o221_21, o221_22, o221_25, o221_26, o221_27, o221_30, o221_31, o221_32, o221_35, o221_38, o221_39, o221_41, o221_45, o221_46, o221_49, o221_50, o221_51, o221_52, o221_55, o221_56, o221_57, o221_60, o221_61, o221_62, o221_65, o221_68, c_X8_isThrown__, c_X8_isLens, c_lensOf_1, c_X3_setPlace, c_X7_toPlace, c_X3_rests, c_X7_rests, c_X0_done (cs := A 18), c_X8_done (cs := A 30), mc_pi, mc_pl, mn_pi, mn_pl, mi_pi, mi_pl, ml_pi, ml_pl, mr_pi, mr_pl, mz_pi, mz_pl, mcs_0, mcs_r, Kn_v, Kn_0, mrf_some, true_and, and_true, and_false, or_true, not_true_eq_false, not_false_eq_true, false_implies, implies_true, forall_const, if_true, if_false, and_self, Nat.reduceEqDiff, Nat.reduceLeDiff, Nat.reduceSub, Nat.reduceAdd, Nat.zero_le, Nat.le_refl, i10, lt_le, cl1, Kc_v, Sum.inl.injEq, Option.some.injEq, Value.int.injEq, exists_eq_left', Nat.reduceLT, hAe, kc0, kc16, kc17, kc18, kc22, kc29, kc30, kc38, kc39, kn18, kn29, kn30, kr0_8, kr0_9, kr17_0, kr22_7, kr22_8, kr29_1, kz, b4, b5, b6, be0, x0, x1, liM]
        simp only [liM] at hq9
        first | refine ⟨⟨?_, ?_, ?_, ?_, ?_, ?_, ?_, ?_, ?_, ?_, ?_, ?_⟩, rfl⟩ | refine ⟨?_, ?_, ?_, ?_, ?_, ?_, ?_, ?_, ?_, ?_, ?_, ?_⟩
        · (try simp only [K_pi, K_pl])
          exact vk
        · (try simp only [Cn_pi_j18 hA, Cn_pi_j22 hA, Cn_pi_j30 hA, Cn_pi_j16 hA, Cn_pi_j38 hA, Cn_pl])
          exact vcn
        · (try simp only [Vq0_pi_j18 hA, Vq0_pi_j22 hA, Vq0_pi_j30 hA, Vq0_pi_j16 hA, Vq0_pi_j38 hA, Vq0_pl])
          exact v0
        · (try simp only [Vq1_pi_j18 hA, Vq1_pi_j22 hA, Vq1_pi_j30 hA, Vq1_pi_j16 hA, Vq1_pi_j38 hA, Vq1_pl])
          exact v1
        · (try simp only [Vq2_pi_j18 hA, Vq2_pi_j22 hA, Vq2_pi_j30 hA, Vq2_pi_j16 hA, Vq2_pi_j38 hA, Vq2_pl])
          exact v2
        · (try simp only [Vp_pi_j18 hA, Vp_pi_j30 hA, Vp_pi_j16 hA, Vp_pi_j38 hA, Vp_thr hA, Vp_pl])
          exact vp
        · (try simp only [Vl0_pi_j18 hA, Vl0_pi_j22 hA, Vl0_pi_j30 hA, Vl0_pi_j16 hA, Vl0_pi_j38 hA, Vl0_pl])
          exact vl0
        · simp only [Vl1, mi_pi, mi_pl, hAe, Nat.reduceLT, Nat.reduceEqDiff, and_false, true_and, and_true, if_false, if_true, b1, b2, b3, b4, b5, b6, true_and, and_self]
          first | exact hq9 | exact ⟨⟨rfl, rfl, rfl, rfl, rfl, rfl⟩, hq9⟩ | (refine ⟨⟨?_, ?_, ?_, ?_, ?_, ?_⟩, hq9⟩ <;> first | rfl | trivial)
        · (try simp only [Vlr_pi_j18 hA, Vlr_pi_j22 hA, Vlr_pi_j30 hA, Vlr_pi_j16 hA, Vlr_pi_j38 hA, Vlr_pl_j39 hA])
          exact vlr
        · (try simp only [Vsr_pi_j18 hA, Vsr_pi_j22 hA, Vsr_pi_j30 hA, Vsr_pi_j16 hA, Vsr_pi_j38 hA, Vsr_pl_j39 hA])
          exact vsr
        · refine Vc_of (c := 0) vc (by decide) (fun k => ?_) (fun k => ?_) <;> simp only [mi_pi, mi_pl, hAe, Nat.reduceLT, Nat.reduceEqDiff, false_and, true_and, if_false]
        · (try simp only [Tx_pi_j18 hA, Tx_pi_j22 hA, Tx_pi_j30 hA, Tx_pi_j16 hA, Tx_pi_j38 hA, Tx_pl])
          exact tx

theorem hx_317_1 {l rest : List Value} {bc bs : Nat} {Q : MR → MH → Prop} {h : MH} : Kc Ok 317 4 7 l rest bc bs Q (.inr 1) h ↔ ∀ q : Nat, Ok 317 14 l [.ref q] h bc bs Q := Kc_x (by decide +kernel) (by decide +kernel)
theorem op_lensLimit {A : Nat → Nat} {h : MH} (R : Rl A h) {e x : Int32} : Ok 317 0 [.ref (A 0), .int e, .int x, .ref (A 39), mk0] [] h 1 6 (fun r h1 => ∃ k : Int32, r = .inl (some (.int k)) ∧ g_c h1 (A 22) = 9 ∧ Ok 222 0 [.ref (A 22), .int e, .int x] [] h1 0 0 (fun r2 h2 => ∃ b : Int32, r2 = .inl (some (.int b)) ∧ Rl A h2 ∧ g_i h2 (A 22) 9 = k ∧ (k = 0 → g_l h2 (A 39) 0 = b.toInt64))) := by
  obtain ⟨vk, vcn, v0, v1, v2, vp, vl0, vl1, vlr, vsr, vc, tx⟩ := R
  have vk0 := vk
  have vcn0 := vcn
  (refine K_el vk0 ?_; intros hA kc0 kc1 kc2 kc3 kc4 kc5 kc6 kc7 kc8 kc9 kc10 kc11 kc12 kc13 kc14 kc15 kc16 kc17 kc18 kc19 kc20 kc21 kc22 kc23 kc24 kc25 kc26 kc27 kc28 kc29 kc30 kc31 kc32 kc33 kc34 kc35 kc36 kc37 kc38 kc39 kz kt kn3 kn4 kn18 kn21 kn23 kn24 kn25 kn26 kn27 kn29 kn30 kr0_0 kr0_1 kr0_2 kr0_3 kr0_4 kr0_5 kr0_7 kr0_8 kr0_9 kr0_10 kr1_0 kr2_0 kr5_0 kr5_1 kr6_0 kr6_1 kr7_0 kr7_1 kr8_0 kr9_0 kr10_0 kr11_0 kr12_0 kr13_0 kr14_0 kr15_0 kr16_0 kr17_0 kr19_0 kr19_1 kr22_0 kr22_1 kr22_2 kr22_3 kr22_4 kr22_5 kr22_7 kr22_8 kr25_0 kr25_1 kr25_2 kr26_0 kr26_1 kr26_2 kr29_0 kr29_1)
  (refine Cn_el vcn0 ?_; intros ki5_2 ki6_2 ki7_2 ki8_1 ki8_2 ki8_3 ki9_1 ki9_2 ki9_3 ki10_1 ki10_2 ki10_3 ki11_1 ki11_2 ki11_3 ki12_1 ki12_2 ki12_3 ki13_1 ki13_2 ki13_3 ki14_1 ki14_2 ki14_3 ki28_0 ki28_1 ki31_0 ki31_1 ki32_0 ki32_1 ki33_0 ki33_1 ki34_0 ki34_1 ki35_0 ki35_1 ki36_0 ki36_1)
  have hAe : ∀ i j, i < 40 → j < 40 → (A i = A j ↔ i = j) := hA
  by_cases be : e < 0 ∨ ¬ e < 2
  · have be2 := e_bad be
    simp only [o317_0, o317_1, o317_2, o317_3, o317_4, o317_14, o317_16, o317_17, o92_0, o92_1, o92_2, o222_0, o222_1, o222_2, o222_5, o222_8, o222_9, o222_12, o222_13, o222_16, o222_19, o222_20, o222_21, o222_22, o222_25, o222_26, o222_27, o222_30, o222_31, o222_38, o222_39, o222_41, hx_317_1, c_X8_isThrown__, c_X8_isLens, c_lensOf_bad, mc_pi, mc_pT, mn_pi, mn_pT, mi_pi, mi_pT, ml_pi, ml_pT, mr_pi, mr_pT, mz_pT, mcs_0, mcs_r, Kn_v, Kn_x, mrf_some, true_and, and_true, not_true_eq_false, not_false_eq_true, false_implies, forall_const, if_true, if_false, and_self, Nat.reduceLeDiff, Nat.reduceSub, Nat.reduceAdd, Nat.zero_le, Nat.le_refl, i10, Sum.inl.injEq, Option.some.injEq, Value.int.injEq, exists_eq_left', Nat.reduceLT, kc0, kc22, kc29, kn29, kr22_7, kz, be, be2]
    intro t ht
    first | refine ⟨⟨?_, ?_, ?_, ?_, ?_, ?_, ?_, ?_, ?_, ?_, ?_, ?_⟩, rfl⟩ | refine ⟨?_, ?_, ?_, ?_, ?_, ?_, ?_, ?_, ?_, ?_, ?_, ?_⟩
    · (try simp only [K_pi])
      exact K_pT ht vk
    · (try simp only [Cn_pi_j22 hA, Cn_pT])
      exact vcn
    · (try simp only [Vq0_pi_j22 hA, Vq0_pT])
      exact v0
    · (try simp only [Vq1_pi_j22 hA, Vq1_pT])
      exact v1
    · (try simp only [Vq2_pi_j22 hA, Vq2_pT])
      exact v2
    · (try simp only [Vp_thr hA, Vp_pT])
      exact vp
    · (try simp only [Vl0_pi_j22 hA, Vl0_pT])
      exact vl0
    · (try simp only [Vl1_pi_j22 hA, Vl1_pT])
      exact vl1
    · (try simp only [Vlr_pi_j22 hA, Vlr_pT])
      exact vlr
    · (try simp only [Vsr_pi_j22 hA, Vsr_pT])
      exact vsr
    · (try simp only [Vc_pi_j22 hA, Vc_pT])
      exact vc
    · (try simp only [Tx_pi_j22 hA])
      exact Tx_pT ht tx
  · have y1 : ¬ e < 0 := fun z => be (Or.inl z)
    have y2 : e < 2 := Classical.byContradiction fun z => be (Or.inr z)
    rcases e_cases y1 y2 with rfl | rfl
    · have hl2 := vl0
      obtain ⟨⟨b1, b2, b3, b4, b5, b6⟩, ln⟩ := hl2
      replace b1 := b1.symm
      replace b2 := b2.symm
      replace b3 := b3.symm
      replace b4 := b4.symm
      replace b5 := b5.symm
      replace b6 := b6.symm
      rw [b1, b2, b3, b4, b5, b6] at ln
      by_cases x0 : x < 0 <;> by_cases x1 : g_i h (A 15) 2 < x
      · skip
        simp only [o317_0, o317_1, o317_2, o317_3, o317_4, o317_7, o317_8, o317_11, o317_18, o317_19, o92_0, o92_1, o92_2, o92_5, o92_6, o92_7, o92_10, o92_11, o92_12, o92_15, o92_18, o92_19, o92_22, o92_24, o92_27, o92_28, o92_29, o92_30, o222_0, o222_1, o222_2, o222_5, o222_8, o222_9, o222_12, o222_13, o222_16, o222_19, o222_20, o222_21, o222_22, o222_25, o222_26, o222_27, o222_30, o222_31, o222_32, o222_35, o222_38, o222_39, o222_41, o222_44, o222_45, o222_46, o222_49, o222_50, o222_51, o222_52, c_X8_isThrown__, c_X8_isLens, c_lensOf_0, c_ref_6 (cs := A 18), c_X8_no (cs := A 30), mc_pi, mc_pl, mn_pi, mn_pl, mi_pi, mi_pl, ml_pi, ml_pl, mr_pi, mr_pl, mz_pi, mz_pl, mcs_0, mcs_r, Kn_v, mrf_some, true_and, and_true, or_false, not_true_eq_false, not_false_eq_true, false_implies, implies_true, forall_const, if_true, if_false, and_self, Nat.reduceEqDiff, Nat.reduceLeDiff, Nat.reduceSub, Nat.reduceAdd, Nat.zero_le, Nat.le_refl, i10, i01, lt_le, Int32.reduceSub, cl0, cl6, Kc_v, Sum.inl.injEq, Option.some.injEq, Value.int.injEq, exists_eq_left', Nat.reduceLT, hAe, kc0, kc15, kc17, kc18, kc22, kc29, kc30, kc37, kc39, kn18, kn29, kn30, kr0_7, kr0_9, kr17_0, kr22_7, kr22_8, kr29_0, kz, b2, be0, x0, x1, v18, cl6]
        first | refine ⟨⟨?_, ?_, ?_, ?_, ?_, ?_, ?_, ?_, ?_, ?_, ?_, ?_⟩, rfl⟩ | refine ⟨?_, ?_, ?_, ?_, ?_, ?_, ?_, ?_, ?_, ?_, ?_, ?_⟩
        · (try simp only [K_pi, K_pl])
          exact vk
        · (try simp only [Cn_pi_j18 hA, Cn_pi_j22 hA, Cn_pi_j30 hA, Cn_pl])
          exact vcn
        · (try simp only [Vq0_pi_j18 hA, Vq0_pi_j22 hA, Vq0_pi_j30 hA, Vq0_pl])
          exact v0
        · (try simp only [Vq1_pi_j18 hA, Vq1_pi_j22 hA, Vq1_pi_j30 hA, Vq1_pl])
          exact v1
        · (try simp only [Vq2_pi_j18 hA, Vq2_pi_j22 hA, Vq2_pi_j30 hA, Vq2_pl])
          exact v2
        · (try simp only [Vp_pi_j18 hA, Vp_pi_j30 hA, Vp_thr hA, Vp_pl])
          exact vp
        · (try simp only [Vl0_pi_j18 hA, Vl0_pi_j22 hA, Vl0_pi_j30 hA, Vl0_pl])
          exact vl0
        · (try simp only [Vl1_pi_j18 hA, Vl1_pi_j22 hA, Vl1_pi_j30 hA, Vl1_pl])
          exact vl1
        · (try simp only [Vlr_pi_j18 hA, Vlr_pi_j22 hA, Vlr_pi_j30 hA, Vlr_pl_j39 hA])
          exact vlr
        · (try simp only [Vsr_pi_j18 hA, Vsr_pi_j22 hA, Vsr_pi_j30 hA, Vsr_pl_j39 hA])
          exact vsr
        · refine Vc_of (c := 6) vc (by decide) (fun k => ?_) (fun k => ?_) <;> simp only [mi_pi, mi_pl, hAe, Nat.reduceLT, Nat.reduceEqDiff, false_and, true_and, if_false]
        · (try simp only [Tx_pi_j18 hA, Tx_pi_j22 hA, Tx_pi_j30 hA, Tx_pl])
          exact tx
      · skip
        simp only [o317_0, o317_1, o317_2, o317_3, o317_4, o317_7, o317_8, o317_11, o317_18, o317_19, o92_0, o92_1, o92_2, o92_5, o92_6, o92_7, o92_10, o92_11, o92_12, o92_15, o92_18, o92_19, o92_22, o92_24, o92_27, o92_28, o92_29, o92_30, o222_0, o222_1, o222_2, o222_5, o222_8, o222_9, o222_12, o222_13, o222_16, o222_19, o222_20, o222_21, o222_22, o222_25, o222_26, o222_27, o222_30, o222_31, o222_32, o222_35, o222_38, o222_39, o222_41, o222_44, o222_45, o222_46, o222_49, o222_50, o222_51, o222_52, c_X8_isThrown__, c_X8_isLens, c_lensOf_0, c_ref_6 (cs := A 18), c_X8_no (cs := A 30), mc_pi, mc_pl, mn_pi, mn_pl, mi_pi, mi_pl, ml_pi, ml_pl, mr_pi, mr_pl, mz_pi, mz_pl, mcs_0, mcs_r, Kn_v, mrf_some, true_and, and_true, or_false, not_true_eq_false, not_false_eq_true, false_implies, implies_true, forall_const, if_true, if_false, and_self, Nat.reduceEqDiff, Nat.reduceLeDiff, Nat.reduceSub, Nat.reduceAdd, Nat.zero_le, Nat.le_refl, i10, i01, lt_le, Int32.reduceSub, cl0, cl6, Kc_v, Sum.inl.injEq, Option.some.injEq, Value.int.injEq, exists_eq_left', Nat.reduceLT, hAe, kc0, kc15, kc17, kc18, kc22, kc29, kc30, kc37, kc39, kn18, kn29, kn30, kr0_7, kr0_9, kr17_0, kr22_7, kr22_8, kr29_0, kz, b2, be0, x0, x1, v18, cl6]
        first | refine ⟨⟨?_, ?_, ?_, ?_, ?_, ?_, ?_, ?_, ?_, ?_, ?_, ?_⟩, rfl⟩ | refine ⟨?_, ?_, ?_, ?_, ?_, ?_, ?_, ?_, ?_, ?_, ?_, ?_⟩
        · (try simp only [K_pi, K_pl])
          exact vk
        · (try simp only [Cn_pi_j18 hA, Cn_pi_j22 hA, Cn_pi_j30 hA, Cn_pl])
          exact vcn
        · (try simp only [Vq0_pi_j18 hA, Vq0_pi_j22 hA, Vq0_pi_j30 hA, Vq0_pl])
          exact v0
        · (try simp only [Vq1_pi_j18 hA, Vq1_pi_j22 hA, Vq1_pi_j30 hA, Vq1_pl])
          exact v1
        · (try simp only [Vq2_pi_j18 hA, Vq2_pi_j22 hA, Vq2_pi_j30 hA, Vq2_pl])
          exact v2
        · (try simp only [Vp_pi_j18 hA, Vp_pi_j30 hA, Vp_thr hA, Vp_pl])
          exact vp
        · (try simp only [Vl0_pi_j18 hA, Vl0_pi_j22 hA, Vl0_pi_j30 hA, Vl0_pl])
          exact vl0
        · (try simp only [Vl1_pi_j18 hA, Vl1_pi_j22 hA, Vl1_pi_j30 hA, Vl1_pl])
          exact vl1
        · (try simp only [Vlr_pi_j18 hA, Vlr_pi_j22 hA, Vlr_pi_j30 hA, Vlr_pl_j39 hA])
          exact vlr
        · (try simp only [Vsr_pi_j18 hA, Vsr_pi_j22 hA, Vsr_pi_j30 hA, Vsr_pl_j39 hA])
          exact vsr
        · refine Vc_of (c := 6) vc (by decide) (fun k => ?_) (fun k => ?_) <;> simp only [mi_pi, mi_pl, hAe, Nat.reduceLT, Nat.reduceEqDiff, false_and, true_and, if_false]
        · (try simp only [Tx_pi_j18 hA, Tx_pi_j22 hA, Tx_pi_j30 hA, Tx_pl])
          exact tx
      · skip
        simp only [o317_0, o317_1, o317_2, o317_3, o317_4, o317_7, o317_8, o317_11, o317_18, o317_19, o92_0, o92_1, o92_2, o92_5, o92_6, o92_7, o92_10, o92_11, o92_12, o92_15, o92_18, o92_19, o92_22, o92_24, o92_27, o92_28, o92_29, o92_30, o222_0, o222_1, o222_2, o222_5, o222_8, o222_9, o222_12, o222_13, o222_16, o222_19, o222_20, o222_21, o222_22, o222_25, o222_26, o222_27, o222_30, o222_31, o222_32, o222_35, o222_38, o222_39, o222_41, o222_44, o222_45, o222_46, o222_49, o222_50, o222_51, o222_52, c_X8_isThrown__, c_X8_isLens, c_lensOf_0, c_ref_6 (cs := A 18), c_X8_no (cs := A 30), mc_pi, mc_pl, mn_pi, mn_pl, mi_pi, mi_pl, ml_pi, ml_pl, mr_pi, mr_pl, mz_pi, mz_pl, mcs_0, mcs_r, Kn_v, mrf_some, true_and, and_true, or_false, not_true_eq_false, not_false_eq_true, false_implies, implies_true, forall_const, if_true, if_false, and_self, Nat.reduceEqDiff, Nat.reduceLeDiff, Nat.reduceSub, Nat.reduceAdd, Nat.zero_le, Nat.le_refl, i10, i01, lt_le, Int32.reduceSub, cl0, cl6, Kc_v, Sum.inl.injEq, Option.some.injEq, Value.int.injEq, exists_eq_left', Nat.reduceLT, hAe, kc0, kc15, kc17, kc18, kc22, kc29, kc30, kc37, kc39, kn18, kn29, kn30, kr0_7, kr0_9, kr17_0, kr22_7, kr22_8, kr29_0, kz, b2, be0, x0, x1, v18, cl6]
        first | refine ⟨⟨?_, ?_, ?_, ?_, ?_, ?_, ?_, ?_, ?_, ?_, ?_, ?_⟩, rfl⟩ | refine ⟨?_, ?_, ?_, ?_, ?_, ?_, ?_, ?_, ?_, ?_, ?_, ?_⟩
        · (try simp only [K_pi, K_pl])
          exact vk
        · (try simp only [Cn_pi_j18 hA, Cn_pi_j22 hA, Cn_pi_j30 hA, Cn_pl])
          exact vcn
        · (try simp only [Vq0_pi_j18 hA, Vq0_pi_j22 hA, Vq0_pi_j30 hA, Vq0_pl])
          exact v0
        · (try simp only [Vq1_pi_j18 hA, Vq1_pi_j22 hA, Vq1_pi_j30 hA, Vq1_pl])
          exact v1
        · (try simp only [Vq2_pi_j18 hA, Vq2_pi_j22 hA, Vq2_pi_j30 hA, Vq2_pl])
          exact v2
        · (try simp only [Vp_pi_j18 hA, Vp_pi_j30 hA, Vp_thr hA, Vp_pl])
          exact vp
        · (try simp only [Vl0_pi_j18 hA, Vl0_pi_j22 hA, Vl0_pi_j30 hA, Vl0_pl])
          exact vl0
        · (try simp only [Vl1_pi_j18 hA, Vl1_pi_j22 hA, Vl1_pi_j30 hA, Vl1_pl])
          exact vl1
        · (try simp only [Vlr_pi_j18 hA, Vlr_pi_j22 hA, Vlr_pi_j30 hA, Vlr_pl_j39 hA])
          exact vlr
        · (try simp only [Vsr_pi_j18 hA, Vsr_pi_j22 hA, Vsr_pi_j30 hA, Vsr_pl_j39 hA])
          exact vsr
        · refine Vc_of (c := 6) vc (by decide) (fun k => ?_) (fun k => ?_) <;> simp only [mi_pi, mi_pl, hAe, Nat.reduceLT, Nat.reduceEqDiff, false_and, true_and, if_false]
        · (try simp only [Tx_pi_j18 hA, Tx_pi_j22 hA, Tx_pi_j30 hA, Tx_pl])
          exact tx
      · have hq9 := lnL ln x0 x1
        simp only [o317_0, o317_1, o317_2, o317_3, o317_4, o317_7, o317_8, o317_11, o317_18, o317_19, o92_0, o92_1, o92_2, o92_5, o92_6, o92_7, o92_10, o92_11, o92_12, o92_15, o92_18, o92_19, o92_22, o92_24, o92_28, o92_29, o92_30, o92_33, o92_34, o92_37, o92_38, o92_41, o92_44, o222_0, o222_1, o222_2, o222_5, o222_8, o222_9, o222_12, o222_13, o222_16, o222_19, o222_20, o222_21, o222_22, o222_25, o222_26, o222_27, o222_30, o222_31, o222_32, o222_35, o222_38, o222_39, o222_41, o222_45, o222_46, o222_49, o222_50, o222_51, o222_52, o222_55, o222_56, o222_57, o222_60, o222_61, o222_62, o222_65, o222_68, c_X8_isThrown__, c_X8_isLens, c_lensOf_0, c_X3_setLimit, c_X7_toLimit, c_X3_rests, c_X7_rests, c_X0_done (cs := A 18), c_X8_done (cs := A 30), mc_pi, mc_pl, mn_pi, mn_pl, mi_pi, mi_pl, ml_pi, ml_pl, mr_pi, mr_pl, mz_pi, mz_pl, mcs_0, mcs_r, Kn_v, Kn_0, mrf_some, true_and, and_true, and_false, or_false, not_true_eq_false, not_false_eq_true, false_implies, implies_true, forall_const, if_true, if_false, and_self, Nat.reduceEqDiff, Nat.reduceLeDiff, Nat.reduceSub, Nat.reduceAdd, Nat.zero_le, Nat.le_refl, i10, i01, lt_le, cl0, Kc_v, Sum.inl.injEq, Option.some.injEq, Value.int.injEq, exists_eq_left', Nat.reduceLT, hAe, kc0, kc15, kc17, kc18, kc22, kc29, kc30, kc37, kc39, kn18, kn29, kn30, kr0_7, kr0_9, kr17_0, kr22_7, kr22_8, kr29_0, kz, b2, b4, b5, b6, be0, x0, x1, liM, liP]
        simp only [liM, liP] at hq9
        first | refine ⟨⟨?_, ?_, ?_, ?_, ?_, ?_, ?_, ?_, ?_, ?_, ?_, ?_⟩, rfl⟩ | refine ⟨?_, ?_, ?_, ?_, ?_, ?_, ?_, ?_, ?_, ?_, ?_, ?_⟩
        · (try simp only [K_pi, K_pl])
          exact vk
        · (try simp only [Cn_pi_j18 hA, Cn_pi_j22 hA, Cn_pi_j30 hA, Cn_pi_j15 hA, Cn_pi_j37 hA, Cn_pl])
          exact vcn
        · (try simp only [Vq0_pi_j18 hA, Vq0_pi_j22 hA, Vq0_pi_j30 hA, Vq0_pi_j15 hA, Vq0_pi_j37 hA, Vq0_pl])
          exact v0
        · (try simp only [Vq1_pi_j18 hA, Vq1_pi_j22 hA, Vq1_pi_j30 hA, Vq1_pi_j15 hA, Vq1_pi_j37 hA, Vq1_pl])
          exact v1
        · (try simp only [Vq2_pi_j18 hA, Vq2_pi_j22 hA, Vq2_pi_j30 hA, Vq2_pi_j15 hA, Vq2_pi_j37 hA, Vq2_pl])
          exact v2
        · (try simp only [Vp_pi_j18 hA, Vp_pi_j30 hA, Vp_pi_j15 hA, Vp_pi_j37 hA, Vp_thr hA, Vp_pl])
          exact vp
        · simp only [Vl0, mi_pi, mi_pl, hAe, Nat.reduceLT, Nat.reduceEqDiff, and_false, true_and, and_true, if_false, if_true, b1, b2, b3, b4, b5, b6, true_and, and_self]
          first | exact hq9 | exact ⟨⟨rfl, rfl, rfl, rfl, rfl, rfl⟩, hq9⟩ | (refine ⟨⟨?_, ?_, ?_, ?_, ?_, ?_⟩, hq9⟩ <;> first | rfl | trivial)
        · (try simp only [Vl1_pi_j18 hA, Vl1_pi_j22 hA, Vl1_pi_j30 hA, Vl1_pi_j15 hA, Vl1_pi_j37 hA, Vl1_pl])
          exact vl1
        · (try simp only [Vlr_pi_j18 hA, Vlr_pi_j22 hA, Vlr_pi_j30 hA, Vlr_pi_j15 hA, Vlr_pi_j37 hA, Vlr_pl_j39 hA])
          exact vlr
        · (try simp only [Vsr_pi_j18 hA, Vsr_pi_j22 hA, Vsr_pi_j30 hA, Vsr_pi_j15 hA, Vsr_pi_j37 hA, Vsr_pl_j39 hA])
          exact vsr
        · refine Vc_of (c := 0) vc (by decide) (fun k => ?_) (fun k => ?_) <;> simp only [mi_pi, mi_pl, hAe, Nat.reduceLT, Nat.reduceEqDiff, false_and, true_and, if_false]
        · (try simp only [Tx_pi_j18 hA, Tx_pi_j22 hA, Tx_pi_j30 hA, Tx_pi_j15 hA, Tx_pi_j37 hA, Tx_pl])
          exact tx
    · have hl2 := vl1
      obtain ⟨⟨b1, b2, b3, b4, b5, b6⟩, ln⟩ := hl2
      replace b1 := b1.symm
      replace b2 := b2.symm
      replace b3 := b3.symm
      replace b4 := b4.symm
      replace b5 := b5.symm
      replace b6 := b6.symm
      rw [b1, b2, b3, b4, b5, b6] at ln
      by_cases x0 : x < 0 <;> by_cases x1 : g_i h (A 16) 2 < x
      · skip
        simp only [o317_0, o317_1, o317_2, o317_3, o317_4, o317_7, o317_8, o317_11, o317_18, o317_19, o92_0, o92_1, o92_2, o92_5, o92_6, o92_7, o92_10, o92_11, o92_12, o92_15, o92_18, o92_19, o92_22, o92_24, o92_27, o92_28, o92_29, o92_30, o222_0, o222_1, o222_2, o222_5, o222_8, o222_9, o222_12, o222_13, o222_16, o222_19, o222_20, o222_21, o222_22, o222_25, o222_26, o222_27, o222_30, o222_31, o222_32, o222_35, o222_38, o222_39, o222_41, o222_44, o222_45, o222_46, o222_49, o222_50, o222_51, o222_52, c_X8_isThrown__, c_X8_isLens, c_lensOf_1, c_ref_6 (cs := A 18), c_X8_no (cs := A 30), mc_pi, mc_pl, mn_pi, mn_pl, mi_pi, mi_pl, ml_pi, ml_pl, mr_pi, mr_pl, mz_pi, mz_pl, mcs_0, mcs_r, Kn_v, mrf_some, true_and, and_true, or_true, not_true_eq_false, not_false_eq_true, false_implies, implies_true, forall_const, if_true, if_false, and_self, Nat.reduceEqDiff, Nat.reduceLeDiff, Nat.reduceSub, Nat.reduceAdd, Nat.zero_le, Nat.le_refl, i10, lt_le, Int32.reduceSub, cl1, cl6, Kc_v, Sum.inl.injEq, Option.some.injEq, Value.int.injEq, exists_eq_left', Nat.reduceLT, hAe, kc0, kc16, kc17, kc18, kc22, kc29, kc30, kc38, kc39, kn18, kn29, kn30, kr0_8, kr0_9, kr17_0, kr22_7, kr22_8, kr29_1, kz, b2, be0, x0, x1, v18, cl6]
        first | refine ⟨⟨?_, ?_, ?_, ?_, ?_, ?_, ?_, ?_, ?_, ?_, ?_, ?_⟩, rfl⟩ | refine ⟨?_, ?_, ?_, ?_, ?_, ?_, ?_, ?_, ?_, ?_, ?_, ?_⟩
        · (try simp only [K_pi, K_pl])
          exact vk
        · (try simp only [Cn_pi_j18 hA, Cn_pi_j22 hA, Cn_pi_j30 hA, Cn_pl])
          exact vcn
        · (try simp only [Vq0_pi_j18 hA, Vq0_pi_j22 hA, Vq0_pi_j30 hA, Vq0_pl])
          exact v0
        · (try simp only [Vq1_pi_j18 hA, Vq1_pi_j22 hA, Vq1_pi_j30 hA, Vq1_pl])
          exact v1
        · (try simp only [Vq2_pi_j18 hA, Vq2_pi_j22 hA, Vq2_pi_j30 hA, Vq2_pl])
          exact v2
        · (try simp only [Vp_pi_j18 hA, Vp_pi_j30 hA, Vp_thr hA, Vp_pl])
          exact vp
        · (try simp only [Vl0_pi_j18 hA, Vl0_pi_j22 hA, Vl0_pi_j30 hA, Vl0_pl])
          exact vl0
        · (try simp only [Vl1_pi_j18 hA, Vl1_pi_j22 hA, Vl1_pi_j30 hA, Vl1_pl])
          exact vl1
        · (try simp only [Vlr_pi_j18 hA, Vlr_pi_j22 hA, Vlr_pi_j30 hA, Vlr_pl_j39 hA])
          exact vlr
        · (try simp only [Vsr_pi_j18 hA, Vsr_pi_j22 hA, Vsr_pi_j30 hA, Vsr_pl_j39 hA])
          exact vsr
        · refine Vc_of (c := 6) vc (by decide) (fun k => ?_) (fun k => ?_) <;> simp only [mi_pi, mi_pl, hAe, Nat.reduceLT, Nat.reduceEqDiff, false_and, true_and, if_false]
        · (try simp only [Tx_pi_j18 hA, Tx_pi_j22 hA, Tx_pi_j30 hA, Tx_pl])
          exact tx
      · skip
        simp only [o317_0, o317_1, o317_2, o317_3, o317_4, o317_7, o317_8, o317_11, o317_18, o317_19, o92_0, o92_1, o92_2, o92_5, o92_6, o92_7, o92_10, o92_11, o92_12, o92_15, o92_18, o92_19, o92_22, o92_24, o92_27, o92_28, o92_29, o92_30, o222_0, o222_1, o222_2, o222_5, o222_8, o222_9, o222_12, o222_13, o222_16, o222_19, o222_20, o222_21, o222_22, o222_25, o222_26, o222_27, o222_30, o222_31, o222_32, o222_35, o222_38, o222_39, o222_41, o222_44, o222_45, o222_46, o222_49, o222_50, o222_51, o222_52, c_X8_isThrown__, c_X8_isLens, c_lensOf_1, c_ref_6 (cs := A 18), c_X8_no (cs := A 30), mc_pi, mc_pl, mn_pi, mn_pl, mi_pi, mi_pl, ml_pi, ml_pl, mr_pi, mr_pl, mz_pi, mz_pl, mcs_0, mcs_r, Kn_v, mrf_some, true_and, and_true, or_true, not_true_eq_false, not_false_eq_true, false_implies, implies_true, forall_const, if_true, if_false, and_self, Nat.reduceEqDiff, Nat.reduceLeDiff, Nat.reduceSub, Nat.reduceAdd, Nat.zero_le, Nat.le_refl, i10, lt_le, Int32.reduceSub, cl1, cl6, Kc_v, Sum.inl.injEq, Option.some.injEq, Value.int.injEq, exists_eq_left', Nat.reduceLT, hAe, kc0, kc16, kc17, kc18, kc22, kc29, kc30, kc38, kc39, kn18, kn29, kn30, kr0_8, kr0_9, kr17_0, kr22_7, kr22_8, kr29_1, kz, b2, be0, x0, x1, v18, cl6]
        first | refine ⟨⟨?_, ?_, ?_, ?_, ?_, ?_, ?_, ?_, ?_, ?_, ?_, ?_⟩, rfl⟩ | refine ⟨?_, ?_, ?_, ?_, ?_, ?_, ?_, ?_, ?_, ?_, ?_, ?_⟩
        · (try simp only [K_pi, K_pl])
          exact vk
        · (try simp only [Cn_pi_j18 hA, Cn_pi_j22 hA, Cn_pi_j30 hA, Cn_pl])
          exact vcn
        · (try simp only [Vq0_pi_j18 hA, Vq0_pi_j22 hA, Vq0_pi_j30 hA, Vq0_pl])
          exact v0
        · (try simp only [Vq1_pi_j18 hA, Vq1_pi_j22 hA, Vq1_pi_j30 hA, Vq1_pl])
          exact v1
        · (try simp only [Vq2_pi_j18 hA, Vq2_pi_j22 hA, Vq2_pi_j30 hA, Vq2_pl])
          exact v2
        · (try simp only [Vp_pi_j18 hA, Vp_pi_j30 hA, Vp_thr hA, Vp_pl])
          exact vp
        · (try simp only [Vl0_pi_j18 hA, Vl0_pi_j22 hA, Vl0_pi_j30 hA, Vl0_pl])
          exact vl0
        · (try simp only [Vl1_pi_j18 hA, Vl1_pi_j22 hA, Vl1_pi_j30 hA, Vl1_pl])
          exact vl1
        · (try simp only [Vlr_pi_j18 hA, Vlr_pi_j22 hA, Vlr_pi_j30 hA, Vlr_pl_j39 hA])
          exact vlr
        · (try simp only [Vsr_pi_j18 hA, Vsr_pi_j22 hA, Vsr_pi_j30 hA, Vsr_pl_j39 hA])
          exact vsr
        · refine Vc_of (c := 6) vc (by decide) (fun k => ?_) (fun k => ?_) <;> simp only [mi_pi, mi_pl, hAe, Nat.reduceLT, Nat.reduceEqDiff, false_and, true_and, if_false]
        · (try simp only [Tx_pi_j18 hA, Tx_pi_j22 hA, Tx_pi_j30 hA, Tx_pl])
          exact tx
      · skip
        simp only [o317_0, o317_1, o317_2, o317_3, o317_4, o317_7, o317_8, o317_11, o317_18, o317_19, o92_0, o92_1, o92_2, o92_5, o92_6, o92_7, o92_10, o92_11, o92_12, o92_15, o92_18, o92_19, o92_22, o92_24, o92_27, o92_28, o92_29, o92_30, o222_0, o222_1, o222_2, o222_5, o222_8, o222_9, o222_12, o222_13, o222_16, o222_19, o222_20, o222_21, o222_22, o222_25, o222_26, o222_27, o222_30, o222_31, o222_32, o222_35, o222_38, o222_39, o222_41, o222_44, o222_45, o222_46, o222_49, o222_50, o222_51, o222_52, c_X8_isThrown__, c_X8_isLens, c_lensOf_1, c_ref_6 (cs := A 18), c_X8_no (cs := A 30), mc_pi, mc_pl, mn_pi, mn_pl, mi_pi, mi_pl, ml_pi, ml_pl, mr_pi, mr_pl, mz_pi, mz_pl, mcs_0, mcs_r, Kn_v, mrf_some, true_and, and_true, or_true, not_true_eq_false, not_false_eq_true, false_implies, implies_true, forall_const, if_true, if_false, and_self, Nat.reduceEqDiff, Nat.reduceLeDiff, Nat.reduceSub, Nat.reduceAdd, Nat.zero_le, Nat.le_refl, i10, lt_le, Int32.reduceSub, cl1, cl6, Kc_v, Sum.inl.injEq, Option.some.injEq, Value.int.injEq, exists_eq_left', Nat.reduceLT, hAe, kc0, kc16, kc17, kc18, kc22, kc29, kc30, kc38, kc39, kn18, kn29, kn30, kr0_8, kr0_9, kr17_0, kr22_7, kr22_8, kr29_1, kz, b2, be0, x0, x1, v18, cl6]
        first | refine ⟨⟨?_, ?_, ?_, ?_, ?_, ?_, ?_, ?_, ?_, ?_, ?_, ?_⟩, rfl⟩ | refine ⟨?_, ?_, ?_, ?_, ?_, ?_, ?_, ?_, ?_, ?_, ?_, ?_⟩
        · (try simp only [K_pi, K_pl])
          exact vk
        · (try simp only [Cn_pi_j18 hA, Cn_pi_j22 hA, Cn_pi_j30 hA, Cn_pl])
          exact vcn
        · (try simp only [Vq0_pi_j18 hA, Vq0_pi_j22 hA, Vq0_pi_j30 hA, Vq0_pl])
          exact v0
        · (try simp only [Vq1_pi_j18 hA, Vq1_pi_j22 hA, Vq1_pi_j30 hA, Vq1_pl])
          exact v1
        · (try simp only [Vq2_pi_j18 hA, Vq2_pi_j22 hA, Vq2_pi_j30 hA, Vq2_pl])
          exact v2
        · (try simp only [Vp_pi_j18 hA, Vp_pi_j30 hA, Vp_thr hA, Vp_pl])
          exact vp
        · (try simp only [Vl0_pi_j18 hA, Vl0_pi_j22 hA, Vl0_pi_j30 hA, Vl0_pl])
          exact vl0
        · (try simp only [Vl1_pi_j18 hA, Vl1_pi_j22 hA, Vl1_pi_j30 hA, Vl1_pl])
          exact vl1
        · (try simp only [Vlr_pi_j18 hA, Vlr_pi_j22 hA, Vlr_pi_j30 hA, Vlr_pl_j39 hA])
          exact vlr
        · (try simp only [Vsr_pi_j18 hA, Vsr_pi_j22 hA, Vsr_pi_j30 hA, Vsr_pl_j39 hA])
          exact vsr
        · refine Vc_of (c := 6) vc (by decide) (fun k => ?_) (fun k => ?_) <;> simp only [mi_pi, mi_pl, hAe, Nat.reduceLT, Nat.reduceEqDiff, false_and, true_and, if_false]
        · (try simp only [Tx_pi_j18 hA, Tx_pi_j22 hA, Tx_pi_j30 hA, Tx_pl])
          exact tx
      · have hq9 := lnL ln x0 x1
        simp only [o317_0, o317_1, o317_2, o317_3, o317_4, o317_7, o317_8, o317_11, o317_18, o317_19, o92_0, o92_1, o92_2, o92_5, o92_6, o92_7, o92_10, o92_11, o92_12, o92_15, o92_18, o92_19, o92_22, o92_24, o92_28, o92_29, o92_30, o92_33, o92_34, o92_37, o92_38, o92_41, o92_44, o222_0, o222_1, o222_2, o222_5, o222_8, o222_9, o222_12, o222_13, o222_16, o222_19, o222_20, o222_21, o222_22, o222_25, o222_26, o222_27, o222_30, o222_31, o222_32, o222_35, o222_38, o222_39, o222_41, o222_45, o222_46, o222_49, o222_50, o222_51, o222_52, o222_55, o222_56, o222_57, o222_60, o222_61, o222_62, o222_65, o222_68, c_X8_isThrown__, c_X8_isLens, c_lensOf_1, c_X3_setLimit, c_X7_toLimit, c_X3_rests, c_X7_rests, c_X0_done (cs := A 18), c_X8_done (cs := A 30), mc_pi, mc_pl, mn_pi, mn_pl, mi_pi, mi_pl, ml_pi, ml_pl, mr_pi, mr_pl, mz_pi, mz_pl, mcs_0, mcs_r, Kn_v, Kn_0, mrf_some, true_and, and_true, and_false, or_true, not_true_eq_false, not_false_eq_true, false_implies, implies_true, forall_const, if_true, if_false, and_self, Nat.reduceEqDiff, Nat.reduceLeDiff, Nat.reduceSub, Nat.reduceAdd, Nat.zero_le, Nat.le_refl, i10, lt_le, cl1, Kc_v, Sum.inl.injEq, Option.some.injEq, Value.int.injEq, exists_eq_left', Nat.reduceLT, hAe, kc0, kc16, kc17, kc18, kc22, kc29, kc30, kc38, kc39, kn18, kn29, kn30, kr0_8, kr0_9, kr17_0, kr22_7, kr22_8, kr29_1, kz, b2, b4, b5, b6, be0, x0, x1, liM, liP]
        simp only [liM, liP] at hq9
        first | refine ⟨⟨?_, ?_, ?_, ?_, ?_, ?_, ?_, ?_, ?_, ?_, ?_, ?_⟩, rfl⟩ | refine ⟨?_, ?_, ?_, ?_, ?_, ?_, ?_, ?_, ?_, ?_, ?_, ?_⟩
        · (try simp only [K_pi, K_pl])
          exact vk
        · (try simp only [Cn_pi_j18 hA, Cn_pi_j22 hA, Cn_pi_j30 hA, Cn_pi_j16 hA, Cn_pi_j38 hA, Cn_pl])
          exact vcn
        · (try simp only [Vq0_pi_j18 hA, Vq0_pi_j22 hA, Vq0_pi_j30 hA, Vq0_pi_j16 hA, Vq0_pi_j38 hA, Vq0_pl])
          exact v0
        · (try simp only [Vq1_pi_j18 hA, Vq1_pi_j22 hA, Vq1_pi_j30 hA, Vq1_pi_j16 hA, Vq1_pi_j38 hA, Vq1_pl])
          exact v1
        · (try simp only [Vq2_pi_j18 hA, Vq2_pi_j22 hA, Vq2_pi_j30 hA, Vq2_pi_j16 hA, Vq2_pi_j38 hA, Vq2_pl])
          exact v2
        · (try simp only [Vp_pi_j18 hA, Vp_pi_j30 hA, Vp_pi_j16 hA, Vp_pi_j38 hA, Vp_thr hA, Vp_pl])
          exact vp
        · (try simp only [Vl0_pi_j18 hA, Vl0_pi_j22 hA, Vl0_pi_j30 hA, Vl0_pi_j16 hA, Vl0_pi_j38 hA, Vl0_pl])
          exact vl0
        · simp only [Vl1, mi_pi, mi_pl, hAe, Nat.reduceLT, Nat.reduceEqDiff, and_false, true_and, and_true, if_false, if_true, b1, b2, b3, b4, b5, b6, true_and, and_self]
          first | exact hq9 | exact ⟨⟨rfl, rfl, rfl, rfl, rfl, rfl⟩, hq9⟩ | (refine ⟨⟨?_, ?_, ?_, ?_, ?_, ?_⟩, hq9⟩ <;> first | rfl | trivial)
        · (try simp only [Vlr_pi_j18 hA, Vlr_pi_j22 hA, Vlr_pi_j30 hA, Vlr_pi_j16 hA, Vlr_pi_j38 hA, Vlr_pl_j39 hA])
          exact vlr
        · (try simp only [Vsr_pi_j18 hA, Vsr_pi_j22 hA, Vsr_pi_j30 hA, Vsr_pi_j16 hA, Vsr_pi_j38 hA, Vsr_pl_j39 hA])
          exact vsr
        · refine Vc_of (c := 0) vc (by decide) (fun k => ?_) (fun k => ?_) <;> simp only [mi_pi, mi_pl, hAe, Nat.reduceLT, Nat.reduceEqDiff, false_and, true_and, if_false]
        · (try simp only [Tx_pi_j18 hA, Tx_pi_j22 hA, Tx_pi_j30 hA, Tx_pi_j16 hA, Tx_pi_j38 hA, Tx_pl])
          exact tx

theorem hx_322_1 {l rest : List Value} {bc bs : Nat} {Q : MR → MH → Prop} {h : MH} : Kc Ok 322 3 6 l rest bc bs Q (.inr 1) h ↔ ∀ q : Nat, Ok 322 13 l [.ref q] h bc bs Q := Kc_x (by decide +kernel) (by decide +kernel)
theorem op_nextLong {A : Nat → Nat} {h : MH} (R : Rl A h) {s : Int32} : Ok 322 0 [.ref (A 0), .int s, .ref (A 39), mk0] [] h 1 6 (fun r h1 => ∃ k : Int32, r = .inl (some (.int k)) ∧ g_c h1 (A 22) = 9 ∧ Ok 230 0 [.ref (A 22), .int s] [] h1 0 0 (fun r2 h2 => ∃ b : Int32, r2 = .inl (some (.int b)) ∧ Rl A h2 ∧ g_i h2 (A 22) 9 = k ∧ (k = 0 → g_l h2 (A 39) 0 = b.toInt64))) := by
  obtain ⟨vk, vcn, v0, v1, v2, vp, vl0, vl1, vlr, vsr, vc, tx⟩ := R
  have vk0 := vk
  have vcn0 := vcn
  (refine K_el vk0 ?_; intros hA kc0 kc1 kc2 kc3 kc4 kc5 kc6 kc7 kc8 kc9 kc10 kc11 kc12 kc13 kc14 kc15 kc16 kc17 kc18 kc19 kc20 kc21 kc22 kc23 kc24 kc25 kc26 kc27 kc28 kc29 kc30 kc31 kc32 kc33 kc34 kc35 kc36 kc37 kc38 kc39 kz kt kn3 kn4 kn18 kn21 kn23 kn24 kn25 kn26 kn27 kn29 kn30 kr0_0 kr0_1 kr0_2 kr0_3 kr0_4 kr0_5 kr0_7 kr0_8 kr0_9 kr0_10 kr1_0 kr2_0 kr5_0 kr5_1 kr6_0 kr6_1 kr7_0 kr7_1 kr8_0 kr9_0 kr10_0 kr11_0 kr12_0 kr13_0 kr14_0 kr15_0 kr16_0 kr17_0 kr19_0 kr19_1 kr22_0 kr22_1 kr22_2 kr22_3 kr22_4 kr22_5 kr22_7 kr22_8 kr25_0 kr25_1 kr25_2 kr26_0 kr26_1 kr26_2 kr29_0 kr29_1)
  (refine Cn_el vcn0 ?_; intros ki5_2 ki6_2 ki7_2 ki8_1 ki8_2 ki8_3 ki9_1 ki9_2 ki9_3 ki10_1 ki10_2 ki10_3 ki11_1 ki11_2 ki11_3 ki12_1 ki12_2 ki12_3 ki13_1 ki13_2 ki13_3 ki14_1 ki14_2 ki14_3 ki28_0 ki28_1 ki31_0 ki31_1 ki32_0 ki32_1 ki33_0 ki33_1 ki34_0 ki34_1 ki35_0 ki35_1 ki36_0 ki36_1)
  have hAe : ∀ i j, i < 40 → j < 40 → (A i = A j ↔ i = j) := hA
  have hl2 := vl0
  obtain ⟨⟨b1, b2, b3, b4, b5, b6⟩, ln⟩ := hl2
  replace b1 := b1.symm
  replace b2 := b2.symm
  replace b3 := b3.symm
  replace b4 := b4.symm
  replace b5 := b5.symm
  replace b6 := b6.symm
  rw [b1, b2, b3, b4, b5, b6] at ln
  by_cases bs : s < 0 ∨ ¬ s < 6
  · have bs2 : (¬ s < 0 ∧ s < 6) = False := nrng bs
    simp only [o322_0, o322_1, o322_2, o322_3, o322_13, o322_14, o322_15, o97_0, o97_1, o97_4, o97_5, o97_8, o230_0, o230_1, o230_2, o230_5, o230_8, o230_9, o230_12, o230_13, o230_16, o230_19, o230_20, o230_21, o230_22, o230_25, o230_26, o230_27, hx_322_1, c_X5_checkSlot, c_X8_isSlot, c_X8_isThrown__, mc_pi, mc_pT, mn_pi, mn_pT, mi_pi, mi_pT, ml_pi, ml_pT, mr_pi, mr_pT, mz_pT, mcs_0, mcs_r, Kn_v, Kn_0, Kn_x, mrf_some, true_and, and_true, not_true_eq_false, not_false_eq_true, false_implies, forall_const, if_true, if_false, and_self, Nat.reduceLeDiff, Nat.reduceSub, Nat.reduceAdd, Nat.zero_le, Nat.le_refl, i10, cl0, Sum.inl.injEq, Option.some.injEq, Value.int.injEq, exists_eq_left', Nat.reduceLT, kc0, kc15, kc22, kc29, kc37, kn29, kr0_7, kr22_7, kr29_0, kz, bs, bs2]
    intro t ht
    first | refine ⟨⟨?_, ?_, ?_, ?_, ?_, ?_, ?_, ?_, ?_, ?_, ?_, ?_⟩, rfl⟩ | refine ⟨?_, ?_, ?_, ?_, ?_, ?_, ?_, ?_, ?_, ?_, ?_, ?_⟩
    · (try simp only [K_pi])
      exact K_pT ht vk
    · (try simp only [Cn_pi_j22 hA, Cn_pT])
      exact vcn
    · (try simp only [Vq0_pi_j22 hA, Vq0_pT])
      exact v0
    · (try simp only [Vq1_pi_j22 hA, Vq1_pT])
      exact v1
    · (try simp only [Vq2_pi_j22 hA, Vq2_pT])
      exact v2
    · (try simp only [Vp_thr hA, Vp_pT])
      exact vp
    · (try simp only [Vl0_pi_j22 hA, Vl0_pT])
      exact vl0
    · (try simp only [Vl1_pi_j22 hA, Vl1_pT])
      exact vl1
    · (try simp only [Vlr_pi_j22 hA, Vlr_pT])
      exact vlr
    · (try simp only [Vsr_pi_j22 hA, Vsr_pT])
      exact vsr
    · (try simp only [Vc_pi_j22 hA, Vc_pT])
      exact vc
    · (try simp only [Tx_pi_j22 hA])
      exact Tx_pT ht tx
  · have s1 : ¬ s < 0 := fun z => bs (Or.inl z)
    have s2 : s < 6 := Classical.byContradiction fun z => bs (Or.inr z)
    have hs := ix_ok s1 s2
    have hs2 := hs
    obtain ⟨⟨j0, j1, j2, j3⟩, d01, d02, d03, d10, d12, d13, d20, d21, d23, d30, d31, d32⟩ := hs2
    obtain ⟨l0, l1, l2, l3⟩ := ix_lt hs
    have vs0 := (vsr _ l0).1
    have vs1 := (vsr _ l1).1
    have vs2 := (vsr _ l2).1
    have vs3 := (vsr _ l3).1
    have bs2 : (¬ s < 0 ∧ s < 6) = True := eq_true ⟨s1, s2⟩
    by_cases e0 : g_i h (A 15) 5 - g_i h (A 15) 4 = 0
    · skip
      simp only [o322_0, o322_1, o322_2, o322_3, o322_6, o322_7, o322_10, o322_13, o322_14, o322_15, o322_16, o322_17, o97_0, o97_1, o97_4, o97_5, o97_8, o97_11, o97_14, o97_15, o97_18, o97_19, o97_22, o97_23, o97_24, o97_27, o97_28, o97_29, o97_30, o97_33, o230_0, o230_1, o230_2, o230_5, o230_8, o230_9, o230_12, o230_13, o230_16, o230_19, o230_20, o230_21, o230_22, o230_25, o230_26, o230_27, o230_30, o230_33, o230_34, o230_35, o230_38, o230_41, o230_42, o230_43, o230_44, o230_45, o230_48, o230_49, o230_50, o230_53, o230_54, o230_55, o230_65, hx_322_1, c_X5_checkSlot, c_X8_isSlot, c_X8_isThrown__, c_X3_rests, c_X7_rests, c_ref_2 (cs := A 18), c_X8_no (cs := A 30), mc_pi, mc_pl, mc_pT, mn_pi, mn_pl, mn_pT, mi_pi, mi_pl, mi_pT, ml_pi, ml_pl, ml_pT, mr_pi, mr_pl, mr_pT, mz_pi, mz_pl, mz_pT, mcs_0, mcs_i, mcs_r, Kn_v, Kn_0, Kn_x, mrf_some, true_and, and_true, and_false, or_false, not_true_eq_false, not_false_eq_true, false_implies, implies_true, forall_const, if_true, if_false, and_self, Nat.reduceEqDiff, Nat.reduceLeDiff, Nat.reduceSub, Nat.reduceAdd, Nat.zero_le, Nat.le_refl, i10, i01, Int32.reduceSub, cl0, cl2, Kc_v, Sum.inl.injEq, Option.some.injEq, Value.int.injEq, exists_eq_left', Nat.reduceLT, hAe, kc0, kc15, kc17, kc18, kc22, kc29, kc30, kc37, kc39, kn18, kn29, kn30, kr0_7, kr0_9, kr17_0, kr22_0, kr22_7, kr22_8, kr29_0, kz, b4, b5, be0, e0, v18, cl2, cl0, s1, s2, i64_inj]
      first | refine ⟨⟨?_, ?_, ?_, ?_, ?_, ?_, ?_, ?_, ?_, ?_, ?_, ?_⟩, rfl⟩ | refine ⟨?_, ?_, ?_, ?_, ?_, ?_, ?_, ?_, ?_, ?_, ?_, ?_⟩
      · (try simp only [K_pi, K_pl])
        exact vk
      · (try simp only [Cn_pi_j18 hA, Cn_pi_j22 hA, Cn_pi_j30 hA, Cn_pl])
        exact vcn
      · (try simp only [Vq0_pi_j18 hA, Vq0_pi_j22 hA, Vq0_pi_j30 hA, Vq0_pl])
        exact v0
      · (try simp only [Vq1_pi_j18 hA, Vq1_pi_j22 hA, Vq1_pi_j30 hA, Vq1_pl])
        exact v1
      · (try simp only [Vq2_pi_j18 hA, Vq2_pi_j22 hA, Vq2_pi_j30 hA, Vq2_pl])
        exact v2
      · (try simp only [Vp_pi_j18 hA, Vp_pi_j30 hA, Vp_thr hA, Vp_pl])
        exact vp
      · (try simp only [Vl0_pi_j18 hA, Vl0_pi_j22 hA, Vl0_pi_j30 hA, Vl0_pl])
        exact vl0
      · (try simp only [Vl1_pi_j18 hA, Vl1_pi_j22 hA, Vl1_pi_j30 hA, Vl1_pl])
        exact vl1
      · (try simp only [Vlr_pi_j18 hA, Vlr_pi_j22 hA, Vlr_pi_j30 hA, Vlr_pl_j39 hA])
        exact vlr
      · (try simp only [Vsr_pi_j18 hA, Vsr_pi_j22 hA, Vsr_pi_j30 hA, Vsr_pl_j39 hA])
        exact vsr
      · refine Vc_of (c := 2) vc (by decide) (fun k => ?_) (fun k => ?_) <;> simp only [mi_pi, mi_pl, hAe, Nat.reduceLT, Nat.reduceEqDiff, false_and, true_and, if_false]
      · (try simp only [Tx_pi_j18 hA, Tx_pi_j22 hA, Tx_pi_j30 hA, Tx_pl])
        exact tx
    · obtain ⟨i1, i2, hj, hq9⟩ := lnN (R := 16) ln (by decide) (by decide) (by decide) e0
      have hj2 := hj.2.2
      have vlk := (vlr _ (rdy_lt hj)).symm
      simp only [o322_0, o322_1, o322_2, o322_3, o322_6, o322_7, o322_10, o322_13, o322_14, o322_15, o322_16, o322_17, o97_0, o97_1, o97_4, o97_5, o97_8, o97_11, o97_14, o97_15, o97_18, o97_19, o97_23, o97_24, o97_27, o97_28, o97_29, o97_30, o97_33, o97_36, o97_39, o97_42, o230_0, o230_1, o230_2, o230_5, o230_8, o230_9, o230_12, o230_13, o230_16, o230_19, o230_20, o230_21, o230_22, o230_25, o230_26, o230_27, o230_30, o230_33, o230_34, o230_35, o230_41, o230_42, o230_43, o230_44, o230_45, o230_48, o230_49, o230_50, o230_53, o230_54, o230_55, o230_58, o230_59, o230_62, o230_65, hx_322_1, c_X5_checkSlot, c_X8_isSlot, c_X8_isThrown__, c_X3_rests, c_X7_rests, c_X3_readNext (rw := A 1) (cs := A 3) (n := 16), c_X8_next, c_X5_layNumber (rw := A 2) (cs := A 4), c_X8_laid (sr := A 24), c_X0_done (cs := A 18), c_X8_done (cs := A 30), mc_pi, mc_pl, mc_pT, mn_pi, mn_pl, mn_pT, mi_pi, mi_pl, mi_pT, ml_pi, ml_pl, ml_pT, mr_pi, mr_pl, mr_pT, mz_pi, mz_pl, mz_pT, mcs_0, mcs_i, mcs_r, Kn_v, Kn_0, Kn_x, mrf_some, true_and, and_true, false_and, and_false, or_false, not_true_eq_false, not_false_eq_true, false_implies, implies_true, forall_const, if_true, if_false, and_self, Nat.reduceEqDiff, Nat.reduceLeDiff, Nat.reduceSub, Nat.reduceAdd, Nat.zero_le, Nat.le_refl, i10, i01, cl0, Kc_v, Sum.inl.injEq, Option.some.injEq, Value.int.injEq, exists_eq_left', Nat.reduceLT, hAe, kc0, kc1, kc2, kc3, kc4, kc15, kc17, kc18, kc22, kc23, kc24, kc29, kc30, kc37, kc39, kn3, kn4, kn18, kn23, kn24, kn29, kn30, kr0_1, kr0_7, kr0_9, kr1_0, kr2_0, kr15_0, kr17_0, kr22_0, kr22_1, kr22_7, kr22_8, kr29_0, kz, b1, b4, b5, lnxt, be0, e0, i1, i2, hj, hj2, vlk, cl0, s1, s2, hs, vs0, vs1, vs2, vs3, i64_inj, fo0, fo1, fo2, fo3]
      first | refine ⟨⟨?_, ?_, ?_, ?_, ?_, ?_, ?_, ?_, ?_, ?_, ?_, ?_⟩, rfl⟩ | refine ⟨?_, ?_, ?_, ?_, ?_, ?_, ?_, ?_, ?_, ?_, ?_, ?_⟩
      · (try simp only [K_pi, K_pl])
        exact vk
      · (try simp only [Cn_pi_j18 hA, Cn_pi_j22 hA, Cn_pi_j30 hA, Cn_pi_j24 hA, Cn_pi_j15 hA, Cn_pi_j37 hA, Cn_pl])
        exact vcn
      · (try simp only [Vq0_pi_j18 hA, Vq0_pi_j22 hA, Vq0_pi_j30 hA, Vq0_pi_j24 hA, Vq0_pi_j15 hA, Vq0_pi_j37 hA, Vq0_pl])
        exact v0
      · (try simp only [Vq1_pi_j18 hA, Vq1_pi_j22 hA, Vq1_pi_j30 hA, Vq1_pi_j24 hA, Vq1_pi_j15 hA, Vq1_pi_j37 hA, Vq1_pl])
        exact v1
      · (try simp only [Vq2_pi_j18 hA, Vq2_pi_j22 hA, Vq2_pi_j30 hA, Vq2_pi_j24 hA, Vq2_pi_j15 hA, Vq2_pi_j37 hA, Vq2_pl])
        exact v2
      · (try simp only [Vp_pi_j18 hA, Vp_pi_j30 hA, Vp_pi_j24 hA, Vp_pi_j15 hA, Vp_pi_j37 hA, Vp_thr hA, Vp_pl])
        exact vp
      · simp only [Vl0, mi_pi, mi_pl, hAe, Nat.reduceLT, Nat.reduceEqDiff, false_and, and_false, true_and, and_true, if_false, if_true, b1, b2, b3, b4, b5, b6, true_and, and_self]
        first | exact hq9 | exact ⟨⟨rfl, rfl, rfl, rfl, rfl, rfl⟩, hq9⟩ | (refine ⟨⟨?_, ?_, ?_, ?_, ?_, ?_⟩, hq9⟩ <;> first | rfl | trivial)
      · (try simp only [Vl1_pi_j18 hA, Vl1_pi_j22 hA, Vl1_pi_j30 hA, Vl1_pi_j24 hA, Vl1_pi_j15 hA, Vl1_pi_j37 hA, Vl1_pl])
        exact vl1
      · (try simp only [Vlr_pi_j18 hA, Vlr_pi_j22 hA, Vlr_pi_j30 hA, Vlr_pi_j24 hA, Vlr_pi_j15 hA, Vlr_pi_j37 hA, Vlr_pl_j39 hA, Vlr_pl_j4 hA])
        exact vlr
      · simp only [Vsr_pi_j30 hA]
        refine Vsr_nest vsr (fun k => ?_) (fun k => ?_) <;> simp only [mi_pi, mi_pl, ml_pi, ml_pl, hAe, Nat.reduceLT, Nat.reduceEqDiff, false_and, true_and, if_false]
      · refine Vc_of (c := 0) vc (by decide) (fun k => ?_) (fun k => ?_) <;> simp only [mi_pi, mi_pl, hAe, Nat.reduceLT, Nat.reduceEqDiff, false_and, true_and, if_false]
      · (try simp only [Tx_pi_j18 hA, Tx_pi_j22 hA, Tx_pi_j30 hA, Tx_pi_j24 hA, Tx_pi_j15 hA, Tx_pi_j37 hA, Tx_pl])
        exact tx

theorem hx_323_1 {l rest : List Value} {bc bs : Nat} {Q : MR → MH → Prop} {h : MH} : Kc Ok 323 4 7 l rest bc bs Q (.inr 1) h ↔ ∀ q : Nat, Ok 323 14 l [.ref q] h bc bs Q := Kc_x (by decide +kernel) (by decide +kernel)
theorem op_longAt {A : Nat → Nat} {h : MH} (R : Rl A h) {e s : Int32} : Ok 323 0 [.ref (A 0), .int e, .int s, .ref (A 39), mk0] [] h 1 6 (fun r h1 => ∃ k : Int32, r = .inl (some (.int k)) ∧ g_c h1 (A 22) = 9 ∧ Ok 232 0 [.ref (A 22), .int e, .int s] [] h1 0 0 (fun r2 h2 => ∃ b : Int32, r2 = .inl (some (.int b)) ∧ Rl A h2 ∧ g_i h2 (A 22) 9 = k ∧ (k = 0 → g_l h2 (A 39) 0 = b.toInt64))) := by
  obtain ⟨vk, vcn, v0, v1, v2, vp, vl0, vl1, vlr, vsr, vc, tx⟩ := R
  have vk0 := vk
  have vcn0 := vcn
  (refine K_el vk0 ?_; intros hA kc0 kc1 kc2 kc3 kc4 kc5 kc6 kc7 kc8 kc9 kc10 kc11 kc12 kc13 kc14 kc15 kc16 kc17 kc18 kc19 kc20 kc21 kc22 kc23 kc24 kc25 kc26 kc27 kc28 kc29 kc30 kc31 kc32 kc33 kc34 kc35 kc36 kc37 kc38 kc39 kz kt kn3 kn4 kn18 kn21 kn23 kn24 kn25 kn26 kn27 kn29 kn30 kr0_0 kr0_1 kr0_2 kr0_3 kr0_4 kr0_5 kr0_7 kr0_8 kr0_9 kr0_10 kr1_0 kr2_0 kr5_0 kr5_1 kr6_0 kr6_1 kr7_0 kr7_1 kr8_0 kr9_0 kr10_0 kr11_0 kr12_0 kr13_0 kr14_0 kr15_0 kr16_0 kr17_0 kr19_0 kr19_1 kr22_0 kr22_1 kr22_2 kr22_3 kr22_4 kr22_5 kr22_7 kr22_8 kr25_0 kr25_1 kr25_2 kr26_0 kr26_1 kr26_2 kr29_0 kr29_1)
  (refine Cn_el vcn0 ?_; intros ki5_2 ki6_2 ki7_2 ki8_1 ki8_2 ki8_3 ki9_1 ki9_2 ki9_3 ki10_1 ki10_2 ki10_3 ki11_1 ki11_2 ki11_3 ki12_1 ki12_2 ki12_3 ki13_1 ki13_2 ki13_3 ki14_1 ki14_2 ki14_3 ki28_0 ki28_1 ki31_0 ki31_1 ki32_0 ki32_1 ki33_0 ki33_1 ki34_0 ki34_1 ki35_0 ki35_1 ki36_0 ki36_1)
  have hAe : ∀ i j, i < 40 → j < 40 → (A i = A j ↔ i = j) := hA
  have hl2 := vl0
  obtain ⟨⟨b1, b2, b3, b4, b5, b6⟩, ln⟩ := hl2
  replace b1 := b1.symm
  replace b2 := b2.symm
  replace b3 := b3.symm
  replace b4 := b4.symm
  replace b5 := b5.symm
  replace b6 := b6.symm
  rw [b1, b2, b3, b4, b5, b6] at ln
  by_cases bs : s < 0 ∨ ¬ s < 6
  · have bs2 : (¬ s < 0 ∧ s < 6) = False := nrng bs
    simp only [o323_0, o323_1, o323_2, o323_3, o323_4, o323_14, o323_16, o323_17, o98_0, o98_1, o98_4, o98_5, o98_8, o98_9, o98_10, o98_13, o98_16, o98_19, o98_20, o98_23, o98_24, o98_28, o98_29, o98_32, o98_33, o98_34, o98_35, o98_38, o98_39, o232_0, o232_1, o232_2, o232_5, o232_8, o232_9, o232_12, o232_13, o232_16, o232_19, o232_20, o232_21, o232_22, o232_25, o232_26, o232_27, o232_28, hx_323_1, c_X5_checkSlot, c_X8_isSlot, c_X8_isThrown__, mc_pi, mc_pT, mn_pi, mn_pT, mi_pi, mi_pT, ml_pi, ml_pT, mr_pi, mr_pT, mz_pT, mcs_0, mcs_i, mcs_r, Kn_v, Kn_0, Kn_x, mrf_some, true_and, and_true, not_true_eq_false, not_false_eq_true, false_implies, forall_const, if_true, if_false, and_self, Nat.reduceLeDiff, Nat.reduceSub, Nat.reduceAdd, Nat.zero_le, Nat.le_refl, i10, cl0, Sum.inl.injEq, Option.some.injEq, Value.int.injEq, exists_eq_left', Nat.reduceLT, kc0, kc15, kc17, kc22, kc29, kn29, kr0_7, kr0_9, kr22_7, kr29_0, kz, bs, bs2]
    intro t ht
    first | refine ⟨⟨?_, ?_, ?_, ?_, ?_, ?_, ?_, ?_, ?_, ?_, ?_, ?_⟩, rfl⟩ | refine ⟨?_, ?_, ?_, ?_, ?_, ?_, ?_, ?_, ?_, ?_, ?_, ?_⟩
    · (try simp only [K_pi])
      exact K_pT ht vk
    · (try simp only [Cn_pi_j22 hA, Cn_pT])
      exact vcn
    · (try simp only [Vq0_pi_j22 hA, Vq0_pT])
      exact v0
    · (try simp only [Vq1_pi_j22 hA, Vq1_pT])
      exact v1
    · (try simp only [Vq2_pi_j22 hA, Vq2_pT])
      exact v2
    · (try simp only [Vp_thr hA, Vp_pT])
      exact vp
    · (try simp only [Vl0_pi_j22 hA, Vl0_pT])
      exact vl0
    · (try simp only [Vl1_pi_j22 hA, Vl1_pT])
      exact vl1
    · (try simp only [Vlr_pi_j22 hA, Vlr_pT])
      exact vlr
    · (try simp only [Vsr_pi_j22 hA, Vsr_pT])
      exact vsr
    · (try simp only [Vc_pi_j22 hA, Vc_pT])
      exact vc
    · (try simp only [Tx_pi_j22 hA])
      exact Tx_pT ht tx
  · have s1 : ¬ s < 0 := fun z => bs (Or.inl z)
    have s2 : s < 6 := Classical.byContradiction fun z => bs (Or.inr z)
    have hs := ix_ok s1 s2
    have hs2 := hs
    obtain ⟨⟨j0, j1, j2, j3⟩, d01, d02, d03, d10, d12, d13, d20, d21, d23, d30, d31, d32⟩ := hs2
    obtain ⟨l0, l1, l2, l3⟩ := ix_lt hs
    have vs0 := (vsr _ l0).1
    have vs1 := (vsr _ l1).1
    have vs2 := (vsr _ l2).1
    have vs3 := (vsr _ l3).1
    have bs2 : (¬ s < 0 ∧ s < 6) = True := eq_true ⟨s1, s2⟩
    by_cases x0 : e < 0
    · skip
      simp only [o323_0, o323_1, o323_2, o323_3, o323_4, o323_7, o323_8, o323_11, o323_14, o323_16, o323_17, o323_18, o323_19, o98_0, o98_1, o98_4, o98_5, o98_8, o98_9, o98_10, o98_13, o98_16, o98_19, o98_20, o98_23, o98_24, o98_27, o98_28, o98_29, o98_32, o98_33, o98_34, o98_35, o98_38, o98_39, o232_0, o232_1, o232_2, o232_5, o232_8, o232_9, o232_12, o232_13, o232_16, o232_19, o232_20, o232_21, o232_22, o232_25, o232_26, o232_27, o232_28, o232_31, o232_34, o232_35, o232_36, o232_39, o232_42, o232_43, o232_44, o232_45, o232_46, o232_49, o232_50, o232_53, o232_54, o232_55, o232_58, o232_59, o232_60, o232_61, o232_67, hx_323_1, c_X5_checkSlot, c_X8_isSlot, c_X8_isThrown__, c_X8_isBeyond, c_ref_5 (cs := A 18), c_X8_no (cs := A 30), mc_pi, mc_pl, mc_pT, mn_pi, mn_pl, mn_pT, mi_pi, mi_pl, mi_pT, ml_pi, ml_pl, ml_pT, mr_pi, mr_pl, mr_pT, mz_pi, mz_pl, mz_pT, mcs_0, mcs_i, mcs_r, Kn_v, Kn_0, Kn_x, mrf_some, true_and, and_true, false_and, and_false, true_or, or_false, not_true_eq_false, not_false_eq_true, false_implies, implies_true, forall_const, if_true, if_false, and_self, Nat.reduceEqDiff, Nat.reduceLeDiff, Nat.reduceSub, Nat.reduceAdd, Nat.zero_le, Nat.le_refl, i10, i01, Int32.reduceSub, cl0, cl5, Kc_v, Sum.inl.injEq, Option.some.injEq, Value.int.injEq, exists_eq_left', Nat.reduceLT, hAe, kc0, kc15, kc17, kc18, kc22, kc23, kc29, kc30, kc37, kc39, kn18, kn23, kn29, kn30, kr0_7, kr0_9, kr17_0, kr22_0, kr22_7, kr22_8, kr29_0, kz, b1, b5, be0, x0, v18, cl5, cl0, s1, s2, i64_inj]
      first | refine ⟨⟨?_, ?_, ?_, ?_, ?_, ?_, ?_, ?_, ?_, ?_, ?_, ?_⟩, rfl⟩ | refine ⟨?_, ?_, ?_, ?_, ?_, ?_, ?_, ?_, ?_, ?_, ?_, ?_⟩
      · (try simp only [K_pi, K_pl])
        exact vk
      · (try simp only [Cn_pi_j18 hA, Cn_pi_j22 hA, Cn_pi_j30 hA, Cn_pl])
        exact vcn
      · (try simp only [Vq0_pi_j18 hA, Vq0_pi_j22 hA, Vq0_pi_j30 hA, Vq0_pl])
        exact v0
      · (try simp only [Vq1_pi_j18 hA, Vq1_pi_j22 hA, Vq1_pi_j30 hA, Vq1_pl])
        exact v1
      · (try simp only [Vq2_pi_j18 hA, Vq2_pi_j22 hA, Vq2_pi_j30 hA, Vq2_pl])
        exact v2
      · (try simp only [Vp_pi_j18 hA, Vp_pi_j30 hA, Vp_thr hA, Vp_pl])
        exact vp
      · (try simp only [Vl0_pi_j18 hA, Vl0_pi_j22 hA, Vl0_pi_j30 hA, Vl0_pl])
        exact vl0
      · (try simp only [Vl1_pi_j18 hA, Vl1_pi_j22 hA, Vl1_pi_j30 hA, Vl1_pl])
        exact vl1
      · (try simp only [Vlr_pi_j18 hA, Vlr_pi_j22 hA, Vlr_pi_j30 hA, Vlr_pl_j39 hA])
        exact vlr
      · (try simp only [Vsr_pi_j18 hA, Vsr_pi_j22 hA, Vsr_pi_j30 hA, Vsr_pl_j39 hA])
        exact vsr
      · refine Vc_of (c := 5) vc (by decide) (fun k => ?_) (fun k => ?_) <;> simp only [mi_pi, mi_pl, hAe, Nat.reduceLT, Nat.reduceEqDiff, false_and, true_and, if_false]
      · (try simp only [Tx_pi_j18 hA, Tx_pi_j22 hA, Tx_pi_j30 hA, Tx_pl])
        exact tx
    · by_cases x1 : e < g_i h (A 15) 5
      · obtain ⟨i2, hj⟩ := lnA (R := 16) ln (by decide) (by decide) (by decide) x0 x1
        have hj2 := hj.2.2
        have vlk := (vlr _ (rdy_lt hj)).symm
        simp only [o323_0, o323_1, o323_2, o323_3, o323_4, o323_7, o323_8, o323_11, o323_14, o323_16, o323_17, o323_18, o323_19, o98_0, o98_1, o98_4, o98_5, o98_8, o98_9, o98_10, o98_13, o98_16, o98_19, o98_20, o98_23, o98_24, o98_28, o98_29, o98_32, o98_33, o98_34, o98_35, o98_38, o98_39, o98_42, o98_45, o98_48, o232_0, o232_1, o232_2, o232_5, o232_8, o232_9, o232_12, o232_13, o232_16, o232_19, o232_20, o232_21, o232_22, o232_25, o232_26, o232_27, o232_28, o232_31, o232_34, o232_35, o232_36, o232_42, o232_43, o232_44, o232_45, o232_46, o232_49, o232_50, o232_53, o232_54, o232_55, o232_58, o232_59, o232_60, o232_61, o232_64, o232_67, hx_323_1, c_X5_checkSlot, c_X8_isSlot, c_X8_isThrown__, c_X8_isBeyond, c_X3_readAt (rw := A 1) (cs := A 3) (n := 16), c_X5_layNumber (rw := A 2) (cs := A 4), c_X8_laid (sr := A 24), c_X0_done (cs := A 18), c_X8_done (cs := A 30), mc_pi, mc_pl, mc_pT, mn_pi, mn_pl, mn_pT, mi_pi, mi_pl, mi_pT, ml_pi, ml_pl, ml_pT, mr_pi, mr_pl, mr_pT, mz_pi, mz_pl, mz_pT, mcs_0, mcs_i, mcs_r, Kn_v, Kn_0, Kn_x, mrf_some, true_and, and_true, false_and, and_false, or_false, not_true_eq_false, not_false_eq_true, false_implies, implies_true, forall_const, if_true, if_false, and_self, Nat.reduceEqDiff, Nat.reduceLeDiff, Nat.reduceSub, Nat.reduceAdd, Nat.zero_le, Nat.le_refl, i10, i01, cl0, Kc_v, Sum.inl.injEq, Option.some.injEq, Value.int.injEq, exists_eq_left', Nat.reduceLT, hAe, kc0, kc1, kc2, kc3, kc4, kc15, kc17, kc18, kc22, kc23, kc24, kc29, kc30, kc37, kc39, kn3, kn4, kn18, kn23, kn24, kn29, kn30, kr0_1, kr0_7, kr0_9, kr1_0, kr2_0, kr15_0, kr17_0, kr22_0, kr22_1, kr22_7, kr22_8, kr29_0, kz, b1, b5, be0, x0, x1, i2, hj, hj2, vlk, cl0, s1, s2, hs, vs0, vs1, vs2, vs3, i64_inj, fo0, fo1, fo2, fo3]
        first | refine ⟨⟨?_, ?_, ?_, ?_, ?_, ?_, ?_, ?_, ?_, ?_, ?_, ?_⟩, rfl⟩ | refine ⟨?_, ?_, ?_, ?_, ?_, ?_, ?_, ?_, ?_, ?_, ?_, ?_⟩
        · (try simp only [K_pi, K_pl])
          exact vk
        · (try simp only [Cn_pi_j18 hA, Cn_pi_j22 hA, Cn_pi_j30 hA, Cn_pi_j24 hA, Cn_pl])
          exact vcn
        · (try simp only [Vq0_pi_j18 hA, Vq0_pi_j22 hA, Vq0_pi_j30 hA, Vq0_pi_j24 hA, Vq0_pl])
          exact v0
        · (try simp only [Vq1_pi_j18 hA, Vq1_pi_j22 hA, Vq1_pi_j30 hA, Vq1_pi_j24 hA, Vq1_pl])
          exact v1
        · (try simp only [Vq2_pi_j18 hA, Vq2_pi_j22 hA, Vq2_pi_j30 hA, Vq2_pi_j24 hA, Vq2_pl])
          exact v2
        · (try simp only [Vp_pi_j18 hA, Vp_pi_j30 hA, Vp_pi_j24 hA, Vp_thr hA, Vp_pl])
          exact vp
        · (try simp only [Vl0_pi_j18 hA, Vl0_pi_j22 hA, Vl0_pi_j30 hA, Vl0_pi_j24 hA, Vl0_pl])
          exact vl0
        · (try simp only [Vl1_pi_j18 hA, Vl1_pi_j22 hA, Vl1_pi_j30 hA, Vl1_pi_j24 hA, Vl1_pl])
          exact vl1
        · (try simp only [Vlr_pi_j18 hA, Vlr_pi_j22 hA, Vlr_pi_j30 hA, Vlr_pi_j24 hA, Vlr_pl_j39 hA, Vlr_pl_j4 hA])
          exact vlr
        · simp only [Vsr_pi_j30 hA]
          refine Vsr_nest vsr (fun k => ?_) (fun k => ?_) <;> simp only [mi_pi, mi_pl, ml_pi, ml_pl, hAe, Nat.reduceLT, Nat.reduceEqDiff, false_and, true_and, if_false]
        · refine Vc_of (c := 0) vc (by decide) (fun k => ?_) (fun k => ?_) <;> simp only [mi_pi, mi_pl, hAe, Nat.reduceLT, Nat.reduceEqDiff, false_and, true_and, if_false]
        · (try simp only [Tx_pi_j18 hA, Tx_pi_j22 hA, Tx_pi_j30 hA, Tx_pi_j24 hA, Tx_pl])
          exact tx
      · skip
        simp only [o323_0, o323_1, o323_2, o323_3, o323_4, o323_7, o323_8, o323_11, o323_14, o323_16, o323_17, o323_18, o323_19, o98_0, o98_1, o98_4, o98_5, o98_8, o98_9, o98_10, o98_13, o98_16, o98_19, o98_20, o98_23, o98_24, o98_27, o98_28, o98_29, o98_32, o98_33, o98_34, o98_35, o98_38, o98_39, o232_0, o232_1, o232_2, o232_5, o232_8, o232_9, o232_12, o232_13, o232_16, o232_19, o232_20, o232_21, o232_22, o232_25, o232_26, o232_27, o232_28, o232_31, o232_34, o232_35, o232_36, o232_39, o232_42, o232_43, o232_44, o232_45, o232_46, o232_49, o232_50, o232_53, o232_54, o232_55, o232_58, o232_59, o232_60, o232_61, o232_67, hx_323_1, c_X5_checkSlot, c_X8_isSlot, c_X8_isThrown__, c_X8_isBeyond, c_ref_5 (cs := A 18), c_X8_no (cs := A 30), mc_pi, mc_pl, mc_pT, mn_pi, mn_pl, mn_pT, mi_pi, mi_pl, mi_pT, ml_pi, ml_pl, ml_pT, mr_pi, mr_pl, mr_pT, mz_pi, mz_pl, mz_pT, mcs_0, mcs_i, mcs_r, Kn_v, Kn_0, Kn_x, mrf_some, true_and, and_true, false_and, and_false, or_true, or_false, not_true_eq_false, not_false_eq_true, false_implies, implies_true, forall_const, if_true, if_false, and_self, Nat.reduceEqDiff, Nat.reduceLeDiff, Nat.reduceSub, Nat.reduceAdd, Nat.zero_le, Nat.le_refl, i10, i01, Int32.reduceSub, cl0, cl5, Kc_v, Sum.inl.injEq, Option.some.injEq, Value.int.injEq, exists_eq_left', Nat.reduceLT, hAe, kc0, kc15, kc17, kc18, kc22, kc23, kc29, kc30, kc37, kc39, kn18, kn23, kn29, kn30, kr0_7, kr0_9, kr17_0, kr22_0, kr22_7, kr22_8, kr29_0, kz, b1, b5, be0, x0, x1, v18, cl5, cl0, s1, s2, i64_inj]
        first | refine ⟨⟨?_, ?_, ?_, ?_, ?_, ?_, ?_, ?_, ?_, ?_, ?_, ?_⟩, rfl⟩ | refine ⟨?_, ?_, ?_, ?_, ?_, ?_, ?_, ?_, ?_, ?_, ?_, ?_⟩
        · (try simp only [K_pi, K_pl])
          exact vk
        · (try simp only [Cn_pi_j18 hA, Cn_pi_j22 hA, Cn_pi_j30 hA, Cn_pl])
          exact vcn
        · (try simp only [Vq0_pi_j18 hA, Vq0_pi_j22 hA, Vq0_pi_j30 hA, Vq0_pl])
          exact v0
        · (try simp only [Vq1_pi_j18 hA, Vq1_pi_j22 hA, Vq1_pi_j30 hA, Vq1_pl])
          exact v1
        · (try simp only [Vq2_pi_j18 hA, Vq2_pi_j22 hA, Vq2_pi_j30 hA, Vq2_pl])
          exact v2
        · (try simp only [Vp_pi_j18 hA, Vp_pi_j30 hA, Vp_thr hA, Vp_pl])
          exact vp
        · (try simp only [Vl0_pi_j18 hA, Vl0_pi_j22 hA, Vl0_pi_j30 hA, Vl0_pl])
          exact vl0
        · (try simp only [Vl1_pi_j18 hA, Vl1_pi_j22 hA, Vl1_pi_j30 hA, Vl1_pl])
          exact vl1
        · (try simp only [Vlr_pi_j18 hA, Vlr_pi_j22 hA, Vlr_pi_j30 hA, Vlr_pl_j39 hA])
          exact vlr
        · (try simp only [Vsr_pi_j18 hA, Vsr_pi_j22 hA, Vsr_pi_j30 hA, Vsr_pl_j39 hA])
          exact vsr
        · refine Vc_of (c := 5) vc (by decide) (fun k => ?_) (fun k => ?_) <;> simp only [mi_pi, mi_pl, hAe, Nat.reduceLT, Nat.reduceEqDiff, false_and, true_and, if_false]
        · (try simp only [Tx_pi_j18 hA, Tx_pi_j22 hA, Tx_pi_j30 hA, Tx_pl])
          exact tx

theorem op_nextShort {A : Nat → Nat} {h : MH} (R : Rl A h) : Ok 99 0 [.ref (A 0)] [] h 0 0 (fun r h1 => ∃ k : Int32, r = .inl (some (.int k)) ∧ g_c h1 (A 22) = 9 ∧ Ok 233 0 [.ref (A 22)] [] h1 0 0 (fun r2 h2 => ∃ b : Int32, r2 = .inl (some (.int b)) ∧ Rl A h2 ∧ g_i h2 (A 22) 9 = 0 ∧ k = b)) := by
  obtain ⟨vk, vcn, v0, v1, v2, vp, vl0, vl1, vlr, vsr, vc, tx⟩ := R
  have vk0 := vk
  have vcn0 := vcn
  (refine K_el vk0 ?_; intros hA kc0 kc1 kc2 kc3 kc4 kc5 kc6 kc7 kc8 kc9 kc10 kc11 kc12 kc13 kc14 kc15 kc16 kc17 kc18 kc19 kc20 kc21 kc22 kc23 kc24 kc25 kc26 kc27 kc28 kc29 kc30 kc31 kc32 kc33 kc34 kc35 kc36 kc37 kc38 kc39 kz kt kn3 kn4 kn18 kn21 kn23 kn24 kn25 kn26 kn27 kn29 kn30 kr0_0 kr0_1 kr0_2 kr0_3 kr0_4 kr0_5 kr0_7 kr0_8 kr0_9 kr0_10 kr1_0 kr2_0 kr5_0 kr5_1 kr6_0 kr6_1 kr7_0 kr7_1 kr8_0 kr9_0 kr10_0 kr11_0 kr12_0 kr13_0 kr14_0 kr15_0 kr16_0 kr17_0 kr19_0 kr19_1 kr22_0 kr22_1 kr22_2 kr22_3 kr22_4 kr22_5 kr22_7 kr22_8 kr25_0 kr25_1 kr25_2 kr26_0 kr26_1 kr26_2 kr29_0 kr29_1)
  (refine Cn_el vcn0 ?_; intros ki5_2 ki6_2 ki7_2 ki8_1 ki8_2 ki8_3 ki9_1 ki9_2 ki9_3 ki10_1 ki10_2 ki10_3 ki11_1 ki11_2 ki11_3 ki12_1 ki12_2 ki12_3 ki13_1 ki13_2 ki13_3 ki14_1 ki14_2 ki14_3 ki28_0 ki28_1 ki31_0 ki31_1 ki32_0 ki32_1 ki33_0 ki33_1 ki34_0 ki34_1 ki35_0 ki35_1 ki36_0 ki36_1)
  have hAe : ∀ i j, i < 40 → j < 40 → (A i = A j ↔ i = j) := hA
  have hl2 := vl1
  obtain ⟨⟨b1, b2, b3, b4, b5, b6⟩, ln⟩ := hl2
  replace b1 := b1.symm
  replace b2 := b2.symm
  replace b3 := b3.symm
  replace b4 := b4.symm
  replace b5 := b5.symm
  replace b6 := b6.symm
  rw [b1, b2, b3, b4, b5, b6] at ln
  by_cases e0 : g_i h (A 16) 5 - g_i h (A 16) 4 = 0
  · skip
    simp only [o99_0, o99_1, o99_4, o99_7, o99_10, o99_11, o99_14, o99_15, o99_18, o99_19, o99_20, o99_23, o99_24, o99_27, o233_0, o233_1, o233_2, o233_5, o233_6, o233_9, o233_10, o233_11, o233_14, o233_17, o233_18, o233_19, o233_22, o233_25, o233_26, o233_27, o233_30, o233_31, o233_32, o233_35, o233_36, o233_37, o233_44, c_X3_rests, c_X7_rests, c_ref_2 (cs := A 18), c_X8_no (cs := A 30), mc_pi, mn_pi, mi_pi, mr_pi, mz_pi, mcs_0, mcs_r, Kn_v, mrf_some, kok_0, true_and, and_true, not_true_eq_false, false_implies, forall_const, if_true, if_false, and_self, Nat.reduceEqDiff, Nat.reduceLeDiff, Nat.reduceAdd, Nat.zero_le, Int32.reduceSub, cl1, cl2, Sum.inl.injEq, Option.some.injEq, Value.int.injEq, exists_eq_left', Nat.reduceLT, hAe, kc0, kc16, kc17, kc18, kc22, kc29, kc30, kc38, kn18, kn29, kn30, kr0_8, kr0_9, kr17_0, kr22_1, kr22_7, kr22_8, kr29_1, kz, b4, b5, be0, e0, v18, cl2, cl1]
    first | refine ⟨⟨?_, ?_, ?_, ?_, ?_, ?_, ?_, ?_, ?_, ?_, ?_, ?_⟩, rfl⟩ | refine ⟨?_, ?_, ?_, ?_, ?_, ?_, ?_, ?_, ?_, ?_, ?_, ?_⟩
    · (try simp only [K_pi])
      exact vk
    · (try simp only [Cn_pi_j18 hA, Cn_pi_j22 hA, Cn_pi_j30 hA])
      exact vcn
    · (try simp only [Vq0_pi_j18 hA, Vq0_pi_j22 hA, Vq0_pi_j30 hA])
      exact v0
    · (try simp only [Vq1_pi_j18 hA, Vq1_pi_j22 hA, Vq1_pi_j30 hA])
      exact v1
    · (try simp only [Vq2_pi_j18 hA, Vq2_pi_j22 hA, Vq2_pi_j30 hA])
      exact v2
    · (try simp only [Vp_pi_j18 hA, Vp_pi_j30 hA, Vp_thr hA])
      exact vp
    · (try simp only [Vl0_pi_j18 hA, Vl0_pi_j22 hA, Vl0_pi_j30 hA])
      exact vl0
    · (try simp only [Vl1_pi_j18 hA, Vl1_pi_j22 hA, Vl1_pi_j30 hA])
      exact vl1
    · (try simp only [Vlr_pi_j18 hA, Vlr_pi_j22 hA, Vlr_pi_j30 hA])
      exact vlr
    · (try simp only [Vsr_pi_j18 hA, Vsr_pi_j22 hA, Vsr_pi_j30 hA])
      exact vsr
    · refine Vc_of (c := 2) vc (by decide) (fun k => ?_) (fun k => ?_) <;> simp only [mi_pi, hAe, Nat.reduceLT, Nat.reduceEqDiff, false_and, true_and, if_false]
    · (try simp only [Tx_pi_j18 hA, Tx_pi_j22 hA, Tx_pi_j30 hA])
      exact tx
  · obtain ⟨i1, i2, hj, hq9⟩ := lnN (R := 36) ln (by decide) (by decide) (by decide) e0
    have hj2 := hj.2.2
    have vsf := (vsr _ (rdy_lt hj)).1
    simp only [o99_0, o99_1, o99_4, o99_7, o99_10, o99_11, o99_14, o99_15, o99_19, o99_20, o99_23, o99_24, o99_27, o99_30, o99_31, o99_34, o233_0, o233_1, o233_2, o233_5, o233_6, o233_9, o233_10, o233_11, o233_14, o233_17, o233_18, o233_19, o233_25, o233_26, o233_27, o233_30, o233_31, o233_32, o233_35, o233_36, o233_37, o233_40, o233_41, o233_44, c_X3_rests, c_X7_rests, c_X3_readNext (rw := A 2) (cs := A 4) (n := 36), c_X8_next, c_X0_done (cs := A 18), c_X8_done (cs := A 30), mc_pi, mn_pi, mi_pi, mr_pi, mz_pi, mcs_0, mcs_r, Kn_v, mrf_some, kok_0, true_and, and_true, false_and, not_false_eq_true, false_implies, forall_const, if_true, if_false, and_self, Nat.reduceEqDiff, Nat.reduceLeDiff, Nat.reduceAdd, Nat.zero_le, cl1, Sum.inl.injEq, Option.some.injEq, Value.int.injEq, exists_eq_left', Nat.reduceLT, hAe, kc0, kc2, kc4, kc16, kc17, kc18, kc22, kc24, kc29, kc30, kc38, kn4, kn18, kn24, kn29, kn30, kr0_8, kr0_9, kr2_0, kr16_0, kr17_0, kr22_1, kr22_7, kr22_8, kr29_1, kz, b1, b4, b5, lnxt, be0, e0, i1, i2, hj, hj2, vsf, i64_back, cl1]
    first | refine ⟨⟨?_, ?_, ?_, ?_, ?_, ?_, ?_, ?_, ?_, ?_, ?_, ?_⟩, rfl⟩ | refine ⟨?_, ?_, ?_, ?_, ?_, ?_, ?_, ?_, ?_, ?_, ?_, ?_⟩
    · (try simp only [K_pi])
      exact vk
    · (try simp only [Cn_pi_j18 hA, Cn_pi_j22 hA, Cn_pi_j30 hA, Cn_pi_j16 hA, Cn_pi_j38 hA])
      exact vcn
    · (try simp only [Vq0_pi_j18 hA, Vq0_pi_j22 hA, Vq0_pi_j30 hA, Vq0_pi_j16 hA, Vq0_pi_j38 hA])
      exact v0
    · (try simp only [Vq1_pi_j18 hA, Vq1_pi_j22 hA, Vq1_pi_j30 hA, Vq1_pi_j16 hA, Vq1_pi_j38 hA])
      exact v1
    · (try simp only [Vq2_pi_j18 hA, Vq2_pi_j22 hA, Vq2_pi_j30 hA, Vq2_pi_j16 hA, Vq2_pi_j38 hA])
      exact v2
    · (try simp only [Vp_pi_j18 hA, Vp_pi_j30 hA, Vp_pi_j16 hA, Vp_pi_j38 hA, Vp_thr hA])
      exact vp
    · (try simp only [Vl0_pi_j18 hA, Vl0_pi_j22 hA, Vl0_pi_j30 hA, Vl0_pi_j16 hA, Vl0_pi_j38 hA])
      exact vl0
    · simp only [Vl1, mi_pi, hAe, Nat.reduceLT, Nat.reduceEqDiff, and_false, true_and, and_true, if_false, if_true, b1, b2, b3, b4, b5, b6, true_and, and_self]
      first | exact hq9 | exact ⟨⟨rfl, rfl, rfl, rfl, rfl, rfl⟩, hq9⟩ | (refine ⟨⟨?_, ?_, ?_, ?_, ?_, ?_⟩, hq9⟩ <;> first | rfl | trivial)
    · (try simp only [Vlr_pi_j18 hA, Vlr_pi_j22 hA, Vlr_pi_j30 hA, Vlr_pi_j16 hA, Vlr_pi_j38 hA])
      exact vlr
    · (try simp only [Vsr_pi_j18 hA, Vsr_pi_j22 hA, Vsr_pi_j30 hA, Vsr_pi_j16 hA, Vsr_pi_j38 hA])
      exact vsr
    · refine Vc_of (c := 0) vc (by decide) (fun k => ?_) (fun k => ?_) <;> simp only [mi_pi, hAe, Nat.reduceLT, Nat.reduceEqDiff, false_and, true_and, if_false]
    · (try simp only [Tx_pi_j18 hA, Tx_pi_j22 hA, Tx_pi_j30 hA, Tx_pi_j16 hA, Tx_pi_j38 hA])
      exact tx

theorem op_shortAt {A : Nat → Nat} {h : MH} (R : Rl A h) {e : Int32} : Ok 100 0 [.ref (A 0), .int e] [] h 0 0 (fun r h1 => ∃ k : Int32, r = .inl (some (.int k)) ∧ g_c h1 (A 22) = 9 ∧ Ok 234 0 [.ref (A 22), .int e] [] h1 0 0 (fun r2 h2 => ∃ b : Int32, r2 = .inl (some (.int b)) ∧ Rl A h2 ∧ g_i h2 (A 22) 9 = 0 ∧ k = b)) := by
  obtain ⟨vk, vcn, v0, v1, v2, vp, vl0, vl1, vlr, vsr, vc, tx⟩ := R
  have vk0 := vk
  have vcn0 := vcn
  (refine K_el vk0 ?_; intros hA kc0 kc1 kc2 kc3 kc4 kc5 kc6 kc7 kc8 kc9 kc10 kc11 kc12 kc13 kc14 kc15 kc16 kc17 kc18 kc19 kc20 kc21 kc22 kc23 kc24 kc25 kc26 kc27 kc28 kc29 kc30 kc31 kc32 kc33 kc34 kc35 kc36 kc37 kc38 kc39 kz kt kn3 kn4 kn18 kn21 kn23 kn24 kn25 kn26 kn27 kn29 kn30 kr0_0 kr0_1 kr0_2 kr0_3 kr0_4 kr0_5 kr0_7 kr0_8 kr0_9 kr0_10 kr1_0 kr2_0 kr5_0 kr5_1 kr6_0 kr6_1 kr7_0 kr7_1 kr8_0 kr9_0 kr10_0 kr11_0 kr12_0 kr13_0 kr14_0 kr15_0 kr16_0 kr17_0 kr19_0 kr19_1 kr22_0 kr22_1 kr22_2 kr22_3 kr22_4 kr22_5 kr22_7 kr22_8 kr25_0 kr25_1 kr25_2 kr26_0 kr26_1 kr26_2 kr29_0 kr29_1)
  (refine Cn_el vcn0 ?_; intros ki5_2 ki6_2 ki7_2 ki8_1 ki8_2 ki8_3 ki9_1 ki9_2 ki9_3 ki10_1 ki10_2 ki10_3 ki11_1 ki11_2 ki11_3 ki12_1 ki12_2 ki12_3 ki13_1 ki13_2 ki13_3 ki14_1 ki14_2 ki14_3 ki28_0 ki28_1 ki31_0 ki31_1 ki32_0 ki32_1 ki33_0 ki33_1 ki34_0 ki34_1 ki35_0 ki35_1 ki36_0 ki36_1)
  have hAe : ∀ i j, i < 40 → j < 40 → (A i = A j ↔ i = j) := hA
  have hl2 := vl1
  obtain ⟨⟨b1, b2, b3, b4, b5, b6⟩, ln⟩ := hl2
  replace b1 := b1.symm
  replace b2 := b2.symm
  replace b3 := b3.symm
  replace b4 := b4.symm
  replace b5 := b5.symm
  replace b6 := b6.symm
  rw [b1, b2, b3, b4, b5, b6] at ln
  by_cases x0 : e < 0
  · skip
    simp only [o100_0, o100_1, o100_4, o100_5, o100_6, o100_9, o100_12, o100_15, o100_16, o100_19, o100_20, o100_23, o100_24, o100_25, o100_28, o100_29, o100_32, o100_33, o234_0, o234_1, o234_2, o234_5, o234_6, o234_9, o234_10, o234_11, o234_12, o234_15, o234_18, o234_19, o234_20, o234_23, o234_26, o234_27, o234_28, o234_31, o234_32, o234_35, o234_36, o234_37, o234_40, o234_41, o234_42, o234_43, o234_46, c_X8_isBeyond, c_ref_5 (cs := A 18), c_X8_no (cs := A 30), mc_pi, mn_pi, mi_pi, mr_pi, mz_pi, mcs_0, mcs_r, Kn_v, mrf_some, kok_0, true_and, and_true, false_and, true_or, not_true_eq_false, not_false_eq_true, false_implies, forall_const, if_true, if_false, and_self, Nat.reduceEqDiff, Nat.reduceLeDiff, Nat.reduceAdd, Nat.zero_le, i10, Int32.reduceSub, cl1, cl5, Sum.inl.injEq, Option.some.injEq, Value.int.injEq, exists_eq_left', Nat.reduceLT, hAe, kc0, kc16, kc17, kc18, kc22, kc24, kc29, kc30, kc38, kn18, kn24, kn29, kn30, kr0_8, kr0_9, kr17_0, kr22_1, kr22_7, kr22_8, kr29_1, kz, b1, b5, be0, x0, v18, cl5, cl1]
    first | refine ⟨⟨?_, ?_, ?_, ?_, ?_, ?_, ?_, ?_, ?_, ?_, ?_, ?_⟩, rfl⟩ | refine ⟨?_, ?_, ?_, ?_, ?_, ?_, ?_, ?_, ?_, ?_, ?_, ?_⟩
    · (try simp only [K_pi])
      exact vk
    · (try simp only [Cn_pi_j18 hA, Cn_pi_j22 hA, Cn_pi_j30 hA])
      exact vcn
    · (try simp only [Vq0_pi_j18 hA, Vq0_pi_j22 hA, Vq0_pi_j30 hA])
      exact v0
    · (try simp only [Vq1_pi_j18 hA, Vq1_pi_j22 hA, Vq1_pi_j30 hA])
      exact v1
    · (try simp only [Vq2_pi_j18 hA, Vq2_pi_j22 hA, Vq2_pi_j30 hA])
      exact v2
    · (try simp only [Vp_pi_j18 hA, Vp_pi_j30 hA, Vp_thr hA])
      exact vp
    · (try simp only [Vl0_pi_j18 hA, Vl0_pi_j22 hA, Vl0_pi_j30 hA])
      exact vl0
    · (try simp only [Vl1_pi_j18 hA, Vl1_pi_j22 hA, Vl1_pi_j30 hA])
      exact vl1
    · (try simp only [Vlr_pi_j18 hA, Vlr_pi_j22 hA, Vlr_pi_j30 hA])
      exact vlr
    · (try simp only [Vsr_pi_j18 hA, Vsr_pi_j22 hA, Vsr_pi_j30 hA])
      exact vsr
    · refine Vc_of (c := 5) vc (by decide) (fun k => ?_) (fun k => ?_) <;> simp only [mi_pi, hAe, Nat.reduceLT, Nat.reduceEqDiff, false_and, true_and, if_false]
    · (try simp only [Tx_pi_j18 hA, Tx_pi_j22 hA, Tx_pi_j30 hA])
      exact tx
  · by_cases x1 : e < g_i h (A 16) 5
    · obtain ⟨i2, hj⟩ := lnA (R := 36) ln (by decide) (by decide) (by decide) x0 x1
      have hj2 := hj.2.2
      have vsf := (vsr _ (rdy_lt hj)).1
      simp only [o100_0, o100_1, o100_4, o100_5, o100_6, o100_9, o100_12, o100_15, o100_16, o100_19, o100_20, o100_24, o100_25, o100_28, o100_29, o100_32, o100_33, o100_36, o100_37, o100_40, o234_0, o234_1, o234_2, o234_5, o234_6, o234_9, o234_10, o234_11, o234_12, o234_15, o234_18, o234_19, o234_20, o234_26, o234_27, o234_28, o234_31, o234_32, o234_35, o234_36, o234_37, o234_40, o234_41, o234_42, o234_43, o234_46, c_X8_isBeyond, c_X3_readAt (rw := A 2) (cs := A 4) (n := 36), c_X0_done (cs := A 18), c_X8_done (cs := A 30), mc_pi, mn_pi, mi_pi, mr_pi, mz_pi, mcs_0, mcs_r, Kn_v, mrf_some, kok_0, true_and, and_true, false_and, or_false, not_true_eq_false, not_false_eq_true, false_implies, forall_const, if_true, if_false, and_self, Nat.reduceEqDiff, Nat.reduceLeDiff, Nat.reduceAdd, Nat.zero_le, cl1, Sum.inl.injEq, Option.some.injEq, Value.int.injEq, exists_eq_left', Nat.reduceLT, hAe, kc0, kc2, kc4, kc16, kc17, kc18, kc22, kc24, kc29, kc30, kc38, kn4, kn18, kn24, kn29, kn30, kr0_8, kr0_9, kr2_0, kr16_0, kr17_0, kr22_1, kr22_7, kr22_8, kr29_1, kz, b1, b5, be0, x0, x1, i2, hj, hj2, vsf, i64_back, cl1]
      first | refine ⟨⟨?_, ?_, ?_, ?_, ?_, ?_, ?_, ?_, ?_, ?_, ?_, ?_⟩, rfl⟩ | refine ⟨?_, ?_, ?_, ?_, ?_, ?_, ?_, ?_, ?_, ?_, ?_, ?_⟩
      · (try simp only [K_pi])
        exact vk
      · (try simp only [Cn_pi_j18 hA, Cn_pi_j22 hA, Cn_pi_j30 hA])
        exact vcn
      · (try simp only [Vq0_pi_j18 hA, Vq0_pi_j22 hA, Vq0_pi_j30 hA])
        exact v0
      · (try simp only [Vq1_pi_j18 hA, Vq1_pi_j22 hA, Vq1_pi_j30 hA])
        exact v1
      · (try simp only [Vq2_pi_j18 hA, Vq2_pi_j22 hA, Vq2_pi_j30 hA])
        exact v2
      · (try simp only [Vp_pi_j18 hA, Vp_pi_j30 hA, Vp_thr hA])
        exact vp
      · (try simp only [Vl0_pi_j18 hA, Vl0_pi_j22 hA, Vl0_pi_j30 hA])
        exact vl0
      · (try simp only [Vl1_pi_j18 hA, Vl1_pi_j22 hA, Vl1_pi_j30 hA])
        exact vl1
      · (try simp only [Vlr_pi_j18 hA, Vlr_pi_j22 hA, Vlr_pi_j30 hA])
        exact vlr
      · (try simp only [Vsr_pi_j18 hA, Vsr_pi_j22 hA, Vsr_pi_j30 hA])
        exact vsr
      · refine Vc_of (c := 0) vc (by decide) (fun k => ?_) (fun k => ?_) <;> simp only [mi_pi, hAe, Nat.reduceLT, Nat.reduceEqDiff, false_and, true_and, if_false]
      · (try simp only [Tx_pi_j18 hA, Tx_pi_j22 hA, Tx_pi_j30 hA])
        exact tx
    · skip
      simp only [o100_0, o100_1, o100_4, o100_5, o100_6, o100_9, o100_12, o100_15, o100_16, o100_19, o100_20, o100_23, o100_24, o100_25, o100_28, o100_29, o100_32, o100_33, o234_0, o234_1, o234_2, o234_5, o234_6, o234_9, o234_10, o234_11, o234_12, o234_15, o234_18, o234_19, o234_20, o234_23, o234_26, o234_27, o234_28, o234_31, o234_32, o234_35, o234_36, o234_37, o234_40, o234_41, o234_42, o234_43, o234_46, c_X8_isBeyond, c_ref_5 (cs := A 18), c_X8_no (cs := A 30), mc_pi, mn_pi, mi_pi, mr_pi, mz_pi, mcs_0, mcs_r, Kn_v, mrf_some, kok_0, true_and, and_true, false_and, or_true, not_false_eq_true, false_implies, forall_const, if_true, if_false, and_self, Nat.reduceEqDiff, Nat.reduceLeDiff, Nat.reduceAdd, Nat.zero_le, i10, Int32.reduceSub, cl1, cl5, Sum.inl.injEq, Option.some.injEq, Value.int.injEq, exists_eq_left', Nat.reduceLT, hAe, kc0, kc16, kc17, kc18, kc22, kc24, kc29, kc30, kc38, kn18, kn24, kn29, kn30, kr0_8, kr0_9, kr17_0, kr22_1, kr22_7, kr22_8, kr29_1, kz, b1, b5, be0, x0, x1, v18, cl5, cl1]
      first | refine ⟨⟨?_, ?_, ?_, ?_, ?_, ?_, ?_, ?_, ?_, ?_, ?_, ?_⟩, rfl⟩ | refine ⟨?_, ?_, ?_, ?_, ?_, ?_, ?_, ?_, ?_, ?_, ?_, ?_⟩
      · (try simp only [K_pi])
        exact vk
      · (try simp only [Cn_pi_j18 hA, Cn_pi_j22 hA, Cn_pi_j30 hA])
        exact vcn
      · (try simp only [Vq0_pi_j18 hA, Vq0_pi_j22 hA, Vq0_pi_j30 hA])
        exact v0
      · (try simp only [Vq1_pi_j18 hA, Vq1_pi_j22 hA, Vq1_pi_j30 hA])
        exact v1
      · (try simp only [Vq2_pi_j18 hA, Vq2_pi_j22 hA, Vq2_pi_j30 hA])
        exact v2
      · (try simp only [Vp_pi_j18 hA, Vp_pi_j30 hA, Vp_thr hA])
        exact vp
      · (try simp only [Vl0_pi_j18 hA, Vl0_pi_j22 hA, Vl0_pi_j30 hA])
        exact vl0
      · (try simp only [Vl1_pi_j18 hA, Vl1_pi_j22 hA, Vl1_pi_j30 hA])
        exact vl1
      · (try simp only [Vlr_pi_j18 hA, Vlr_pi_j22 hA, Vlr_pi_j30 hA])
        exact vlr
      · (try simp only [Vsr_pi_j18 hA, Vsr_pi_j22 hA, Vsr_pi_j30 hA])
        exact vsr
      · refine Vc_of (c := 5) vc (by decide) (fun k => ?_) (fun k => ?_) <;> simp only [mi_pi, hAe, Nat.reduceLT, Nat.reduceEqDiff, false_and, true_and, if_false]
      · (try simp only [Tx_pi_j18 hA, Tx_pi_j22 hA, Tx_pi_j30 hA])
        exact tx
end

section
theorem hx_324_2 {l rest : List Value} {bc bs : Nat} {Q : MR → MH → Prop} {h : MH} : Kc Ok 324 3 6 l rest bc bs Q (.inr 2) h ↔ ∀ q : Nat, Ok 324 13 l [.ref q] h bc bs Q := Kc_x (by decide +kernel) (by decide +kernel)
theorem op_putNext {A : Nat → Nat} {h : MH} (R : Rl A h) {v : Int32} : Ok 324 0 [.ref (A 0), .int v, .ref (A 39), mk0] [] h 1 6 (fun r h1 => ∃ k : Int32, r = .inl (some (.int k)) ∧ g_c h1 (A 22) = 9 ∧ Ok 235 0 [.ref (A 22), .int v] [] h1 0 0 (fun r2 h2 => ∃ b : Int32, r2 = .inl (some (.int b)) ∧ Rl A h2 ∧ g_i h2 (A 22) 9 = k ∧ (k = 0 → g_l h2 (A 39) 0 = b.toInt64))) := by
  obtain ⟨vk, vcn, v0, v1, v2, vp, vl0, vl1, vlr, vsr, vc, tx⟩ := R
  have vk0 := vk
  have vcn0 := vcn
  (refine K_el vk0 ?_; intros hA kc0 kc1 kc2 kc3 kc4 kc5 kc6 kc7 kc8 kc9 kc10 kc11 kc12 kc13 kc14 kc15 kc16 kc17 kc18 kc19 kc20 kc21 kc22 kc23 kc24 kc25 kc26 kc27 kc28 kc29 kc30 kc31 kc32 kc33 kc34 kc35 kc36 kc37 kc38 kc39 kz kt kn3 kn4 kn18 kn21 kn23 kn24 kn25 kn26 kn27 kn29 kn30 kr0_0 kr0_1 kr0_2 kr0_3 kr0_4 kr0_5 kr0_7 kr0_8 kr0_9 kr0_10 kr1_0 kr2_0 kr5_0 kr5_1 kr6_0 kr6_1 kr7_0 kr7_1 kr8_0 kr9_0 kr10_0 kr11_0 kr12_0 kr13_0 kr14_0 kr15_0 kr16_0 kr17_0 kr19_0 kr19_1 kr22_0 kr22_1 kr22_2 kr22_3 kr22_4 kr22_5 kr22_7 kr22_8 kr25_0 kr25_1 kr25_2 kr26_0 kr26_1 kr26_2 kr29_0 kr29_1)
  (refine Cn_el vcn0 ?_; intros ki5_2 ki6_2 ki7_2 ki8_1 ki8_2 ki8_3 ki9_1 ki9_2 ki9_3 ki10_1 ki10_2 ki10_3 ki11_1 ki11_2 ki11_3 ki12_1 ki12_2 ki12_3 ki13_1 ki13_2 ki13_3 ki14_1 ki14_2 ki14_3 ki28_0 ki28_1 ki31_0 ki31_1 ki32_0 ki32_1 ki33_0 ki33_1 ki34_0 ki34_1 ki35_0 ki35_1 ki36_0 ki36_1)
  have hAe : ∀ i j, i < 40 → j < 40 → (A i = A j ↔ i = j) := hA
  have hl2 := vl1
  obtain ⟨⟨b1, b2, b3, b4, b5, b6⟩, ln⟩ := hl2
  replace b1 := b1.symm
  replace b2 := b2.symm
  replace b3 := b3.symm
  replace b4 := b4.symm
  replace b5 := b5.symm
  replace b6 := b6.symm
  rw [b1, b2, b3, b4, b5, b6] at ln
  by_cases bv : v < -32768 ∨ 32767 < v
  · have bv2 := sh_bad bv
    simp only [o324_0, o324_1, o324_2, o324_3, o324_13, o324_14, o324_15, o101_0, o101_1, o101_4, o101_5, o101_8, o101_11, o101_14, o101_15, o101_18, o101_19, o101_23, o101_24, o101_27, o235_0, o235_1, o235_2, o235_5, o235_8, o235_9, o235_12, o235_13, o235_16, o235_19, o235_20, o235_21, o235_22, o235_25, o235_26, o235_27, o235_30, o235_33, o235_34, o235_35, o235_39, o235_40, o235_43, o235_44, o235_45, hx_324_2, c_X8_isThrown__, c_X5_checkValue, c_X8_isShort, mc_pi, mc_pT, mn_pi, mn_pT, mi_pi, mi_pT, ml_pi, ml_pT, mr_pi, mr_pT, mz_pT, mcs_0, mcs_r, Kn_v, Kn_0, Kn_x, mrf_some, true_and, and_true, not_true_eq_false, not_false_eq_true, false_implies, forall_const, if_true, if_false, and_self, Nat.reduceEqDiff, Nat.reduceLeDiff, Nat.reduceSub, Nat.reduceAdd, Nat.zero_le, Nat.le_refl, i10, cl1, Sum.inl.injEq, Option.some.injEq, Value.int.injEq, exists_eq_left', Nat.reduceLT, hAe, kc0, kc16, kc17, kc22, kc29, kc38, kn29, kr0_8, kr0_9, kr22_7, kr29_1, kz, bv, bv2]
    intro t ht
    first | refine ⟨⟨?_, ?_, ?_, ?_, ?_, ?_, ?_, ?_, ?_, ?_, ?_, ?_⟩, rfl⟩ | refine ⟨?_, ?_, ?_, ?_, ?_, ?_, ?_, ?_, ?_, ?_, ?_, ?_⟩
    · (try simp only [K_pi])
      exact K_pT ht vk
    · (try simp only [Cn_pi_j22 hA, Cn_pT])
      exact vcn
    · (try simp only [Vq0_pi_j22 hA, Vq0_pT])
      exact v0
    · (try simp only [Vq1_pi_j22 hA, Vq1_pT])
      exact v1
    · (try simp only [Vq2_pi_j22 hA, Vq2_pT])
      exact v2
    · (try simp only [Vp_thr hA, Vp_pT])
      exact vp
    · (try simp only [Vl0_pi_j22 hA, Vl0_pT])
      exact vl0
    · (try simp only [Vl1_pi_j22 hA, Vl1_pT])
      exact vl1
    · (try simp only [Vlr_pi_j22 hA, Vlr_pT])
      exact vlr
    · (try simp only [Vsr_pi_j22 hA, Vsr_pT])
      exact vsr
    · (try simp only [Vc_pi_j22 hA, Vc_pT])
      exact vc
    · (try simp only [Tx_pi_j22 hA])
      exact Tx_pT ht tx
  · have v3 : ¬ v < -32768 := fun z => bv (Or.inl z)
    have v4 : ¬ 32767 < v := fun z => bv (Or.inr z)
    obtain ⟨v5, v6⟩ := sh_rng v3 v4
    have bv2 : (¬ v < -32768 ∧ v < 32768) = True := eq_true ⟨v3, v5⟩
    by_cases s0 : g_i h (A 16) 3 = 0
    · by_cases e0 : g_i h (A 16) 5 - g_i h (A 16) 4 = 0
      · skip
        simp only [o324_0, o324_1, o324_2, o324_3, o324_6, o324_7, o324_10, o324_13, o324_14, o324_15, o324_16, o324_17, o101_0, o101_1, o101_4, o101_5, o101_8, o101_11, o101_14, o101_15, o101_18, o101_19, o101_22, o101_23, o101_24, o101_27, o101_30, o101_33, o101_34, o101_37, o101_38, o101_41, o101_42, o101_43, o101_46, o101_47, o101_50, o101_51, o101_52, o235_0, o235_1, o235_2, o235_5, o235_8, o235_9, o235_12, o235_13, o235_16, o235_19, o235_20, o235_21, o235_22, o235_25, o235_26, o235_27, o235_30, o235_33, o235_34, o235_35, o235_38, o235_39, o235_40, o235_43, o235_44, o235_45, o235_48, o235_51, o235_52, o235_53, o235_56, o235_59, o235_60, o235_61, o235_62, o235_63, o235_66, o235_67, o235_68, o235_78, hx_324_2, c_X8_isThrown__, c_X5_checkValue, c_X8_isShort, c_ref_1 (cs := A 18), c_ref_4 (cs := A 18), c_X8_no (cs := A 30), c_X3_rests, c_X7_rests, mc_pi, mc_pl, mc_pT, mn_pi, mn_pl, mn_pT, mi_pi, mi_pl, mi_pT, ml_pi, ml_pl, ml_pT, mr_pi, mr_pl, mr_pT, mz_pi, mz_pl, mz_pT, mcs_0, mcs_r, Kn_v, Kn_0, Kn_x, mrf_some, true_and, and_true, and_false, or_false, not_true_eq_false, not_false_eq_true, false_implies, implies_true, forall_const, if_true, if_false, and_self, Nat.reduceEqDiff, Nat.reduceLeDiff, Nat.reduceSub, Nat.reduceAdd, Nat.zero_le, Nat.le_refl, i10, i01, Int32.reduceSub, cl1, cl4, Kc_v, Sum.inl.injEq, Option.some.injEq, Value.int.injEq, exists_eq_left', Nat.reduceLT, hAe, kc0, kc16, kc17, kc18, kc22, kc29, kc30, kc38, kc39, kn18, kn29, kn30, kr0_8, kr0_9, kr17_0, kr22_7, kr22_8, kr29_1, kz, b3, b4, b5, be0, v3, v4, v5, v18, cl1, cl4, s0, e0]
        first | refine ⟨⟨?_, ?_, ?_, ?_, ?_, ?_, ?_, ?_, ?_, ?_, ?_, ?_⟩, rfl⟩ | refine ⟨?_, ?_, ?_, ?_, ?_, ?_, ?_, ?_, ?_, ?_, ?_, ?_⟩
        · (try simp only [K_pi, K_pl])
          exact vk
        · (try simp only [Cn_pi_j18 hA, Cn_pi_j22 hA, Cn_pi_j30 hA, Cn_pl])
          exact vcn
        · (try simp only [Vq0_pi_j18 hA, Vq0_pi_j22 hA, Vq0_pi_j30 hA, Vq0_pl])
          exact v0
        · (try simp only [Vq1_pi_j18 hA, Vq1_pi_j22 hA, Vq1_pi_j30 hA, Vq1_pl])
          exact v1
        · (try simp only [Vq2_pi_j18 hA, Vq2_pi_j22 hA, Vq2_pi_j30 hA, Vq2_pl])
          exact v2
        · (try simp only [Vp_pi_j18 hA, Vp_pi_j30 hA, Vp_thr hA, Vp_pl])
          exact vp
        · (try simp only [Vl0_pi_j18 hA, Vl0_pi_j22 hA, Vl0_pi_j30 hA, Vl0_pl])
          exact vl0
        · (try simp only [Vl1_pi_j18 hA, Vl1_pi_j22 hA, Vl1_pi_j30 hA, Vl1_pl])
          exact vl1
        · (try simp only [Vlr_pi_j18 hA, Vlr_pi_j22 hA, Vlr_pi_j30 hA, Vlr_pl_j39 hA])
          exact vlr
        · (try simp only [Vsr_pi_j18 hA, Vsr_pi_j22 hA, Vsr_pi_j30 hA, Vsr_pl_j39 hA])
          exact vsr
        · refine Vc_of (c := 1) vc (by decide) (fun k => ?_) (fun k => ?_) <;> simp only [mi_pi, mi_pl, hAe, Nat.reduceLT, Nat.reduceEqDiff, false_and, true_and, if_false]
        · (try simp only [Tx_pi_j18 hA, Tx_pi_j22 hA, Tx_pi_j30 hA, Tx_pl])
          exact tx
      · obtain ⟨i1, i2, hj, hq9⟩ := lnN (R := 36) ln (by decide) (by decide) (by decide) e0
        have hj2 := hj.2.2
        have vsf := (vsr _ (rdy_lt hj)).1
        by_cases bq : g_i h (A 24) (g_i h (A 16) 1 + g_i h (A 16) 4).toNatClampNeg = v
        all_goals
          simp only [o324_0, o324_1, o324_2, o324_3, o324_6, o324_7, o324_10, o324_13, o324_14, o324_15, o324_16, o324_17, o101_0, o101_1, o101_4, o101_5, o101_8, o101_11, o101_14, o101_15, o101_18, o101_19, o101_23, o101_24, o101_27, o101_30, o101_33, o101_34, o101_37, o101_38, o101_42, o101_43, o101_46, o101_47, o101_50, o101_51, o101_52, o101_55, o101_58, o101_59, o101_62, o101_63, o101_66, o235_0, o235_1, o235_2, o235_5, o235_8, o235_9, o235_12, o235_13, o235_16, o235_19, o235_20, o235_21, o235_22, o235_25, o235_26, o235_27, o235_30, o235_33, o235_34, o235_35, o235_39, o235_40, o235_43, o235_44, o235_45, o235_48, o235_51, o235_52, o235_53, o235_59, o235_60, o235_61, o235_62, o235_63, o235_66, o235_67, o235_68, o235_71, o235_72, o235_75, o235_78, hx_324_2, c_X8_isThrown__, c_X5_checkValue, c_X8_isShort, c_X3_rests, c_X7_rests, c_X3_writeNext (rw := A 2) (cs := A 4) (n := 36), c_X8_next, c_X8_writeShort (sr := A 24), c_X0_done (cs := A 18), c_X8_done (cs := A 30), mc_pi, mc_pl, mc_pT, mn_pi, mn_pl, mn_pT, mi_pi, mi_pl, mi_pT, ml_pi, ml_pl, ml_pT, mr_pi, mr_pl, mr_pT, mz_pi, mz_pl, mz_pT, mcs_0, mcs_r, Kn_v, Kn_0, Kn_x, mrf_some, true_and, and_true, false_and, and_false, or_false, not_true_eq_false, not_false_eq_true, false_implies, implies_true, forall_const, if_true, if_false, and_self, Nat.reduceEqDiff, Nat.reduceLeDiff, Nat.reduceSub, Nat.reduceAdd, Nat.zero_le, Nat.le_refl, i10, i01, cl1, Kc_v, Sum.inl.injEq, Option.some.injEq, Value.int.injEq, exists_eq_left', Nat.reduceLT, hAe, kc0, kc2, kc4, kc16, kc17, kc18, kc22, kc24, kc29, kc30, kc38, kc39, kn4, kn18, kn24, kn29, kn30, kr0_8, kr0_9, kr2_0, kr16_0, kr17_0, kr22_1, kr22_7, kr22_8, kr29_1, kz, b1, b3, b4, b5, lnxt, be0, v3, v4, v5, cl1, s0, e0, i1, i2, hj, hj2, vsf, i64_inj, bq]
          first | refine ⟨⟨?_, ?_, ?_, ?_, ?_, ?_, ?_, ?_, ?_, ?_, ?_, ?_⟩, rfl⟩ | refine ⟨?_, ?_, ?_, ?_, ?_, ?_, ?_, ?_, ?_, ?_, ?_, ?_⟩
          · (try simp only [K_pi, K_pl])
            exact vk
          · (try simp only [Cn_pi_j18 hA, Cn_pi_j22 hA, Cn_pi_j30 hA, Cn_pi_j16 hA, Cn_pi_j38 hA, Cn_pi_j24 hA, Cn_pl])
            exact vcn
          · (try simp only [Vq0_pi_j18 hA, Vq0_pi_j22 hA, Vq0_pi_j30 hA, Vq0_pi_j16 hA, Vq0_pi_j38 hA, Vq0_pi_j24 hA, Vq0_pl])
            exact v0
          · (try simp only [Vq1_pi_j18 hA, Vq1_pi_j22 hA, Vq1_pi_j30 hA, Vq1_pi_j16 hA, Vq1_pi_j38 hA, Vq1_pi_j24 hA, Vq1_pl])
            exact v1
          · (try simp only [Vq2_pi_j18 hA, Vq2_pi_j22 hA, Vq2_pi_j30 hA, Vq2_pi_j16 hA, Vq2_pi_j38 hA, Vq2_pi_j24 hA, Vq2_pl])
            exact v2
          · (try simp only [Vp_pi_j18 hA, Vp_pi_j30 hA, Vp_pi_j16 hA, Vp_pi_j38 hA, Vp_pi_j24 hA, Vp_thr hA, Vp_pl])
            exact vp
          · (try simp only [Vl0_pi_j18 hA, Vl0_pi_j22 hA, Vl0_pi_j30 hA, Vl0_pi_j16 hA, Vl0_pi_j38 hA, Vl0_pi_j24 hA, Vl0_pl])
            exact vl0
          · simp only [Vl1, mi_pi, mi_pl, hAe, Nat.reduceLT, Nat.reduceEqDiff, false_and, and_false, true_and, and_true, if_false, if_true, b1, b2, b3, b4, b5, b6, true_and, and_self]
            first | exact hq9 | exact ⟨⟨rfl, rfl, rfl, rfl, rfl, rfl⟩, hq9⟩ | (refine ⟨⟨?_, ?_, ?_, ?_, ?_, ?_⟩, hq9⟩ <;> first | rfl | trivial)
          · (try simp only [Vlr_pi_j18 hA, Vlr_pi_j22 hA, Vlr_pi_j30 hA, Vlr_pi_j16 hA, Vlr_pi_j38 hA, Vlr_pi_j24 hA, Vlr_pl_j39 hA, Vlr_pl_j4 hA])
            exact vlr
          · refine Vsr_1 (i0 := (g_i h (A 16) 1 + g_i h (A 16) 4).toNatClampNeg) vsr v6 (fun k => ?_) (fun k => ?_) <;> simp only [mi_pi, mi_pl, ml_pi, ml_pl, hAe, Nat.reduceLT, Nat.reduceEqDiff, false_and, true_and, if_false]
          · refine Vc_of (c := 0) vc (by decide) (fun k => ?_) (fun k => ?_) <;> simp only [mi_pi, mi_pl, hAe, Nat.reduceLT, Nat.reduceEqDiff, false_and, true_and, if_false]
          · (try simp only [Tx_pi_j18 hA, Tx_pi_j22 hA, Tx_pi_j30 hA, Tx_pi_j16 hA, Tx_pi_j38 hA, Tx_pi_j24 hA, Tx_pl])
            exact tx
    · skip
      simp only [o324_0, o324_1, o324_2, o324_3, o324_6, o324_7, o324_10, o324_13, o324_14, o324_15, o324_16, o324_17, o101_0, o101_1, o101_4, o101_5, o101_8, o101_11, o101_14, o101_15, o101_18, o101_19, o101_22, o101_23, o101_24, o101_27, o101_30, o101_33, o101_34, o101_37, o101_38, o101_41, o101_42, o101_43, o101_46, o101_47, o101_50, o101_51, o101_52, o235_0, o235_1, o235_2, o235_5, o235_8, o235_9, o235_12, o235_13, o235_16, o235_19, o235_20, o235_21, o235_22, o235_25, o235_26, o235_27, o235_30, o235_33, o235_34, o235_35, o235_38, o235_39, o235_40, o235_43, o235_44, o235_45, o235_48, o235_51, o235_52, o235_53, o235_56, o235_59, o235_60, o235_61, o235_62, o235_63, o235_66, o235_67, o235_68, o235_78, hx_324_2, c_X8_isThrown__, c_X5_checkValue, c_X8_isShort, c_ref_1 (cs := A 18), c_ref_4 (cs := A 18), c_X8_no (cs := A 30), c_X3_rests, c_X7_rests, mc_pi, mc_pl, mc_pT, mn_pi, mn_pl, mn_pT, mi_pi, mi_pl, mi_pT, ml_pi, ml_pl, ml_pT, mr_pi, mr_pl, mr_pT, mz_pi, mz_pl, mz_pT, mcs_0, mcs_r, Kn_v, Kn_0, Kn_x, mrf_some, true_and, and_true, and_false, or_false, not_true_eq_false, not_false_eq_true, false_implies, implies_true, forall_const, if_true, if_false, and_self, Nat.reduceEqDiff, Nat.reduceLeDiff, Nat.reduceSub, Nat.reduceAdd, Nat.zero_le, Nat.le_refl, i10, i01, Int32.reduceSub, cl1, cl4, Kc_v, Sum.inl.injEq, Option.some.injEq, Value.int.injEq, exists_eq_left', Nat.reduceLT, hAe, kc0, kc16, kc17, kc18, kc22, kc29, kc30, kc38, kc39, kn18, kn29, kn30, kr0_8, kr0_9, kr17_0, kr22_7, kr22_8, kr29_1, kz, b3, b4, b5, be0, v3, v4, v5, v18, cl1, cl4, s0]
      first | refine ⟨⟨?_, ?_, ?_, ?_, ?_, ?_, ?_, ?_, ?_, ?_, ?_, ?_⟩, rfl⟩ | refine ⟨?_, ?_, ?_, ?_, ?_, ?_, ?_, ?_, ?_, ?_, ?_, ?_⟩
      · (try simp only [K_pi, K_pl])
        exact vk
      · (try simp only [Cn_pi_j18 hA, Cn_pi_j22 hA, Cn_pi_j30 hA, Cn_pl])
        exact vcn
      · (try simp only [Vq0_pi_j18 hA, Vq0_pi_j22 hA, Vq0_pi_j30 hA, Vq0_pl])
        exact v0
      · (try simp only [Vq1_pi_j18 hA, Vq1_pi_j22 hA, Vq1_pi_j30 hA, Vq1_pl])
        exact v1
      · (try simp only [Vq2_pi_j18 hA, Vq2_pi_j22 hA, Vq2_pi_j30 hA, Vq2_pl])
        exact v2
      · (try simp only [Vp_pi_j18 hA, Vp_pi_j30 hA, Vp_thr hA, Vp_pl])
        exact vp
      · (try simp only [Vl0_pi_j18 hA, Vl0_pi_j22 hA, Vl0_pi_j30 hA, Vl0_pl])
        exact vl0
      · (try simp only [Vl1_pi_j18 hA, Vl1_pi_j22 hA, Vl1_pi_j30 hA, Vl1_pl])
        exact vl1
      · (try simp only [Vlr_pi_j18 hA, Vlr_pi_j22 hA, Vlr_pi_j30 hA, Vlr_pl_j39 hA])
        exact vlr
      · (try simp only [Vsr_pi_j18 hA, Vsr_pi_j22 hA, Vsr_pi_j30 hA, Vsr_pl_j39 hA])
        exact vsr
      · refine Vc_of (c := 4) vc (by decide) (fun k => ?_) (fun k => ?_) <;> simp only [mi_pi, mi_pl, hAe, Nat.reduceLT, Nat.reduceEqDiff, false_and, true_and, if_false]
      · (try simp only [Tx_pi_j18 hA, Tx_pi_j22 hA, Tx_pi_j30 hA, Tx_pl])
        exact tx

theorem hx_325_2 {l rest : List Value} {bc bs : Nat} {Q : MR → MH → Prop} {h : MH} : Kc Ok 325 4 7 l rest bc bs Q (.inr 2) h ↔ ∀ q : Nat, Ok 325 14 l [.ref q] h bc bs Q := Kc_x (by decide +kernel) (by decide +kernel)
theorem op_putAt {A : Nat → Nat} {h : MH} (R : Rl A h) {e v : Int32} : Ok 325 0 [.ref (A 0), .int e, .int v, .ref (A 39), mk0] [] h 1 6 (fun r h1 => ∃ k : Int32, r = .inl (some (.int k)) ∧ g_c h1 (A 22) = 9 ∧ Ok 236 0 [.ref (A 22), .int e, .int v] [] h1 0 0 (fun r2 h2 => ∃ b : Int32, r2 = .inl (some (.int b)) ∧ Rl A h2 ∧ g_i h2 (A 22) 9 = k ∧ (k = 0 → g_l h2 (A 39) 0 = b.toInt64))) := by
  obtain ⟨vk, vcn, v0, v1, v2, vp, vl0, vl1, vlr, vsr, vc, tx⟩ := R
  have vk0 := vk
  have vcn0 := vcn
  (refine K_el vk0 ?_; intros hA kc0 kc1 kc2 kc3 kc4 kc5 kc6 kc7 kc8 kc9 kc10 kc11 kc12 kc13 kc14 kc15 kc16 kc17 kc18 kc19 kc20 kc21 kc22 kc23 kc24 kc25 kc26 kc27 kc28 kc29 kc30 kc31 kc32 kc33 kc34 kc35 kc36 kc37 kc38 kc39 kz kt kn3 kn4 kn18 kn21 kn23 kn24 kn25 kn26 kn27 kn29 kn30 kr0_0 kr0_1 kr0_2 kr0_3 kr0_4 kr0_5 kr0_7 kr0_8 kr0_9 kr0_10 kr1_0 kr2_0 kr5_0 kr5_1 kr6_0 kr6_1 kr7_0 kr7_1 kr8_0 kr9_0 kr10_0 kr11_0 kr12_0 kr13_0 kr14_0 kr15_0 kr16_0 kr17_0 kr19_0 kr19_1 kr22_0 kr22_1 kr22_2 kr22_3 kr22_4 kr22_5 kr22_7 kr22_8 kr25_0 kr25_1 kr25_2 kr26_0 kr26_1 kr26_2 kr29_0 kr29_1)
  (refine Cn_el vcn0 ?_; intros ki5_2 ki6_2 ki7_2 ki8_1 ki8_2 ki8_3 ki9_1 ki9_2 ki9_3 ki10_1 ki10_2 ki10_3 ki11_1 ki11_2 ki11_3 ki12_1 ki12_2 ki12_3 ki13_1 ki13_2 ki13_3 ki14_1 ki14_2 ki14_3 ki28_0 ki28_1 ki31_0 ki31_1 ki32_0 ki32_1 ki33_0 ki33_1 ki34_0 ki34_1 ki35_0 ki35_1 ki36_0 ki36_1)
  have hAe : ∀ i j, i < 40 → j < 40 → (A i = A j ↔ i = j) := hA
  have hl2 := vl1
  obtain ⟨⟨b1, b2, b3, b4, b5, b6⟩, ln⟩ := hl2
  replace b1 := b1.symm
  replace b2 := b2.symm
  replace b3 := b3.symm
  replace b4 := b4.symm
  replace b5 := b5.symm
  replace b6 := b6.symm
  rw [b1, b2, b3, b4, b5, b6] at ln
  by_cases bv : v < -32768 ∨ 32767 < v
  · have bv2 := sh_bad bv
    simp only [o325_0, o325_1, o325_2, o325_3, o325_4, o325_14, o325_16, o325_17, o102_0, o102_1, o102_4, o102_5, o102_8, o102_9, o102_10, o102_13, o102_16, o102_19, o102_20, o102_23, o102_24, o102_28, o102_29, o102_32, o102_35, o102_38, o102_39, o102_42, o102_43, o102_47, o102_48, o102_51, o102_52, o102_55, o102_56, o102_57, o102_58, o236_0, o236_1, o236_2, o236_5, o236_8, o236_9, o236_12, o236_13, o236_16, o236_19, o236_20, o236_21, o236_22, o236_25, o236_26, o236_27, o236_28, o236_31, o236_34, o236_35, o236_36, o236_40, o236_41, o236_44, o236_45, o236_46, o236_49, o236_52, o236_53, o236_54, o236_60, o236_61, o236_62, o236_63, o236_66, o236_67, o236_68, o236_71, o236_72, o236_73, o236_74, hx_325_2, c_X8_isThrown__, c_X5_checkValue, c_X8_isShort, c_X8_isBeyond, mc_pi, mc_pT, mn_pi, mn_pT, mi_pi, mi_pT, ml_pi, ml_pT, mr_pi, mr_pT, mz_pT, mcs_0, mcs_r, Kn_v, Kn_0, Kn_x, mrf_some, true_and, and_true, not_true_eq_false, not_false_eq_true, false_implies, forall_const, if_true, if_false, and_self, Nat.reduceEqDiff, Nat.reduceLeDiff, Nat.reduceSub, Nat.reduceAdd, Nat.zero_le, Nat.le_refl, i10, cl1, Sum.inl.injEq, Option.some.injEq, Value.int.injEq, exists_eq_left', Nat.reduceLT, hAe, kc0, kc16, kc17, kc22, kc29, kc38, kn29, kr0_8, kr0_9, kr22_7, kr29_1, kz, bv, bv2]
    intro t ht
    first | refine ⟨⟨?_, ?_, ?_, ?_, ?_, ?_, ?_, ?_, ?_, ?_, ?_, ?_⟩, rfl⟩ | refine ⟨?_, ?_, ?_, ?_, ?_, ?_, ?_, ?_, ?_, ?_, ?_, ?_⟩
    · (try simp only [K_pi])
      exact K_pT ht vk
    · (try simp only [Cn_pi_j22 hA, Cn_pT])
      exact vcn
    · (try simp only [Vq0_pi_j22 hA, Vq0_pT])
      exact v0
    · (try simp only [Vq1_pi_j22 hA, Vq1_pT])
      exact v1
    · (try simp only [Vq2_pi_j22 hA, Vq2_pT])
      exact v2
    · (try simp only [Vp_thr hA, Vp_pT])
      exact vp
    · (try simp only [Vl0_pi_j22 hA, Vl0_pT])
      exact vl0
    · (try simp only [Vl1_pi_j22 hA, Vl1_pT])
      exact vl1
    · (try simp only [Vlr_pi_j22 hA, Vlr_pT])
      exact vlr
    · (try simp only [Vsr_pi_j22 hA, Vsr_pT])
      exact vsr
    · (try simp only [Vc_pi_j22 hA, Vc_pT])
      exact vc
    · (try simp only [Tx_pi_j22 hA])
      exact Tx_pT ht tx
  · have v3 : ¬ v < -32768 := fun z => bv (Or.inl z)
    have v4 : ¬ 32767 < v := fun z => bv (Or.inr z)
    obtain ⟨v5, v6⟩ := sh_rng v3 v4
    have bv2 : (¬ v < -32768 ∧ v < 32768) = True := eq_true ⟨v3, v5⟩
    by_cases x0 : e < 0
    · skip
      simp only [o325_0, o325_1, o325_2, o325_3, o325_4, o325_7, o325_8, o325_11, o325_14, o325_16, o325_17, o325_18, o325_19, o102_0, o102_1, o102_4, o102_5, o102_8, o102_9, o102_10, o102_13, o102_16, o102_19, o102_20, o102_23, o102_24, o102_27, o102_28, o102_29, o102_32, o102_35, o102_38, o102_39, o102_42, o102_43, o102_46, o102_47, o102_48, o102_51, o102_52, o102_55, o102_56, o102_57, o102_58, o236_0, o236_1, o236_2, o236_5, o236_8, o236_9, o236_12, o236_13, o236_16, o236_19, o236_20, o236_21, o236_22, o236_25, o236_26, o236_27, o236_28, o236_31, o236_34, o236_35, o236_36, o236_39, o236_40, o236_41, o236_44, o236_45, o236_46, o236_49, o236_52, o236_53, o236_54, o236_57, o236_60, o236_61, o236_62, o236_63, o236_66, o236_67, o236_68, o236_71, o236_72, o236_73, o236_74, o236_80, hx_325_2, c_X8_isThrown__, c_X5_checkValue, c_X8_isShort, c_X8_isBeyond, c_ref_4 (cs := A 18), c_ref_5 (cs := A 18), c_X8_no (cs := A 30), mc_pi, mc_pl, mc_pT, mn_pi, mn_pl, mn_pT, mi_pi, mi_pl, mi_pT, ml_pi, ml_pl, ml_pT, mr_pi, mr_pl, mr_pT, mz_pi, mz_pl, mz_pT, mcs_0, mcs_r, Kn_v, Kn_0, Kn_x, mrf_some, true_and, and_true, and_false, true_or, or_false, not_true_eq_false, not_false_eq_true, false_implies, implies_true, forall_const, if_true, if_false, and_self, Nat.reduceEqDiff, Nat.reduceLeDiff, Nat.reduceSub, Nat.reduceAdd, Nat.zero_le, Nat.le_refl, i10, i01, Int32.reduceSub, cl1, cl4, cl5, Kc_v, Sum.inl.injEq, Option.some.injEq, Value.int.injEq, exists_eq_left', Nat.reduceLT, hAe, kc0, kc16, kc17, kc18, kc22, kc29, kc30, kc38, kc39, kn18, kn29, kn30, kr0_8, kr0_9, kr17_0, kr22_7, kr22_8, kr29_1, kz, b1, b3, b5, be0, v3, v4, v5, v18, cl1, cl4, cl5, x0]
      first | refine ⟨⟨?_, ?_, ?_, ?_, ?_, ?_, ?_, ?_, ?_, ?_, ?_, ?_⟩, rfl⟩ | refine ⟨?_, ?_, ?_, ?_, ?_, ?_, ?_, ?_, ?_, ?_, ?_, ?_⟩
      · (try simp only [K_pi, K_pl])
        exact vk
      · (try simp only [Cn_pi_j18 hA, Cn_pi_j22 hA, Cn_pi_j30 hA, Cn_pl])
        exact vcn
      · (try simp only [Vq0_pi_j18 hA, Vq0_pi_j22 hA, Vq0_pi_j30 hA, Vq0_pl])
        exact v0
      · (try simp only [Vq1_pi_j18 hA, Vq1_pi_j22 hA, Vq1_pi_j30 hA, Vq1_pl])
        exact v1
      · (try simp only [Vq2_pi_j18 hA, Vq2_pi_j22 hA, Vq2_pi_j30 hA, Vq2_pl])
        exact v2
      · (try simp only [Vp_pi_j18 hA, Vp_pi_j30 hA, Vp_thr hA, Vp_pl])
        exact vp
      · (try simp only [Vl0_pi_j18 hA, Vl0_pi_j22 hA, Vl0_pi_j30 hA, Vl0_pl])
        exact vl0
      · (try simp only [Vl1_pi_j18 hA, Vl1_pi_j22 hA, Vl1_pi_j30 hA, Vl1_pl])
        exact vl1
      · (try simp only [Vlr_pi_j18 hA, Vlr_pi_j22 hA, Vlr_pi_j30 hA, Vlr_pl_j39 hA])
        exact vlr
      · (try simp only [Vsr_pi_j18 hA, Vsr_pi_j22 hA, Vsr_pi_j30 hA, Vsr_pl_j39 hA])
        exact vsr
      · refine Vc_of (c := 5) vc (by decide) (fun k => ?_) (fun k => ?_) <;> simp only [mi_pi, mi_pl, hAe, Nat.reduceLT, Nat.reduceEqDiff, false_and, true_and, if_false]
      · (try simp only [Tx_pi_j18 hA, Tx_pi_j22 hA, Tx_pi_j30 hA, Tx_pl])
        exact tx
    · by_cases x1 : e < g_i h (A 16) 5
      · by_cases s0 : g_i h (A 16) 3 = 0
        · obtain ⟨i2, hj⟩ := lnA (R := 36) ln (by decide) (by decide) (by decide) x0 x1
          have hj2 := hj.2.2
          have vsf := (vsr _ (rdy_lt hj)).1
          by_cases bq : g_i h (A 24) (g_i h (A 16) 1 + e).toNatClampNeg = v
          all_goals
            simp only [o325_0, o325_1, o325_2, o325_3, o325_4, o325_7, o325_8, o325_11, o325_14, o325_16, o325_17, o325_18, o325_19, o102_0, o102_1, o102_4, o102_5, o102_8, o102_9, o102_10, o102_13, o102_16, o102_19, o102_20, o102_23, o102_24, o102_28, o102_29, o102_32, o102_35, o102_38, o102_39, o102_42, o102_43, o102_47, o102_48, o102_51, o102_52, o102_55, o102_56, o102_57, o102_58, o102_61, o102_64, o102_65, o102_68, o102_69, o102_72, o236_0, o236_1, o236_2, o236_5, o236_8, o236_9, o236_12, o236_13, o236_16, o236_19, o236_20, o236_21, o236_22, o236_25, o236_26, o236_27, o236_28, o236_31, o236_34, o236_35, o236_36, o236_40, o236_41, o236_44, o236_45, o236_46, o236_49, o236_52, o236_53, o236_54, o236_60, o236_61, o236_62, o236_63, o236_66, o236_67, o236_68, o236_71, o236_72, o236_73, o236_74, o236_77, o236_80, hx_325_2, c_X8_isThrown__, c_X5_checkValue, c_X8_isShort, c_X8_isBeyond, c_X3_writeAt (rw := A 2) (cs := A 4) (n := 36), c_X8_writeShort (sr := A 24), c_X0_done (cs := A 18), c_X8_done (cs := A 30), mc_pi, mc_pl, mc_pT, mn_pi, mn_pl, mn_pT, mi_pi, mi_pl, mi_pT, ml_pi, ml_pl, ml_pT, mr_pi, mr_pl, mr_pT, mz_pi, mz_pl, mz_pT, mcs_0, mcs_r, Kn_v, Kn_0, Kn_x, mrf_some, true_and, and_true, false_and, and_false, or_false, not_true_eq_false, not_false_eq_true, false_implies, implies_true, forall_const, if_true, if_false, and_self, Nat.reduceEqDiff, Nat.reduceLeDiff, Nat.reduceSub, Nat.reduceAdd, Nat.zero_le, Nat.le_refl, i10, i01, cl1, Kc_v, Sum.inl.injEq, Option.some.injEq, Value.int.injEq, exists_eq_left', Nat.reduceLT, hAe, kc0, kc2, kc4, kc16, kc17, kc18, kc22, kc24, kc29, kc30, kc38, kc39, kn4, kn18, kn24, kn29, kn30, kr0_8, kr0_9, kr2_0, kr16_0, kr17_0, kr22_1, kr22_7, kr22_8, kr29_1, kz, b1, b3, b5, be0, v3, v4, v5, cl1, s0, x0, x1, i2, hj, hj2, vsf, i64_inj, bq]
            first | refine ⟨⟨?_, ?_, ?_, ?_, ?_, ?_, ?_, ?_, ?_, ?_, ?_, ?_⟩, rfl⟩ | refine ⟨?_, ?_, ?_, ?_, ?_, ?_, ?_, ?_, ?_, ?_, ?_, ?_⟩
            · (try simp only [K_pi, K_pl])
              exact vk
            · (try simp only [Cn_pi_j18 hA, Cn_pi_j22 hA, Cn_pi_j30 hA, Cn_pi_j24 hA, Cn_pl])
              exact vcn
            · (try simp only [Vq0_pi_j18 hA, Vq0_pi_j22 hA, Vq0_pi_j30 hA, Vq0_pi_j24 hA, Vq0_pl])
              exact v0
            · (try simp only [Vq1_pi_j18 hA, Vq1_pi_j22 hA, Vq1_pi_j30 hA, Vq1_pi_j24 hA, Vq1_pl])
              exact v1
            · (try simp only [Vq2_pi_j18 hA, Vq2_pi_j22 hA, Vq2_pi_j30 hA, Vq2_pi_j24 hA, Vq2_pl])
              exact v2
            · (try simp only [Vp_pi_j18 hA, Vp_pi_j30 hA, Vp_pi_j24 hA, Vp_thr hA, Vp_pl])
              exact vp
            · (try simp only [Vl0_pi_j18 hA, Vl0_pi_j22 hA, Vl0_pi_j30 hA, Vl0_pi_j24 hA, Vl0_pl])
              exact vl0
            · (try simp only [Vl1_pi_j18 hA, Vl1_pi_j22 hA, Vl1_pi_j30 hA, Vl1_pi_j24 hA, Vl1_pl])
              exact vl1
            · (try simp only [Vlr_pi_j18 hA, Vlr_pi_j22 hA, Vlr_pi_j30 hA, Vlr_pi_j24 hA, Vlr_pl_j39 hA, Vlr_pl_j4 hA])
              exact vlr
            · refine Vsr_1 (i0 := (g_i h (A 16) 1 + e).toNatClampNeg) vsr v6 (fun k => ?_) (fun k => ?_) <;> simp only [mi_pi, mi_pl, ml_pi, ml_pl, hAe, Nat.reduceLT, Nat.reduceEqDiff, false_and, true_and, if_false]
            · refine Vc_of (c := 0) vc (by decide) (fun k => ?_) (fun k => ?_) <;> simp only [mi_pi, mi_pl, hAe, Nat.reduceLT, Nat.reduceEqDiff, false_and, true_and, if_false]
            · (try simp only [Tx_pi_j18 hA, Tx_pi_j22 hA, Tx_pi_j30 hA, Tx_pi_j24 hA, Tx_pl])
              exact tx
        · skip
          simp only [o325_0, o325_1, o325_2, o325_3, o325_4, o325_7, o325_8, o325_11, o325_14, o325_16, o325_17, o325_18, o325_19, o102_0, o102_1, o102_4, o102_5, o102_8, o102_9, o102_10, o102_13, o102_16, o102_19, o102_20, o102_23, o102_24, o102_27, o102_28, o102_29, o102_32, o102_35, o102_38, o102_39, o102_42, o102_43, o102_46, o102_47, o102_48, o102_51, o102_52, o102_55, o102_56, o102_57, o102_58, o236_0, o236_1, o236_2, o236_5, o236_8, o236_9, o236_12, o236_13, o236_16, o236_19, o236_20, o236_21, o236_22, o236_25, o236_26, o236_27, o236_28, o236_31, o236_34, o236_35, o236_36, o236_39, o236_40, o236_41, o236_44, o236_45, o236_46, o236_49, o236_52, o236_53, o236_54, o236_57, o236_60, o236_61, o236_62, o236_63, o236_66, o236_67, o236_68, o236_71, o236_72, o236_73, o236_74, o236_80, hx_325_2, c_X8_isThrown__, c_X5_checkValue, c_X8_isShort, c_X8_isBeyond, c_ref_4 (cs := A 18), c_ref_5 (cs := A 18), c_X8_no (cs := A 30), mc_pi, mc_pl, mc_pT, mn_pi, mn_pl, mn_pT, mi_pi, mi_pl, mi_pT, ml_pi, ml_pl, ml_pT, mr_pi, mr_pl, mr_pT, mz_pi, mz_pl, mz_pT, mcs_0, mcs_r, Kn_v, Kn_0, Kn_x, mrf_some, true_and, and_true, and_false, or_false, not_true_eq_false, not_false_eq_true, false_implies, implies_true, forall_const, if_true, if_false, and_self, Nat.reduceEqDiff, Nat.reduceLeDiff, Nat.reduceSub, Nat.reduceAdd, Nat.zero_le, Nat.le_refl, i10, i01, Int32.reduceSub, cl1, cl4, cl5, Kc_v, Sum.inl.injEq, Option.some.injEq, Value.int.injEq, exists_eq_left', Nat.reduceLT, hAe, kc0, kc16, kc17, kc18, kc22, kc29, kc30, kc38, kc39, kn18, kn29, kn30, kr0_8, kr0_9, kr17_0, kr22_7, kr22_8, kr29_1, kz, b1, b3, b5, be0, v3, v4, v5, v18, cl1, cl4, cl5, s0, x0, x1]
          first | refine ⟨⟨?_, ?_, ?_, ?_, ?_, ?_, ?_, ?_, ?_, ?_, ?_, ?_⟩, rfl⟩ | refine ⟨?_, ?_, ?_, ?_, ?_, ?_, ?_, ?_, ?_, ?_, ?_, ?_⟩
          · (try simp only [K_pi, K_pl])
            exact vk
          · (try simp only [Cn_pi_j18 hA, Cn_pi_j22 hA, Cn_pi_j30 hA, Cn_pl])
            exact vcn
          · (try simp only [Vq0_pi_j18 hA, Vq0_pi_j22 hA, Vq0_pi_j30 hA, Vq0_pl])
            exact v0
          · (try simp only [Vq1_pi_j18 hA, Vq1_pi_j22 hA, Vq1_pi_j30 hA, Vq1_pl])
            exact v1
          · (try simp only [Vq2_pi_j18 hA, Vq2_pi_j22 hA, Vq2_pi_j30 hA, Vq2_pl])
            exact v2
          · (try simp only [Vp_pi_j18 hA, Vp_pi_j30 hA, Vp_thr hA, Vp_pl])
            exact vp
          · (try simp only [Vl0_pi_j18 hA, Vl0_pi_j22 hA, Vl0_pi_j30 hA, Vl0_pl])
            exact vl0
          · (try simp only [Vl1_pi_j18 hA, Vl1_pi_j22 hA, Vl1_pi_j30 hA, Vl1_pl])
            exact vl1
          · (try simp only [Vlr_pi_j18 hA, Vlr_pi_j22 hA, Vlr_pi_j30 hA, Vlr_pl_j39 hA])
            exact vlr
          · (try simp only [Vsr_pi_j18 hA, Vsr_pi_j22 hA, Vsr_pi_j30 hA, Vsr_pl_j39 hA])
            exact vsr
          · refine Vc_of (c := 4) vc (by decide) (fun k => ?_) (fun k => ?_) <;> simp only [mi_pi, mi_pl, hAe, Nat.reduceLT, Nat.reduceEqDiff, false_and, true_and, if_false]
          · (try simp only [Tx_pi_j18 hA, Tx_pi_j22 hA, Tx_pi_j30 hA, Tx_pl])
            exact tx
      · skip
        simp only [o325_0, o325_1, o325_2, o325_3, o325_4, o325_7, o325_8, o325_11, o325_14, o325_16, o325_17, o325_18, o325_19, o102_0, o102_1, o102_4, o102_5, o102_8, o102_9, o102_10, o102_13, o102_16, o102_19, o102_20, o102_23, o102_24, o102_27, o102_28, o102_29, o102_32, o102_35, o102_38, o102_39, o102_42, o102_43, o102_46, o102_47, o102_48, o102_51, o102_52, o102_55, o102_56, o102_57, o102_58, o236_0, o236_1, o236_2, o236_5, o236_8, o236_9, o236_12, o236_13, o236_16, o236_19, o236_20, o236_21, o236_22, o236_25, o236_26, o236_27, o236_28, o236_31, o236_34, o236_35, o236_36, o236_39, o236_40, o236_41, o236_44, o236_45, o236_46, o236_49, o236_52, o236_53, o236_54, o236_57, o236_60, o236_61, o236_62, o236_63, o236_66, o236_67, o236_68, o236_71, o236_72, o236_73, o236_74, o236_80, hx_325_2, c_X8_isThrown__, c_X5_checkValue, c_X8_isShort, c_X8_isBeyond, c_ref_4 (cs := A 18), c_ref_5 (cs := A 18), c_X8_no (cs := A 30), mc_pi, mc_pl, mc_pT, mn_pi, mn_pl, mn_pT, mi_pi, mi_pl, mi_pT, ml_pi, ml_pl, ml_pT, mr_pi, mr_pl, mr_pT, mz_pi, mz_pl, mz_pT, mcs_0, mcs_r, Kn_v, Kn_0, Kn_x, mrf_some, true_and, and_true, and_false, or_true, or_false, not_true_eq_false, not_false_eq_true, false_implies, implies_true, forall_const, if_true, if_false, and_self, Nat.reduceEqDiff, Nat.reduceLeDiff, Nat.reduceSub, Nat.reduceAdd, Nat.zero_le, Nat.le_refl, i10, i01, Int32.reduceSub, cl1, cl4, cl5, Kc_v, Sum.inl.injEq, Option.some.injEq, Value.int.injEq, exists_eq_left', Nat.reduceLT, hAe, kc0, kc16, kc17, kc18, kc22, kc29, kc30, kc38, kc39, kn18, kn29, kn30, kr0_8, kr0_9, kr17_0, kr22_7, kr22_8, kr29_1, kz, b1, b3, b5, be0, v3, v4, v5, v18, cl1, cl4, cl5, x0, x1]
        first | refine ⟨⟨?_, ?_, ?_, ?_, ?_, ?_, ?_, ?_, ?_, ?_, ?_, ?_⟩, rfl⟩ | refine ⟨?_, ?_, ?_, ?_, ?_, ?_, ?_, ?_, ?_, ?_, ?_, ?_⟩
        · (try simp only [K_pi, K_pl])
          exact vk
        · (try simp only [Cn_pi_j18 hA, Cn_pi_j22 hA, Cn_pi_j30 hA, Cn_pl])
          exact vcn
        · (try simp only [Vq0_pi_j18 hA, Vq0_pi_j22 hA, Vq0_pi_j30 hA, Vq0_pl])
          exact v0
        · (try simp only [Vq1_pi_j18 hA, Vq1_pi_j22 hA, Vq1_pi_j30 hA, Vq1_pl])
          exact v1
        · (try simp only [Vq2_pi_j18 hA, Vq2_pi_j22 hA, Vq2_pi_j30 hA, Vq2_pl])
          exact v2
        · (try simp only [Vp_pi_j18 hA, Vp_pi_j30 hA, Vp_thr hA, Vp_pl])
          exact vp
        · (try simp only [Vl0_pi_j18 hA, Vl0_pi_j22 hA, Vl0_pi_j30 hA, Vl0_pl])
          exact vl0
        · (try simp only [Vl1_pi_j18 hA, Vl1_pi_j22 hA, Vl1_pi_j30 hA, Vl1_pl])
          exact vl1
        · (try simp only [Vlr_pi_j18 hA, Vlr_pi_j22 hA, Vlr_pi_j30 hA, Vlr_pl_j39 hA])
          exact vlr
        · (try simp only [Vsr_pi_j18 hA, Vsr_pi_j22 hA, Vsr_pi_j30 hA, Vsr_pl_j39 hA])
          exact vsr
        · refine Vc_of (c := 5) vc (by decide) (fun k => ?_) (fun k => ?_) <;> simp only [mi_pi, mi_pl, hAe, Nat.reduceLT, Nat.reduceEqDiff, false_and, true_and, if_false]
        · (try simp only [Tx_pi_j18 hA, Tx_pi_j22 hA, Tx_pi_j30 hA, Tx_pl])
          exact tx
end

section
/-! FRESH CELLS -/
/-- all that was is as it was; new cells above -/
def Fr (h m : MH) : Prop := g_z m = g_z h ∧ g_t h ≤ g_t m ∧ (∀ j, g_a m j = g_a h j) ∧ ∀ a, a < g_t h → (g_c m a = g_c h a ∧ g_n m a = g_n h a) ∧ (∀ k, g_i m a k = g_i h a k) ∧ (∀ k, g_l m a k = g_l h a k) ∧ ∀ k, g_r m a k = g_r h a k
theorem Fr_rfl {h : MH} : Fr h h := ⟨rfl, Nat.le_refl _, fun _ => rfl, fun _ _ => ⟨⟨rfl, rfl⟩, fun _ => rfl, fun _ => rfl, fun _ => rfl⟩⟩
theorem Fr_pN {h m : MH} {tag n : Nat} (f : Fr h m) : Fr h (p_N m tag n) := by
  obtain ⟨f1, f2, f3, f4⟩ := f
  refine ⟨f1, by rw [mt_pN]; omega, f3, fun a ha => ?_⟩
  have hne : ¬ a = g_t m := by omega
  obtain ⟨⟨e1, e2⟩, e3, e4, e5⟩ := f4 a ha
  exact ⟨⟨by rw [mc_pN, if_neg hne]; exact e1, by rw [mn_pN, if_neg hne]; exact e2⟩, fun k => by rw [mi_pN, if_neg hne]; exact e3 k, fun k => by rw [ml_pN, if_neg hne]; exact e4 k, fun k => by rw [mr_pN, if_neg hne]; exact e5 k⟩
theorem Fr_pi {h m : MH} {a k : Nat} {v : Int32} (f : Fr h m) (ha : g_t h ≤ a) : Fr h (p_i m a k v) := by
  obtain ⟨f1, f2, f3, f4⟩ := f
  refine ⟨f1, f2, f3, fun b hb => ?_⟩
  have hne : ¬ b = a := by omega
  obtain ⟨e1, e3, e4, e5⟩ := f4 b hb
  exact ⟨e1, fun j => by rw [mi_pi, if_neg (fun z => hne z.1)]; exact e3 j, e4, e5⟩
theorem Fr_pr {h m : MH} {a k : Nat} {v : Option Nat} (f : Fr h m) (ha : g_t h ≤ a) : Fr h (p_r m a k v) := by
  obtain ⟨f1, f2, f3, f4⟩ := f
  refine ⟨f1, f2, f3, fun b hb => ?_⟩
  have hne : ¬ b = a := by omega
  obtain ⟨e1, e3, e4, e5⟩ := f4 b hb
  exact ⟨e1, e3, e4, fun j => by rw [mr_pr, if_neg (fun z => hne z.1)]; exact e5 j⟩
theorem Fr_pC {h m : MH} {a : Nat} {g : Nat → Int32} (f : Fr h m) (ha : g_t h ≤ a) : Fr h (p_C m a g) := by
  obtain ⟨f1, f2, f3, f4⟩ := f
  refine ⟨f1, f2, f3, fun b hb => ?_⟩
  have hne : ¬ b = a := by omega
  obtain ⟨e1, e3, e4, e5⟩ := f4 b hb
  exact ⟨e1, fun j => by rw [mi_pC, if_neg hne]; exact e3 j, e4, e5⟩
theorem Fr_pT {h m : MH} {t : Nat} (f : Fr h m) (ht : g_t m ≤ t) : Fr h (p_T m t) := by
  obtain ⟨f1, f2, f3, f4⟩ := f
  exact ⟨f1, Nat.le_trans f2 ht, f3, f4⟩
theorem Rl_Fr {A : Nat → Nat} {h m : MH} (R : Rl A h) (f : Fr h m) : Rl A m := by
  obtain ⟨f1, f2, f3, f4⟩ := f
  have kt : ∀ i, i < 40 → A i < g_t h := R.1.2.2.1.2
  have e1 : ∀ i, i < 40 → g_c m (A i) = g_c h (A i) := fun i hi => (f4 _ (kt i hi)).1.1
  have e2 : ∀ i, i < 40 → g_n m (A i) = g_n h (A i) := fun i hi => (f4 _ (kt i hi)).1.2
  have e3 : ∀ i k, i < 40 → g_i m (A i) k = g_i h (A i) k := fun i k hi => (f4 _ (kt i hi)).2.1 k
  have e4 : ∀ i k, i < 40 → g_l m (A i) k = g_l h (A i) k := fun i k hi => (f4 _ (kt i hi)).2.2.1 k
  have e5 : ∀ i k, i < 40 → g_r m (A i) k = g_r h (A i) k := fun i k hi => (f4 _ (kt i hi)).2.2.2 k
  obtain ⟨⟨k1, k2, ⟨k3, k4⟩, k5, k6⟩, r2, r3, r4, r5, r6, r7, r8, r9, r10, r11, ⟨v, a1, a2, a3, a4, a5, a6, a7, a8, a9⟩⟩ := R
  refine ⟨⟨k1, ?_, ⟨fun i hi => by rw [f1]; exact k3 i hi, fun i hi => Nat.lt_of_lt_of_le (k4 i hi) f2⟩, ?_, ?_⟩, ?_, ?_, ?_, ?_, ?_, ?_, ?_, ?_, ?_, ?_, ⟨v, ?_⟩⟩
  · simp only [Kc1, e1, Nat.reduceLT]; exact k2
  · simp only [Kn1, e2, Nat.reduceLT]; exact k5
  · simp only [Kr1, e5, Nat.reduceLT]; exact k6
  · simp only [Cn, e3, Nat.reduceLT]; exact r2
  · simp only [Vq0, cT, mT, e3, Nat.reduceLT]; exact r3
  · simp only [Vq1, cT, mT, e3, Nat.reduceLT]; exact r4
  · simp only [Vq2, cT, mT, e3, Nat.reduceLT]; exact r5
  · simp only [Vp, e3, Nat.reduceLT]; exact r6
  · simp only [Vl0, e3, Nat.reduceLT]; exact r7
  · simp only [Vl1, e3, Nat.reduceLT]; exact r8
  · simp only [Vlr, e4, Nat.reduceLT]; exact r9
  · simp only [Vsr, e3, e4, Nat.reduceLT]; exact r10
  · simp only [Vc, e3, Nat.reduceLT]; exact r11
  · obtain ⟨⟨g1, g2⟩, -⟩ := f4 v a4
    simp only [e3, e5, Nat.reduceLT, g1, g2, f1]
    exact ⟨a1, a2, a3, Nat.lt_of_lt_of_le a4 f2, a5, a6, a7, a8, a9⟩
theorem x_cases {x : Int32} (h1 : ¬ x < 0) (h2 : ¬ 8 < x) : x = 0 ∨ x = 1 ∨ x = 2 ∨ x = 3 ∨ x = 4 ∨ x = 5 ∨ x = 6 ∨ x = 7 ∨ x = 8 := by
  rw [Int32.lt_iff_toInt_lt] at h1 h2
  have e1 : (0 : Int32).toInt = 0 := rfl
  have e2 : (8 : Int32).toInt = 8 := rfl
  have h : x.toInt = 0 ∨ x.toInt = 1 ∨ x.toInt = 2 ∨ x.toInt = 3 ∨ x.toInt = 4 ∨ x.toInt = 5 ∨ x.toInt = 6 ∨ x.toInt = 7 ∨ x.toInt = 8 := by omega
  rcases h with h | h | h | h | h | h | h | h | h
  · exact Or.inl (Int32.toInt_inj.mp h)
  · exact Or.inr (Or.inl (Int32.toInt_inj.mp h))
  · exact Or.inr (Or.inr (Or.inl (Int32.toInt_inj.mp h)))
  · exact Or.inr (Or.inr (Or.inr (Or.inl (Int32.toInt_inj.mp h))))
  · exact Or.inr (Or.inr (Or.inr (Or.inr (Or.inl (Int32.toInt_inj.mp h)))))
  · exact Or.inr (Or.inr (Or.inr (Or.inr (Or.inr (Or.inl (Int32.toInt_inj.mp h))))))
  · exact Or.inr (Or.inr (Or.inr (Or.inr (Or.inr (Or.inr (Or.inl (Int32.toInt_inj.mp h)))))))
  · exact Or.inr (Or.inr (Or.inr (Or.inr (Or.inr (Or.inr (Or.inr (Or.inl (Int32.toInt_inj.mp h))))))))
  · exact Or.inr (Or.inr (Or.inr (Or.inr (Or.inr (Or.inr (Or.inr (Or.inr (Int32.toInt_inj.mp h))))))))
theorem x_le {x b : Int32} (h : ¬ b < x) (hb : ¬ 8 < b) : ¬ 8 < x := by
  rw [Int32.lt_iff_toInt_lt] at h hb ⊢
  omega
theorem lsz (x : Int32) : x - 0 = x := Int32.sub_zero x
theorem lne : ((0 : Int32) = 1) = False ∧ ((0 : Int32) = 2) = False ∧ ((0 : Int32) = 3) = False ∧ ((0 : Int32) = 4) = False ∧ ((0 : Int32) = 5) = False ∧ ((0 : Int32) = 6) = False ∧ ((0 : Int32) = 7) = False ∧ ((0 : Int32) = 8) = False ∧ ((1 : Int32) = 0) = False ∧ ((1 : Int32) = 2) = False ∧ ((1 : Int32) = 3) = False ∧ ((1 : Int32) = 4) = False ∧ ((1 : Int32) = 5) = False ∧ ((1 : Int32) = 6) = False ∧ ((1 : Int32) = 7) = False ∧ ((1 : Int32) = 8) = False ∧ ((2 : Int32) = 0) = False ∧ ((2 : Int32) = 1) = False ∧ ((2 : Int32) = 3) = False ∧ ((2 : Int32) = 4) = False ∧ ((2 : Int32) = 5) = False ∧ ((2 : Int32) = 6) = False ∧ ((2 : Int32) = 7) = False ∧ ((2 : Int32) = 8) = False ∧ ((3 : Int32) = 0) = False ∧ ((3 : Int32) = 1) = False ∧ ((3 : Int32) = 2) = False ∧ ((3 : Int32) = 4) = False ∧ ((3 : Int32) = 5) = False ∧ ((3 : Int32) = 6) = False ∧ ((3 : Int32) = 7) = False ∧ ((3 : Int32) = 8) = False ∧ ((4 : Int32) = 0) = False ∧ ((4 : Int32) = 1) = False ∧ ((4 : Int32) = 2) = False ∧ ((4 : Int32) = 3) = False ∧ ((4 : Int32) = 5) = False ∧ ((4 : Int32) = 6) = False ∧ ((4 : Int32) = 7) = False ∧ ((4 : Int32) = 8) = False ∧ ((5 : Int32) = 0) = False ∧ ((5 : Int32) = 1) = False ∧ ((5 : Int32) = 2) = False ∧ ((5 : Int32) = 3) = False ∧ ((5 : Int32) = 4) = False ∧ ((5 : Int32) = 6) = False ∧ ((5 : Int32) = 7) = False ∧ ((5 : Int32) = 8) = False ∧ ((6 : Int32) = 0) = False ∧ ((6 : Int32) = 1) = False ∧ ((6 : Int32) = 2) = False ∧ ((6 : Int32) = 3) = False ∧ ((6 : Int32) = 4) = False ∧ ((6 : Int32) = 5) = False ∧ ((6 : Int32) = 7) = False ∧ ((6 : Int32) = 8) = False ∧ ((7 : Int32) = 0) = False ∧ ((7 : Int32) = 1) = False ∧ ((7 : Int32) = 2) = False ∧ ((7 : Int32) = 3) = False ∧ ((7 : Int32) = 4) = False ∧ ((7 : Int32) = 5) = False ∧ ((7 : Int32) = 6) = False ∧ ((7 : Int32) = 8) = False ∧ ((8 : Int32) = 0) = False ∧ ((8 : Int32) = 1) = False ∧ ((8 : Int32) = 2) = False ∧ ((8 : Int32) = 3) = False ∧ ((8 : Int32) = 4) = False ∧ ((8 : Int32) = 5) = False ∧ ((8 : Int32) = 6) = False ∧ ((8 : Int32) = 7) = False := ⟨by decide, by decide, by decide, by decide, by decide, by decide, by decide, by decide, by decide, by decide, by decide, by decide, by decide, by decide, by decide, by decide, by decide, by decide, by decide, by decide, by decide, by decide, by decide, by decide, by decide, by decide, by decide, by decide, by decide, by decide, by decide, by decide, by decide, by decide, by decide, by decide, by decide, by decide, by decide, by decide, by decide, by decide, by decide, by decide, by decide, by decide, by decide, by decide, by decide, by decide, by decide, by decide, by decide, by decide, by decide, by decide, by decide, by decide, by decide, by decide, by decide, by decide, by decide, by decide, by decide, by decide, by decide, by decide, by decide, by decide, by decide, by decide⟩
theorem lti : (0 : Int32).toInt = 0 ∧ (1 : Int32).toInt = 1 ∧ (2 : Int32).toInt = 2 ∧ (3 : Int32).toInt = 3 ∧ (4 : Int32).toInt = 4 ∧ (5 : Int32).toInt = 5 ∧ (6 : Int32).toInt = 6 ∧ (7 : Int32).toInt = 7 ∧ (8 : Int32).toInt = 8 := by decide
theorem vpk : vp_in 0 7 = True ∧ vp_in 1 7 = True ∧ vp_in 2 7 = True ∧ vp_in 3 7 = True ∧ vp_in 4 7 = True ∧ vp_in 5 7 = True ∧ vp_in 6 7 = True ∧ vp_in 0 8 = True ∧ vp_in 1 8 = True ∧ vp_in 2 8 = True ∧ vp_in 3 8 = True ∧ vp_in 4 8 = True ∧ vp_in 5 8 = True ∧ vp_in 6 8 = True ∧ vp_in 7 8 = True ∧ vp_in 0 9 = True ∧ vp_in 1 9 = True ∧ vp_in 2 9 = True ∧ vp_in 3 9 = True ∧ vp_in 4 9 = True ∧ vp_in 5 9 = True ∧ vp_in 6 9 = True ∧ vp_in 7 9 = True ∧ vp_in 8 9 = True := ⟨by unfold vp_in; decide, by unfold vp_in; decide, by unfold vp_in; decide, by unfold vp_in; decide, by unfold vp_in; decide, by unfold vp_in; decide, by unfold vp_in; decide, by unfold vp_in; decide, by unfold vp_in; decide, by unfold vp_in; decide, by unfold vp_in; decide, by unfold vp_in; decide, by unfold vp_in; decide, by unfold vp_in; decide, by unfold vp_in; decide, by unfold vp_in; decide, by unfold vp_in; decide, by unfold vp_in; decide, by unfold vp_in; decide, by unfold vp_in; decide, by unfold vp_in; decide, by unfold vp_in; decide, by unfold vp_in; decide, by unfold vp_in; decide⟩
end

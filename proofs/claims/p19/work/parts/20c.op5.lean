theorem hx_314_3 {l rest : List Value} {bc bs : Nat} {Q : MR → MH → Prop} {h : MH} : Kc Ok 314 2 5 l rest bc bs Q (.inr 3) h ↔ ∀ q : Nat, Ok 314 12 l [.ref q] h bc bs Q := Kc_x (by decide +kernel) (by decide +kernel)
theorem op_draw {A : Nat → Nat} {h : MH} (R : Rl A h) : Ok 314 0 [.ref (A 0), .ref (A 39), mk0] [] h 1 6 (fun r h1 => ∃ k : Int32, r = .inl (some (.int k)) ∧ g_c h1 (A 22) = 9 ∧ Ok 211 0 [.ref (A 22)] [] h1 0 0 (fun r2 h2 => ∃ b : Int32, r2 = .inl (some (.int b)) ∧ Rl A h2 ∧ g_i h2 (A 22) 9 = k ∧ (k = 0 → g_l h2 (A 39) 0 = b.toInt64))) := by
  obtain ⟨vk, vcn, v0, v1, v2, vp, vl0, vl1, vlr, vsr, vc, tx⟩ := R
  have vk0 := vk
  have vcn0 := vcn
  (refine K_el vk0 ?_; intros hA kc0 kc1 kc2 kc3 kc4 kc5 kc6 kc7 kc8 kc9 kc10 kc11 kc12 kc13 kc14 kc15 kc16 kc17 kc18 kc19 kc20 kc21 kc22 kc23 kc24 kc25 kc26 kc27 kc28 kc29 kc30 kc31 kc32 kc33 kc34 kc35 kc36 kc37 kc38 kc39 kz kt kn3 kn4 kn18 kn21 kn23 kn24 kn25 kn26 kn27 kn29 kn30 kr0_0 kr0_1 kr0_2 kr0_3 kr0_4 kr0_5 kr0_7 kr0_8 kr0_9 kr0_10 kr1_0 kr2_0 kr5_0 kr5_1 kr6_0 kr6_1 kr7_0 kr7_1 kr8_0 kr9_0 kr10_0 kr11_0 kr12_0 kr13_0 kr14_0 kr15_0 kr16_0 kr17_0 kr19_0 kr19_1 kr22_0 kr22_1 kr22_2 kr22_3 kr22_4 kr22_5 kr22_7 kr22_8 kr25_0 kr25_1 kr25_2 kr26_0 kr26_1 kr26_2 kr29_0 kr29_1)
  (refine Cn_el vcn0 ?_; intros ki5_2 ki6_2 ki7_2 ki8_1 ki8_2 ki8_3 ki9_1 ki9_2 ki9_3 ki10_1 ki10_2 ki10_3 ki11_1 ki11_2 ki11_3 ki12_1 ki12_2 ki12_3 ki13_1 ki13_2 ki13_3 ki14_1 ki14_2 ki14_3 ki28_0 ki28_1 ki31_0 ki31_1 ki32_0 ki32_1 ki33_0 ki33_1 ki34_0 ki34_1 ki35_0 ki35_1 ki36_0 ki36_1)
  have hAe : ∀ i j, i < 40 → j < 40 → (A i = A j ↔ i = j) := hA
  have hp2 := vp
  obtain ⟨⟨p1, p2, p3, p4⟩, hpm⟩ := hp2
  replace p1 := p1.symm
  replace p2 := p2.symm
  replace p3 := p3.symm
  replace p4 := p4.symm
  rw [p1, p2, p3, p4] at hpm
  obtain ⟨pm, pd⟩ := pA _ hpm
  simp only at pm pd
  rcases pd with pd | pd
  · skip
    simp only [o314_0, o314_1, o314_2, o314_12, o314_13, o314_14, o83_0, o83_1, o83_4, o83_5, o83_8, o211_0, o211_1, o211_2, o211_5, o211_8, o211_9, o211_12, o211_13, o211_16, o211_19, o211_20, o211_21, o211_22, o211_25, hx_314_3, c_X5_checkDraining, c_X8_isThrown__, mc_pi, mc_pT, mi_pi, mi_pT, ml_pi, ml_pT, mr_pi, mr_pT, mz_pT, mcs_0, mcs_r, Kn_v, Kn_0, Kn_x, mrf_some, true_and, and_true, not_true_eq_false, not_false_eq_true, false_implies, forall_const, if_true, if_false, and_self, Nat.reduceLeDiff, Nat.reduceSub, Nat.reduceAdd, Nat.zero_le, Nat.le_refl, i10, Sum.inl.injEq, Option.some.injEq, Value.int.injEq, exists_eq_left', Nat.reduceLT, kc0, kc14, kc22, kc28, kr0_5, kr22_5, kz, p4, pd]
    intro t ht
    first | refine ⟨⟨?_, ?_, ?_, ?_, ?_, ?_, ?_, ?_, ?_, ?_, ?_, ?_⟩, rfl⟩ | refine ⟨?_, ?_, ?_, ?_, ?_, ?_, ?_, ?_, ?_, ?_, ?_, ?_⟩
    · (try simp only [K_pi])
      exact K_pT ht vk
    · (try simp only [Cn_pi_j22 hA, Cn_pT])
      exact vcn
    · (try simp only [Vq0_pi_j22 hA, Vq0_pT])
      exact v0
    · (try simp only [Vq1_pi_j22 hA, Vq1_pT])
      exact v1
    · (try simp only [Vq2_pi_j22 hA, Vq2_pT])
      exact v2
    · (try simp only [Vp_thr hA, Vp_pT])
      exact vp
    · (try simp only [Vl0_pi_j22 hA, Vl0_pT])
      exact vl0
    · (try simp only [Vl1_pi_j22 hA, Vl1_pT])
      exact vl1
    · (try simp only [Vlr_pi_j22 hA, Vlr_pT])
      exact vlr
    · (try simp only [Vsr_pi_j22 hA, Vsr_pT])
      exact vsr
    · (try simp only [Vc_pi_j22 hA, Vc_pT])
      exact vc
    · (try simp only [Tx_pi_j22 hA])
      exact Tx_pT ht tx
  · by_cases e0 : g_i h (A 14) 5 - g_i h (A 14) 4 = 0
    · skip
      simp only [o314_0, o314_1, o314_2, o314_5, o314_6, o314_9, o314_12, o314_13, o314_14, o314_15, o314_16, o83_0, o83_1, o83_4, o83_5, o83_8, o83_11, o83_14, o83_15, o83_18, o83_19, o83_22, o83_23, o83_24, o83_27, o83_28, o83_31, o211_0, o211_1, o211_2, o211_5, o211_8, o211_9, o211_12, o211_13, o211_16, o211_19, o211_20, o211_21, o211_22, o211_25, o211_28, o211_31, o211_32, o211_33, o211_36, o211_39, o211_40, o211_41, o211_47, hx_314_3, c_X5_checkDraining, c_X8_isThrown__, c_X3_rests, c_X7_rests, c_ref_2 (cs := A 18), c_X8_no (cs := A 30), mc_pi, mc_pl, mc_pT, mn_pi, mn_pl, mn_pT, mi_pi, mi_pl, mi_pT, ml_pi, ml_pl, ml_pT, mr_pi, mr_pl, mr_pT, mz_pi, mz_pl, mz_pT, mcs_0, mcs_r, Kn_v, Kn_0, Kn_x, mrf_some, true_and, and_true, and_false, not_true_eq_false, not_false_eq_true, false_implies, implies_true, forall_const, if_true, if_false, and_self, Nat.reduceEqDiff, Nat.reduceLeDiff, Nat.reduceSub, Nat.reduceAdd, Nat.zero_le, Nat.le_refl, i10, i01, Int32.reduceSub, cl2, Kc_v, Sum.inl.injEq, Option.some.injEq, Value.int.injEq, exists_eq_left', Nat.reduceLT, hAe, kc0, kc14, kc17, kc18, kc22, kc28, kc30, kc39, kn18, kn30, kr0_5, kr0_9, kr17_0, kr22_5, kr22_8, kz, p1, p2, p4, pco, pd, e0, v18, cl2]
      first | refine ⟨⟨?_, ?_, ?_, ?_, ?_, ?_, ?_, ?_, ?_, ?_, ?_, ?_⟩, rfl⟩ | refine ⟨?_, ?_, ?_, ?_, ?_, ?_, ?_, ?_, ?_, ?_, ?_, ?_⟩
      · (try simp only [K_pi, K_pl])
        exact vk
      · (try simp only [Cn_pi_j18 hA, Cn_pi_j22 hA, Cn_pi_j30 hA, Cn_pl])
        exact vcn
      · (try simp only [Vq0_pi_j18 hA, Vq0_pi_j22 hA, Vq0_pi_j30 hA, Vq0_pl])
        exact v0
      · (try simp only [Vq1_pi_j18 hA, Vq1_pi_j22 hA, Vq1_pi_j30 hA, Vq1_pl])
        exact v1
      · (try simp only [Vq2_pi_j18 hA, Vq2_pi_j22 hA, Vq2_pi_j30 hA, Vq2_pl])
        exact v2
      · (try simp only [Vp_pi_j18 hA, Vp_pi_j30 hA, Vp_thr hA, Vp_pl])
        exact vp
      · (try simp only [Vl0_pi_j18 hA, Vl0_pi_j22 hA, Vl0_pi_j30 hA, Vl0_pl])
        exact vl0
      · (try simp only [Vl1_pi_j18 hA, Vl1_pi_j22 hA, Vl1_pi_j30 hA, Vl1_pl])
        exact vl1
      · (try simp only [Vlr_pi_j18 hA, Vlr_pi_j22 hA, Vlr_pi_j30 hA, Vlr_pl_j39 hA])
        exact vlr
      · (try simp only [Vsr_pi_j18 hA, Vsr_pi_j22 hA, Vsr_pi_j30 hA, Vsr_pl_j39 hA])
        exact vsr
      · refine Vc_of (c := 2) vc (by decide) (fun k => ?_) (fun k => ?_) <;> simp only [mi_pi, mi_pl, hAe, Nat.reduceLT, Nat.reduceEqDiff, false_and, true_and, if_false, pco]
      · (try simp only [Tx_pi_j18 hA, Tx_pi_j22 hA, Tx_pi_j30 hA, Tx_pl])
        exact tx
    · obtain ⟨i1, i2, hj, hq9⟩ := (pF _ hpm).resolve_left e0
      simp only at i1 i2 hj hq9
      have hj2 := hj.2.2
      have vsf := (vsr _ (rdy_lt hj)).1
      simp only [o314_0, o314_1, o314_2, o314_5, o314_6, o314_9, o314_12, o314_13, o314_14, o314_15, o314_16, o83_0, o83_1, o83_4, o83_5, o83_8, o83_11, o83_14, o83_15, o83_18, o83_19, o83_23, o83_24, o83_27, o83_28, o83_31, o83_34, o83_35, o83_38, o211_0, o211_1, o211_2, o211_5, o211_8, o211_9, o211_12, o211_13, o211_16, o211_19, o211_20, o211_21, o211_22, o211_25, o211_28, o211_31, o211_32, o211_33, o211_39, o211_40, o211_41, o211_44, o211_47, hx_314_3, c_X5_checkDraining, c_X8_isThrown__, c_X3_rests, c_X7_rests, c_X3_readNext (rw := A 2) (cs := A 4) (n := 36), c_X0_done (cs := A 18), c_X8_done (cs := A 30), mc_pi, mc_pl, mc_pT, mn_pi, mn_pl, mn_pT, mi_pi, mi_pl, mi_pT, ml_pi, ml_pl, ml_pT, mr_pi, mr_pl, mr_pT, mz_pi, mz_pl, mz_pT, mcs_0, mcs_r, Kn_v, Kn_0, Kn_x, mrf_some, kok_0, true_and, and_true, false_and, and_false, not_true_eq_false, not_false_eq_true, false_implies, implies_true, forall_const, if_true, if_false, and_self, Nat.reduceEqDiff, Nat.reduceLeDiff, Nat.reduceSub, Nat.reduceAdd, Nat.zero_le, Nat.le_refl, i10, i01, Kc_v, Sum.inl.injEq, Option.some.injEq, Value.int.injEq, exists_eq_left', Nat.reduceLT, hAe, kc0, kc2, kc4, kc14, kc17, kc18, kc22, kc24, kc28, kc30, kc39, kn4, kn18, kn24, kn30, kr0_5, kr0_9, kr2_0, kr14_0, kr17_0, kr22_1, kr22_5, kr22_8, kz, ki14_1, ki14_2, p1, p2, p4, pco, pd, e0, i1, i2, hj, hj2, vsf, i64_back, o208_0, o208_1, o208_4, o208_5, o208_8, o208_9, o208_10, o208_13, o208_14, o208_17, o208_18, o208_21, o208_24, o208_25]
      first | refine ⟨⟨?_, ?_, ?_, ?_, ?_, ?_, ?_, ?_, ?_, ?_, ?_, ?_⟩, rfl⟩ | refine ⟨?_, ?_, ?_, ?_, ?_, ?_, ?_, ?_, ?_, ?_, ?_, ?_⟩
      · (try simp only [K_pi, K_pl])
        exact vk
      · (try simp only [Cn_pi_j18 hA, Cn_pi_j22 hA, Cn_pi_j30 hA, Cn_14_4 hA, Cn_28_3 hA, Cn_pl])
        exact vcn
      · (try simp only [Vq0_pi_j18 hA, Vq0_pi_j22 hA, Vq0_pi_j30 hA, Vq0_pi_j14 hA, Vq0_pi_j28 hA, Vq0_pl])
        exact v0
      · (try simp only [Vq1_pi_j18 hA, Vq1_pi_j22 hA, Vq1_pi_j30 hA, Vq1_pi_j14 hA, Vq1_pi_j28 hA, Vq1_pl])
        exact v1
      · (try simp only [Vq2_pi_j18 hA, Vq2_pi_j22 hA, Vq2_pi_j30 hA, Vq2_pi_j14 hA, Vq2_pi_j28 hA, Vq2_pl])
        exact v2
      · simp only [Vp, mi_pi, mi_pl, hAe, Nat.reduceLT, Nat.reduceEqDiff, and_false, true_and, and_true, if_false, if_true, p1, p2, p3, p4, true_and, and_self]
        first | exact hq9 | exact ⟨⟨rfl, rfl, rfl, rfl⟩, hq9⟩ | (refine ⟨⟨?_, ?_, ?_, ?_⟩, hq9⟩ <;> first | rfl | trivial)
      · (try simp only [Vl0_pi_j18 hA, Vl0_pi_j22 hA, Vl0_pi_j30 hA, Vl0_pi_j14 hA, Vl0_pi_j28 hA, Vl0_pl])
        exact vl0
      · (try simp only [Vl1_pi_j18 hA, Vl1_pi_j22 hA, Vl1_pi_j30 hA, Vl1_pi_j14 hA, Vl1_pi_j28 hA, Vl1_pl])
        exact vl1
      · (try simp only [Vlr_pi_j18 hA, Vlr_pi_j22 hA, Vlr_pi_j30 hA, Vlr_pi_j14 hA, Vlr_pi_j28 hA, Vlr_pl_j39 hA])
        exact vlr
      · (try simp only [Vsr_pi_j18 hA, Vsr_pi_j22 hA, Vsr_pi_j30 hA, Vsr_pi_j14 hA, Vsr_pi_j28 hA, Vsr_pl_j39 hA])
        exact vsr
      · refine Vc_of (c := 0) vc (by decide) (fun k => ?_) (fun k => ?_) <;> simp only [mi_pi, mi_pl, hAe, Nat.reduceLT, Nat.reduceEqDiff, false_and, true_and, if_false, pco]
      · (try simp only [Tx_pi_j18 hA, Tx_pi_j22 hA, Tx_pi_j30 hA, Tx_pi_j14 hA, Tx_pi_j28 hA, Tx_pl])
        exact tx

theorem hx_312_1 {l rest : List Value} {bc bs : Nat} {Q : MR → MH → Prop} {h : MH} : Kc Ok 312 4 7 l rest bc bs Q (.inr 1) h ↔ ∀ q : Nat, Ok 312 14 l [.ref q] h bc bs Q := Kc_x (by decide +kernel) (by decide +kernel)
theorem hx_312_2 {l rest : List Value} {bc bs : Nat} {Q : MR → MH → Prop} {h : MH} : Kc Ok 312 4 7 l rest bc bs Q (.inr 2) h ↔ ∀ q : Nat, Ok 312 18 l [.ref q] h bc bs Q := Kc_x (by decide +kernel) (by decide +kernel)
theorem hx_312_3 {l rest : List Value} {bc bs : Nat} {Q : MR → MH → Prop} {h : MH} : Kc Ok 312 4 7 l rest bc bs Q (.inr 3) h ↔ ∀ q : Nat, Ok 312 22 l [.ref q] h bc bs Q := Kc_x (by decide +kernel) (by decide +kernel)
theorem op_pour {A : Nat → Nat} {h : MH} (R : Rl A h) {s f : Int32} : Ok 312 0 [.ref (A 0), .int s, .int f, .ref (A 39), mk0] [] h 3 18 (fun r h1 => ∃ k : Int32, r = .inl (some (.int k)) ∧ g_c h1 (A 22) = 9 ∧ Ok 209 0 [.ref (A 22), .int s, .int f] [] h1 0 0 (fun r2 h2 => ∃ b : Int32, r2 = .inl (some (.int b)) ∧ Rl A h2 ∧ g_i h2 (A 22) 9 = k ∧ (k = 0 → g_l h2 (A 39) 0 = b.toInt64))) := by
  obtain ⟨vk, vcn, v0, v1, v2, vp, vl0, vl1, vlr, vsr, vc, tx⟩ := R
  have vk0 := vk
  have vcn0 := vcn
  (refine K_el vk0 ?_; intros hA kc0 kc1 kc2 kc3 kc4 kc5 kc6 kc7 kc8 kc9 kc10 kc11 kc12 kc13 kc14 kc15 kc16 kc17 kc18 kc19 kc20 kc21 kc22 kc23 kc24 kc25 kc26 kc27 kc28 kc29 kc30 kc31 kc32 kc33 kc34 kc35 kc36 kc37 kc38 kc39 kz kt kn3 kn4 kn18 kn21 kn23 kn24 kn25 kn26 kn27 kn29 kn30 kr0_0 kr0_1 kr0_2 kr0_3 kr0_4 kr0_5 kr0_7 kr0_8 kr0_9 kr0_10 kr1_0 kr2_0 kr5_0 kr5_1 kr6_0 kr6_1 kr7_0 kr7_1 kr8_0 kr9_0 kr10_0 kr11_0 kr12_0 kr13_0 kr14_0 kr15_0 kr16_0 kr17_0 kr19_0 kr19_1 kr22_0 kr22_1 kr22_2 kr22_3 kr22_4 kr22_5 kr22_7 kr22_8 kr25_0 kr25_1 kr25_2 kr26_0 kr26_1 kr26_2 kr29_0 kr29_1)
  (refine Cn_el vcn0 ?_; intros ki5_2 ki6_2 ki7_2 ki8_1 ki8_2 ki8_3 ki9_1 ki9_2 ki9_3 ki10_1 ki10_2 ki10_3 ki11_1 ki11_2 ki11_3 ki12_1 ki12_2 ki12_3 ki13_1 ki13_2 ki13_3 ki14_1 ki14_2 ki14_3 ki28_0 ki28_1 ki31_0 ki31_1 ki32_0 ki32_1 ki33_0 ki33_1 ki34_0 ki34_1 ki35_0 ki35_1 ki36_0 ki36_1)
  have hAe : ∀ i j, i < 40 → j < 40 → (A i = A j ↔ i = j) := hA
  have hp2 := vp
  obtain ⟨⟨p1, p2, p3, p4⟩, hpm⟩ := hp2
  replace p1 := p1.symm
  replace p2 := p2.symm
  replace p3 := p3.symm
  replace p4 := p4.symm
  rw [p1, p2, p3, p4] at hpm
  obtain ⟨pm, pd⟩ := pA _ hpm
  simp only at pm pd
  have pd2 : g_i h (A 0) 6 = 0 ∨ ¬ g_i h (A 0) 6 = 0 := Classical.em _
  by_cases bs : s < 0 ∨ ¬ s < 6
  · have bs2 : (¬ s < 0 ∧ s < 6) = False := nrng bs
    by_cases bf : (¬ f < 0 ∧ f < 4) <;> rcases pd with pd | pd
    all_goals
      simp only [o312_0, o312_1, o312_2, o312_3, o312_4, o312_14, o312_16, o312_17, o312_18, o312_20, o312_21, o312_22, o312_24, o312_25, o81_0, o81_1, o81_4, o81_5, o81_8, o81_9, o81_12, o81_13, o81_16, o209_0, o209_1, o209_2, o209_5, o209_8, o209_9, o209_12, o209_13, o209_14, o209_17, o209_20, o209_21, o209_24, o209_25, o209_26, o209_29, o209_32, o209_35, o209_36, o209_37, o209_38, o209_41, hx_312_1, hx_312_2, hx_312_3, c_X5_checkSlot, c_X8_isSlot, c_X8_isThrown, c_X5_checkFourth, c_X8_isFourth, c_X5_checkFilling, mc_pi, mc_pT, mi_pi, mi_pT, ml_pi, ml_pT, mr_pi, mr_pT, mz_pT, mcs_0, mcs_i, mcs_r, Kn_v, Kn_0, Kn_x, mrf_some, true_and, and_true, and_false, or_false, not_true_eq_false, not_false_eq_true, false_implies, forall_const, if_true, if_false, and_self, Nat.reduceLeDiff, Nat.reduceSub, Nat.reduceAdd, Nat.zero_le, Nat.le_refl, i10, Sum.inl.injEq, Option.some.injEq, Value.int.injEq, exists_eq_left', Nat.reduceLT, i20, i30, kc0, kc14, kc22, kc28, kr0_5, kr22_5, kz, bs, bs2, bf, pd, p4]
      intro t ht
      first | refine ⟨⟨?_, ?_, ?_, ?_, ?_, ?_, ?_, ?_, ?_, ?_, ?_, ?_⟩, rfl⟩ | refine ⟨?_, ?_, ?_, ?_, ?_, ?_, ?_, ?_, ?_, ?_, ?_, ?_⟩
      · (try simp only [K_pi])
        exact K_pT ht vk
      · (try simp only [Cn_pi_j22 hA, Cn_pT])
        exact vcn
      · (try simp only [Vq0_pi_j22 hA, Vq0_pT])
        exact v0
      · (try simp only [Vq1_pi_j22 hA, Vq1_pT])
        exact v1
      · (try simp only [Vq2_pi_j22 hA, Vq2_pT])
        exact v2
      · (try simp only [Vp_thr hA, Vp_pT])
        exact vp
      · (try simp only [Vl0_pi_j22 hA, Vl0_pT])
        exact vl0
      · (try simp only [Vl1_pi_j22 hA, Vl1_pT])
        exact vl1
      · (try simp only [Vlr_pi_j22 hA, Vlr_pT])
        exact vlr
      · (try simp only [Vsr_pi_j22 hA, Vsr_pT])
        exact vsr
      · (try simp only [Vc_pi_j22 hA, Vc_pT])
        exact vc
      · (try simp only [Tx_pi_j22 hA])
        exact Tx_pT ht tx
  · have s1 : ¬ s < 0 := fun z => bs (Or.inl z)
    have s2 : s < 6 := Classical.byContradiction fun z => bs (Or.inr z)
    have hs := ix_ok s1 s2
    have hs2 := hs
    obtain ⟨⟨j0, j1, j2, j3⟩, d01, d02, d03, d10, d12, d13, d20, d21, d23, d30, d31, d32⟩ := hs2
    obtain ⟨l0, l1, l2, l3⟩ := ix_lt hs
    have vs0 := (vsr _ l0).1
    have vs1 := (vsr _ l1).1
    have vs2 := (vsr _ l2).1
    have vs3 := (vsr _ l3).1
    have bs2 : (¬ s < 0 ∧ s < 6) = True := eq_true ⟨s1, s2⟩
    by_cases bf : f < 0 ∨ ¬ f < 4
    · have bf2 : (¬ f < 0 ∧ f < 4) = False := nrng bf
      rcases pd with pd | pd
      all_goals
        simp only [o312_0, o312_1, o312_2, o312_3, o312_4, o312_14, o312_16, o312_17, o312_18, o312_20, o312_21, o312_22, o312_24, o312_25, o81_0, o81_1, o81_4, o81_5, o81_8, o81_9, o81_12, o81_13, o81_16, o209_0, o209_1, o209_2, o209_5, o209_8, o209_9, o209_12, o209_13, o209_14, o209_17, o209_20, o209_21, o209_24, o209_25, o209_26, o209_29, o209_32, o209_35, o209_36, o209_37, o209_38, o209_41, hx_312_1, hx_312_2, hx_312_3, c_X5_checkSlot, c_X8_isSlot, c_X8_isThrown, c_X5_checkFourth, c_X8_isFourth, c_X5_checkFilling, mc_pi, mc_pT, mi_pi, mi_pT, ml_pi, ml_pT, mr_pi, mr_pT, mz_pT, mcs_0, mcs_i, mcs_r, Kn_v, Kn_0, Kn_x, mrf_some, true_and, and_true, and_false, or_false, not_true_eq_false, not_false_eq_true, false_implies, forall_const, if_true, if_false, and_self, Nat.reduceLeDiff, Nat.reduceSub, Nat.reduceAdd, Nat.zero_le, Nat.le_refl, i10, Sum.inl.injEq, Option.some.injEq, Value.int.injEq, exists_eq_left', Nat.reduceLT, i20, i30, kc0, kc14, kc22, kc28, kr0_5, kr22_5, kz, bf, bf2, pd, p4, s1, s2]
        intro t ht
        first | refine ⟨⟨?_, ?_, ?_, ?_, ?_, ?_, ?_, ?_, ?_, ?_, ?_, ?_⟩, rfl⟩ | refine ⟨?_, ?_, ?_, ?_, ?_, ?_, ?_, ?_, ?_, ?_, ?_, ?_⟩
        · (try simp only [K_pi])
          exact K_pT ht vk
        · (try simp only [Cn_pi_j22 hA, Cn_pT])
          exact vcn
        · (try simp only [Vq0_pi_j22 hA, Vq0_pT])
          exact v0
        · (try simp only [Vq1_pi_j22 hA, Vq1_pT])
          exact v1
        · (try simp only [Vq2_pi_j22 hA, Vq2_pT])
          exact v2
        · (try simp only [Vp_thr hA, Vp_pT])
          exact vp
        · (try simp only [Vl0_pi_j22 hA, Vl0_pT])
          exact vl0
        · (try simp only [Vl1_pi_j22 hA, Vl1_pT])
          exact vl1
        · (try simp only [Vlr_pi_j22 hA, Vlr_pT])
          exact vlr
        · (try simp only [Vsr_pi_j22 hA, Vsr_pT])
          exact vsr
        · (try simp only [Vc_pi_j22 hA, Vc_pT])
          exact vc
        · (try simp only [Tx_pi_j22 hA])
          exact Tx_pT ht tx
    · have f1 : ¬ f < 0 := fun z => bf (Or.inl z)
      have f2 : f < 4 := Classical.byContradiction fun z => bf (Or.inr z)
      have bf2 : (¬ f < 0 ∧ f < 4) = True := eq_true ⟨f1, f2⟩
      have hjf := ixf_ok s1 s2 f1 f2
      have hvf := hjf.2.2
      have vsf := (vsr _ (rdy_lt hjf))
      have vsg := vsf.1
      rcases pd with pd | pd
      · by_cases e0 : g_i h (A 14) 5 - g_i h (A 14) 4 = 0
        · skip
          simp only [o312_0, o312_1, o312_2, o312_3, o312_4, o312_7, o312_8, o312_11, o312_14, o312_16, o312_17, o312_18, o312_20, o312_21, o312_22, o312_24, o312_25, o312_26, o312_27, o81_0, o81_1, o81_4, o81_5, o81_8, o81_9, o81_12, o81_13, o81_16, o81_19, o81_22, o81_23, o81_26, o81_27, o81_30, o81_31, o81_32, o81_35, o81_36, o81_37, o81_38, o209_0, o209_1, o209_2, o209_5, o209_8, o209_9, o209_12, o209_13, o209_14, o209_17, o209_20, o209_21, o209_24, o209_25, o209_26, o209_29, o209_32, o209_35, o209_36, o209_37, o209_38, o209_41, o209_44, o209_47, o209_48, o209_49, o209_52, o209_53, o209_54, o209_55, o209_58, o209_60, o209_61, o209_62, o209_63, o209_64, o209_65, o209_66, o209_67, hx_312_1, hx_312_2, hx_312_3, c_X5_checkSlot, c_X8_isSlot, c_X8_isThrown, c_X5_checkFourth, c_X8_isFourth, c_X5_checkFilling, c_X3_rests, c_X7_rests, c_ref_1 (cs := A 18), c_X8_no (cs := A 30), mc_pi, mc_pl, mc_pT, mn_pi, mn_pl, mn_pT, mi_pi, mi_pl, mi_pT, ml_pi, ml_pl, ml_pT, mr_pi, mr_pl, mr_pT, mz_pi, mz_pl, mz_pT, mcs_0, mcs_i, mcs_r, Kn_v, Kn_0, Kn_x, mrf_some, true_and, and_true, false_and, and_false, or_false, not_true_eq_false, not_false_eq_true, false_implies, implies_true, forall_const, if_true, if_false, and_self, Nat.reduceEqDiff, Nat.reduceLeDiff, Nat.reduceSub, Nat.reduceAdd, Nat.zero_le, Nat.le_refl, i10, i01, Int32.reduceSub, cl1, Kc_v, Sum.inl.injEq, Option.some.injEq, Value.int.injEq, exists_eq_left', Nat.reduceLT, hAe, i20, i30, kc0, kc14, kc17, kc18, kc22, kc24, kc28, kc30, kc39, kn18, kn24, kn30, kr0_5, kr0_9, kr17_0, kr22_1, kr22_5, kr22_8, kz, p1, p2, p4, pco, f1, f2, pd, e0, v18, cl1, s1, s2, i64_inj]
          first | refine ⟨⟨?_, ?_, ?_, ?_, ?_, ?_, ?_, ?_, ?_, ?_, ?_, ?_⟩, rfl⟩ | refine ⟨?_, ?_, ?_, ?_, ?_, ?_, ?_, ?_, ?_, ?_, ?_, ?_⟩
          · (try simp only [K_pi, K_pl])
            exact vk
          · (try simp only [Cn_pi_j18 hA, Cn_pi_j22 hA, Cn_pi_j30 hA, Cn_pl])
            exact vcn
          · (try simp only [Vq0_pi_j18 hA, Vq0_pi_j22 hA, Vq0_pi_j30 hA, Vq0_pl])
            exact v0
          · (try simp only [Vq1_pi_j18 hA, Vq1_pi_j22 hA, Vq1_pi_j30 hA, Vq1_pl])
            exact v1
          · (try simp only [Vq2_pi_j18 hA, Vq2_pi_j22 hA, Vq2_pi_j30 hA, Vq2_pl])
            exact v2
          · (try simp only [Vp_pi_j18 hA, Vp_pi_j30 hA, Vp_thr hA, Vp_pl])
            exact vp
          · (try simp only [Vl0_pi_j18 hA, Vl0_pi_j22 hA, Vl0_pi_j30 hA, Vl0_pl])
            exact vl0
          · (try simp only [Vl1_pi_j18 hA, Vl1_pi_j22 hA, Vl1_pi_j30 hA, Vl1_pl])
            exact vl1
          · (try simp only [Vlr_pi_j18 hA, Vlr_pi_j22 hA, Vlr_pi_j30 hA, Vlr_pl_j39 hA])
            exact vlr
          · (try simp only [Vsr_pi_j18 hA, Vsr_pi_j22 hA, Vsr_pi_j30 hA, Vsr_pl_j39 hA])
            exact vsr
          · refine Vc_of (c := 1) vc (by decide) (fun k => ?_) (fun k => ?_) <;> simp only [mi_pi, mi_pl, hAe, Nat.reduceLT, Nat.reduceEqDiff, false_and, true_and, if_false, pco]
          · (try simp only [Tx_pi_j18 hA, Tx_pi_j22 hA, Tx_pi_j30 hA, Tx_pl])
            exact tx
        · obtain ⟨i1, i2, hj, hq9⟩ := (pF _ hpm).resolve_left e0
          simp only at i1 i2 hj hq9
          have hj2 := hj.2.2
          simp only [o312_0, o312_1, o312_2, o312_3, o312_4, o312_7, o312_8, o312_11, o312_14, o312_16, o312_17, o312_18, o312_20, o312_21, o312_22, o312_24, o312_25, o312_26, o312_27, o81_0, o81_1, o81_4, o81_5, o81_8, o81_9, o81_12, o81_13, o81_16, o81_19, o81_22, o81_23, o81_26, o81_27, o81_31, o81_32, o81_35, o81_36, o81_37, o81_38, o81_41, o81_42, o81_45, o81_46, o81_47, o81_50, o81_51, o81_54, o81_57, o81_60, o209_0, o209_1, o209_2, o209_5, o209_8, o209_9, o209_12, o209_13, o209_14, o209_17, o209_20, o209_21, o209_24, o209_25, o209_26, o209_29, o209_32, o209_35, o209_36, o209_37, o209_38, o209_41, o209_44, o209_47, o209_48, o209_49, o209_53, o209_54, o209_55, o209_58, o209_60, o209_61, o209_62, o209_63, o209_64, o209_65, o209_66, o209_67, o209_70, o209_71, o209_72, o209_75, o209_78, o209_81, hx_312_1, hx_312_2, hx_312_3, c_X5_checkSlot, c_X8_isSlot, c_X8_isThrown, c_X5_checkFourth, c_X8_isFourth, c_X5_checkFilling, c_X3_rests, c_X7_rests, c_X5_fourthIn (rw := A 2) (cs := A 4), c_X3_writeNext (rw := A 2) (cs := A 4) (n := 36), c_X0_done (cs := A 18), c_X8_done (cs := A 30), mc_pi, mc_pl, mc_pT, mn_pi, mn_pl, mn_pT, mi_pi, mi_pl, mi_pT, ml_pi, ml_pl, ml_pT, mr_pi, mr_pl, mr_pT, mz_pi, mz_pl, mz_pT, mcs_0, mcs_i, mcs_r, Kn_v, Kn_0, Kn_x, mrf_some, kok_0, true_and, and_true, false_and, and_false, or_false, not_true_eq_false, not_false_eq_true, false_implies, implies_true, forall_const, if_true, if_false, and_self, Nat.reduceEqDiff, Nat.reduceLeDiff, Nat.reduceSub, Nat.reduceAdd, Nat.zero_le, Nat.le_refl, i10, i01, Kc_v, Sum.inl.injEq, Option.some.injEq, Value.int.injEq, exists_eq_left', Nat.reduceLT, hAe, i20, i30, kc0, kc2, kc4, kc14, kc17, kc18, kc22, kc24, kc28, kc30, kc39, kn4, kn18, kn24, kn30, kr0_1, kr0_5, kr0_9, kr2_0, kr14_0, kr17_0, kr22_1, kr22_5, kr22_8, kz, ki14_1, ki14_2, ki14_3, p1, p2, p4, pco, f1, f2, pd, e0, i1, i2, hj, hj2, hjf, hvf, vsg, s1, s2, i64_inj, i64_back, o207_0, o207_1, o207_4, o207_5, o207_6, o207_9, o207_12, o207_13, o207_14, o207_15, o207_16, o207_19, o207_20, o207_23, o207_24, o207_25, o207_28]
          first | refine ⟨⟨?_, ?_, ?_, ?_, ?_, ?_, ?_, ?_, ?_, ?_, ?_, ?_⟩, rfl⟩ | refine ⟨?_, ?_, ?_, ?_, ?_, ?_, ?_, ?_, ?_, ?_, ?_, ?_⟩
          · (try simp only [K_pi, K_pl])
            exact vk
          · (try simp only [Cn_pi_j18 hA, Cn_pi_j22 hA, Cn_pi_j30 hA, Cn_pi_j24 hA, Cn_14_4 hA, Cn_28_3 hA, Cn_pl])
            exact vcn
          · (try simp only [Vq0_pi_j18 hA, Vq0_pi_j22 hA, Vq0_pi_j30 hA, Vq0_pi_j14 hA, Vq0_pi_j28 hA, Vq0_pi_j24 hA, Vq0_pl])
            exact v0
          · (try simp only [Vq1_pi_j18 hA, Vq1_pi_j22 hA, Vq1_pi_j30 hA, Vq1_pi_j14 hA, Vq1_pi_j28 hA, Vq1_pi_j24 hA, Vq1_pl])
            exact v1
          · (try simp only [Vq2_pi_j18 hA, Vq2_pi_j22 hA, Vq2_pi_j30 hA, Vq2_pi_j14 hA, Vq2_pi_j28 hA, Vq2_pi_j24 hA, Vq2_pl])
            exact v2
          · simp only [Vp, mi_pi, mi_pl, hAe, Nat.reduceLT, Nat.reduceEqDiff, false_and, and_false, true_and, and_true, if_false, if_true, p1, p2, p3, p4, true_and, and_self]
            first | exact hq9 | exact ⟨⟨rfl, rfl, rfl, rfl⟩, hq9⟩ | (refine ⟨⟨?_, ?_, ?_, ?_⟩, hq9⟩ <;> first | rfl | trivial)
          · (try simp only [Vl0_pi_j18 hA, Vl0_pi_j22 hA, Vl0_pi_j30 hA, Vl0_pi_j14 hA, Vl0_pi_j28 hA, Vl0_pi_j24 hA, Vl0_pl])
            exact vl0
          · (try simp only [Vl1_pi_j18 hA, Vl1_pi_j22 hA, Vl1_pi_j30 hA, Vl1_pi_j14 hA, Vl1_pi_j28 hA, Vl1_pi_j24 hA, Vl1_pl])
            exact vl1
          · (try simp only [Vlr_pi_j18 hA, Vlr_pi_j22 hA, Vlr_pi_j30 hA, Vlr_pi_j14 hA, Vlr_pi_j28 hA, Vlr_pi_j24 hA, Vlr_pl_j39 hA, Vlr_pl_j4 hA])
            exact vlr
          · refine Vsr_1 (i0 := (1 + g_i h (A 14) 4).toNatClampNeg) (x0 := g_i h (A 24) (11 + 4 * s + f).toNatClampNeg) vsr vsf.2 (fun k => ?_) (fun k => ?_) <;> simp only [mi_pi, mi_pl, ml_pi, ml_pl, hAe, Nat.reduceLT, Nat.reduceEqDiff, false_and, true_and, if_false]
          · refine Vc_of (c := 0) vc (by decide) (fun k => ?_) (fun k => ?_) <;> simp only [mi_pi, mi_pl, hAe, Nat.reduceLT, Nat.reduceEqDiff, false_and, true_and, if_false, pco]
          · (try simp only [Tx_pi_j18 hA, Tx_pi_j22 hA, Tx_pi_j30 hA, Tx_pi_j14 hA, Tx_pi_j28 hA, Tx_pi_j24 hA, Tx_pl])
            exact tx
      · skip
        simp only [o312_0, o312_1, o312_2, o312_3, o312_4, o312_14, o312_16, o312_17, o312_18, o312_20, o312_21, o312_22, o312_24, o312_25, o81_0, o81_1, o81_4, o81_5, o81_8, o81_9, o81_12, o81_13, o81_16, o209_0, o209_1, o209_2, o209_5, o209_8, o209_9, o209_12, o209_13, o209_14, o209_17, o209_20, o209_21, o209_24, o209_25, o209_26, o209_29, o209_32, o209_35, o209_36, o209_37, o209_38, o209_41, hx_312_1, hx_312_2, hx_312_3, c_X5_checkSlot, c_X8_isSlot, c_X8_isThrown, c_X5_checkFourth, c_X8_isFourth, c_X5_checkFilling, mc_pi, mc_pT, mi_pi, mi_pT, ml_pi, ml_pT, mr_pi, mr_pT, mz_pT, mcs_0, mcs_i, mcs_r, Kn_v, Kn_0, Kn_x, mrf_some, true_and, and_true, and_false, or_false, not_true_eq_false, not_false_eq_true, false_implies, forall_const, if_true, if_false, and_self, Nat.reduceLeDiff, Nat.reduceSub, Nat.reduceAdd, Nat.zero_le, Nat.le_refl, i10, Sum.inl.injEq, Option.some.injEq, Value.int.injEq, exists_eq_left', Nat.reduceLT, i20, i30, kc0, kc14, kc22, kc28, kr0_5, kr22_5, kz, p4, f1, f2, pd, s1, s2]
        intro t ht
        first | refine ⟨⟨?_, ?_, ?_, ?_, ?_, ?_, ?_, ?_, ?_, ?_, ?_, ?_⟩, rfl⟩ | refine ⟨?_, ?_, ?_, ?_, ?_, ?_, ?_, ?_, ?_, ?_, ?_, ?_⟩
        · (try simp only [K_pi])
          exact K_pT ht vk
        · (try simp only [Cn_pi_j22 hA, Cn_pT])
          exact vcn
        · (try simp only [Vq0_pi_j22 hA, Vq0_pT])
          exact v0
        · (try simp only [Vq1_pi_j22 hA, Vq1_pT])
          exact v1
        · (try simp only [Vq2_pi_j22 hA, Vq2_pT])
          exact v2
        · (try simp only [Vp_thr hA, Vp_pT])
          exact vp
        · (try simp only [Vl0_pi_j22 hA, Vl0_pT])
          exact vl0
        · (try simp only [Vl1_pi_j22 hA, Vl1_pT])
          exact vl1
        · (try simp only [Vlr_pi_j22 hA, Vlr_pT])
          exact vlr
        · (try simp only [Vsr_pi_j22 hA, Vsr_pT])
          exact vsr
        · (try simp only [Vc_pi_j22 hA, Vc_pT])
          exact vc
        · (try simp only [Tx_pi_j22 hA])
          exact Tx_pT ht tx


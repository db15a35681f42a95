theorem hx_325_2 {l rest : List Value} {bc bs : Nat} {Q : MR → MH → Prop} {h : MH} : Kc Ok 325 3 6 l rest bc bs Q (.inr 2) h ↔ ∀ q : Nat, Ok 325 13 l [.ref q] h bc bs Q := Kc_x (by decide +kernel) (by decide +kernel)
theorem op_putNext {A : Nat → Nat} {h : MH} (R : Rl A h) {v : Int32} : Ok 325 0 [.ref (A 0), .int v, .ref (A 39), mk0] [] h 1 6 (fun r h1 => ∃ k : Int32, r = .inl (some (.int k)) ∧ g_c h1 (A 22) = 9 ∧ Ok 236 0 [.ref (A 22), .int v] [] h1 0 0 (fun r2 h2 => ∃ b : Int32, r2 = .inl (some (.int b)) ∧ Rl A h2 ∧ g_i h2 (A 22) 9 = k ∧ (k = 0 → g_l h2 (A 39) 0 = b.toInt64))) := by
  obtain ⟨vk, vcn, v0, v1, v2, vp, vl0, vl1, vlr, vsr, vc, tx⟩ := R
  have vk0 := vk
  have vcn0 := vcn
  (refine K_el vk0 ?_; intros hA kc0 kc1 kc2 kc3 kc4 kc5 kc6 kc7 kc8 kc9 kc10 kc11 kc12 kc13 kc14 kc15 kc16 kc17 kc18 kc19 kc20 kc21 kc22 kc23 kc24 kc25 kc26 kc27 kc28 kc29 kc30 kc31 kc32 kc33 kc34 kc35 kc36 kc37 kc38 kc39 kz kt kn3 kn4 kn18 kn21 kn23 kn24 kn25 kn26 kn27 kn29 kn30 kr0_0 kr0_1 kr0_2 kr0_3 kr0_4 kr0_5 kr0_7 kr0_8 kr0_9 kr0_10 kr1_0 kr2_0 kr5_0 kr5_1 kr6_0 kr6_1 kr7_0 kr7_1 kr8_0 kr9_0 kr10_0 kr11_0 kr12_0 kr13_0 kr14_0 kr15_0 kr16_0 kr17_0 kr19_0 kr19_1 kr22_0 kr22_1 kr22_2 kr22_3 kr22_4 kr22_5 kr22_7 kr22_8 kr25_0 kr25_1 kr25_2 kr26_0 kr26_1 kr26_2 kr29_0 kr29_1)
  (refine Cn_el vcn0 ?_; intros ki5_2 ki6_2 ki7_2 ki8_1 ki8_2 ki8_3 ki9_1 ki9_2 ki9_3 ki10_1 ki10_2 ki10_3 ki11_1 ki11_2 ki11_3 ki12_1 ki12_2 ki12_3 ki13_1 ki13_2 ki13_3 ki14_1 ki14_2 ki14_3 ki28_0 ki28_1 ki31_0 ki31_1 ki32_0 ki32_1 ki33_0 ki33_1 ki34_0 ki34_1 ki35_0 ki35_1 ki36_0 ki36_1)
  have hAe : ∀ i j, i < 40 → j < 40 → (A i = A j ↔ i = j) := hA
  have hl2 := vl1
  obtain ⟨⟨b1, b2, b3, b4, b5, b6⟩, ln⟩ := hl2
  replace b1 := b1.symm
  replace b2 := b2.symm
  replace b3 := b3.symm
  replace b4 := b4.symm
  replace b5 := b5.symm
  replace b6 := b6.symm
  rw [b1, b2, b3, b4, b5, b6] at ln
  by_cases bv : v < -32768 ∨ 32767 < v
  · have bv2 := sh_bad bv
    simp only [o325_0, o325_1, o325_2, o325_3, o325_13, o325_14, o325_15, o101_0, o101_1, o101_4, o101_5, o101_8, o101_11, o101_14, o101_15, o101_18, o101_19, o101_23, o101_24, o101_27, o236_0, o236_1, o236_2, o236_5, o236_8, o236_9, o236_12, o236_13, o236_16, o236_19, o236_20, o236_21, o236_22, o236_25, o236_26, o236_27, o236_30, o236_33, o236_34, o236_35, o236_39, o236_40, o236_43, o236_44, o236_45, hx_325_2, c_X8_isThrown__, c_X5_checkValue, c_X8_isShort, mc_pi, mc_pT, mn_pi, mn_pT, mi_pi, mi_pT, ml_pi, ml_pT, mr_pi, mr_pT, mz_pT, mcs_0, mcs_r, Kn_v, Kn_0, Kn_x, mrf_some, true_and, and_true, not_true_eq_false, not_false_eq_true, false_implies, forall_const, if_true, if_false, and_self, Nat.reduceEqDiff, Nat.reduceLeDiff, Nat.reduceSub, Nat.reduceAdd, Nat.zero_le, Nat.le_refl, i10, cl1, Sum.inl.injEq, Option.some.injEq, Value.int.injEq, exists_eq_left', Nat.reduceLT, hAe, kc0, kc16, kc17, kc22, kc29, kc38, kn29, kr0_8, kr0_9, kr22_7, kr29_1, kz, bv, bv2]
    intro t ht
    first | refine ⟨⟨?_, ?_, ?_, ?_, ?_, ?_, ?_, ?_, ?_, ?_, ?_, ?_⟩, rfl⟩ | refine ⟨?_, ?_, ?_, ?_, ?_, ?_, ?_, ?_, ?_, ?_, ?_, ?_⟩
    · (try simp only [K_pi])
      exact K_pT ht vk
    · (try simp only [Cn_pi_j22 hA, Cn_pT])
      exact vcn
    · (try simp only [Vq0_pi_j22 hA, Vq0_pT])
      exact v0
    · (try simp only [Vq1_pi_j22 hA, Vq1_pT])
      exact v1
    · (try simp only [Vq2_pi_j22 hA, Vq2_pT])
      exact v2
    · (try simp only [Vp_thr hA, Vp_pT])
      exact vp
    · (try simp only [Vl0_pi_j22 hA, Vl0_pT])
      exact vl0
    · (try simp only [Vl1_pi_j22 hA, Vl1_pT])
      exact vl1
    · (try simp only [Vlr_pi_j22 hA, Vlr_pT])
      exact vlr
    · (try simp only [Vsr_pi_j22 hA, Vsr_pT])
      exact vsr
    · (try simp only [Vc_pi_j22 hA, Vc_pT])
      exact vc
    · (try simp only [Tx_pi_j22 hA])
      exact Tx_pT ht tx
  · have v3 : ¬ v < -32768 := fun z => bv (Or.inl z)
    have v4 : ¬ 32767 < v := fun z => bv (Or.inr z)
    obtain ⟨v5, v6⟩ := sh_rng v3 v4
    have bv2 : (¬ v < -32768 ∧ v < 32768) = True := eq_true ⟨v3, v5⟩
    by_cases s0 : g_i h (A 16) 3 = 0
    · by_cases e0 : g_i h (A 16) 5 - g_i h (A 16) 4 = 0
      · skip
        simp only [o325_0, o325_1, o325_2, o325_3, o325_6, o325_7, o325_10, o325_13, o325_14, o325_15, o325_16, o325_17, o101_0, o101_1, o101_4, o101_5, o101_8, o101_11, o101_14, o101_15, o101_18, o101_19, o101_22, o101_23, o101_24, o101_27, o101_30, o101_33, o101_34, o101_37, o101_38, o101_41, o101_42, o101_43, o101_46, o101_47, o101_50, o101_51, o101_52, o236_0, o236_1, o236_2, o236_5, o236_8, o236_9, o236_12, o236_13, o236_16, o236_19, o236_20, o236_21, o236_22, o236_25, o236_26, o236_27, o236_30, o236_33, o236_34, o236_35, o236_38, o236_39, o236_40, o236_43, o236_44, o236_45, o236_48, o236_51, o236_52, o236_53, o236_56, o236_59, o236_60, o236_61, o236_62, o236_63, o236_66, o236_67, o236_68, o236_78, hx_325_2, c_X8_isThrown__, c_X5_checkValue, c_X8_isShort, c_ref_1 (cs := A 18), c_ref_4 (cs := A 18), c_X8_no (cs := A 30), c_X3_rests, c_X7_rests, mc_pi, mc_pl, mc_pT, mn_pi, mn_pl, mn_pT, mi_pi, mi_pl, mi_pT, ml_pi, ml_pl, ml_pT, mr_pi, mr_pl, mr_pT, mz_pi, mz_pl, mz_pT, mcs_0, mcs_r, Kn_v, Kn_0, Kn_x, mrf_some, true_and, and_true, and_false, or_false, not_true_eq_false, not_false_eq_true, false_implies, implies_true, forall_const, if_true, if_false, and_self, Nat.reduceEqDiff, Nat.reduceLeDiff, Nat.reduceSub, Nat.reduceAdd, Nat.zero_le, Nat.le_refl, i10, i01, Int32.reduceSub, cl1, cl4, Kc_v, Sum.inl.injEq, Option.some.injEq, Value.int.injEq, exists_eq_left', Nat.reduceLT, hAe, kc0, kc16, kc17, kc18, kc22, kc29, kc30, kc38, kc39, kn18, kn29, kn30, kr0_8, kr0_9, kr17_0, kr22_7, kr22_8, kr29_1, kz, b3, b4, b5, be0, v3, v4, v5, v18, cl1, cl4, s0, e0]
        first | refine ⟨⟨?_, ?_, ?_, ?_, ?_, ?_, ?_, ?_, ?_, ?_, ?_, ?_⟩, rfl⟩ | refine ⟨?_, ?_, ?_, ?_, ?_, ?_, ?_, ?_, ?_, ?_, ?_, ?_⟩
        · (try simp only [K_pi, K_pl])
          exact vk
        · (try simp only [Cn_pi_j18 hA, Cn_pi_j22 hA, Cn_pi_j30 hA, Cn_pl])
          exact vcn
        · (try simp only [Vq0_pi_j18 hA, Vq0_pi_j22 hA, Vq0_pi_j30 hA, Vq0_pl])
          exact v0
        · (try simp only [Vq1_pi_j18 hA, Vq1_pi_j22 hA, Vq1_pi_j30 hA, Vq1_pl])
          exact v1
        · (try simp only [Vq2_pi_j18 hA, Vq2_pi_j22 hA, Vq2_pi_j30 hA, Vq2_pl])
          exact v2
        · (try simp only [Vp_pi_j18 hA, Vp_pi_j30 hA, Vp_thr hA, Vp_pl])
          exact vp
        · (try simp only [Vl0_pi_j18 hA, Vl0_pi_j22 hA, Vl0_pi_j30 hA, Vl0_pl])
          exact vl0
        · (try simp only [Vl1_pi_j18 hA, Vl1_pi_j22 hA, Vl1_pi_j30 hA, Vl1_pl])
          exact vl1
        · (try simp only [Vlr_pi_j18 hA, Vlr_pi_j22 hA, Vlr_pi_j30 hA, Vlr_pl_j39 hA])
          exact vlr
        · (try simp only [Vsr_pi_j18 hA, Vsr_pi_j22 hA, Vsr_pi_j30 hA, Vsr_pl_j39 hA])
          exact vsr
        · refine Vc_of (c := 1) vc (by decide) (fun k => ?_) (fun k => ?_) <;> simp only [mi_pi, mi_pl, hAe, Nat.reduceLT, Nat.reduceEqDiff, false_and, true_and, if_false]
        · (try simp only [Tx_pi_j18 hA, Tx_pi_j22 hA, Tx_pi_j30 hA, Tx_pl])
          exact tx
      · obtain ⟨i1, i2, hj, hq9⟩ := lnN (R := 36) ln (by decide) (by decide) (by decide) e0
        have hj2 := hj.2.2
        have vsf := (vsr _ (rdy_lt hj)).1
        by_cases bq : g_i h (A 24) (g_i h (A 16) 1 + g_i h (A 16) 4).toNatClampNeg = v
        all_goals
          simp only [o325_0, o325_1, o325_2, o325_3, o325_6, o325_7, o325_10, o325_13, o325_14, o325_15, o325_16, o325_17, o101_0, o101_1, o101_4, o101_5, o101_8, o101_11, o101_14, o101_15, o101_18, o101_19, o101_23, o101_24, o101_27, o101_30, o101_33, o101_34, o101_37, o101_38, o101_42, o101_43, o101_46, o101_47, o101_50, o101_51, o101_52, o101_55, o101_58, o101_59, o101_62, o101_63, o101_66, o236_0, o236_1, o236_2, o236_5, o236_8, o236_9, o236_12, o236_13, o236_16, o236_19, o236_20, o236_21, o236_22, o236_25, o236_26, o236_27, o236_30, o236_33, o236_34, o236_35, o236_39, o236_40, o236_43, o236_44, o236_45, o236_48, o236_51, o236_52, o236_53, o236_59, o236_60, o236_61, o236_62, o236_63, o236_66, o236_67, o236_68, o236_71, o236_72, o236_75, o236_78, hx_325_2, c_X8_isThrown__, c_X5_checkValue, c_X8_isShort, c_X3_rests, c_X7_rests, c_X3_writeNext (rw := A 2) (cs := A 4) (n := 36), c_X8_next, c_X8_writeShort (sr := A 24), c_X0_done (cs := A 18), c_X8_done (cs := A 30), mc_pi, mc_pl, mc_pT, mn_pi, mn_pl, mn_pT, mi_pi, mi_pl, mi_pT, ml_pi, ml_pl, ml_pT, mr_pi, mr_pl, mr_pT, mz_pi, mz_pl, mz_pT, mcs_0, mcs_r, Kn_v, Kn_0, Kn_x, mrf_some, true_and, and_true, false_and, and_false, or_false, not_true_eq_false, not_false_eq_true, false_implies, implies_true, forall_const, if_true, if_false, and_self, Nat.reduceEqDiff, Nat.reduceLeDiff, Nat.reduceSub, Nat.reduceAdd, Nat.zero_le, Nat.le_refl, i10, i01, cl1, Kc_v, Sum.inl.injEq, Option.some.injEq, Value.int.injEq, exists_eq_left', Nat.reduceLT, hAe, kc0, kc2, kc4, kc16, kc17, kc18, kc22, kc24, kc29, kc30, kc38, kc39, kn4, kn18, kn24, kn29, kn30, kr0_8, kr0_9, kr2_0, kr16_0, kr17_0, kr22_1, kr22_7, kr22_8, kr29_1, kz, b1, b3, b4, b5, lnxt, be0, v3, v4, v5, cl1, s0, e0, i1, i2, hj, hj2, vsf, i64_inj, bq]
          first | refine ⟨⟨?_, ?_, ?_, ?_, ?_, ?_, ?_, ?_, ?_, ?_, ?_, ?_⟩, rfl⟩ | refine ⟨?_, ?_, ?_, ?_, ?_, ?_, ?_, ?_, ?_, ?_, ?_, ?_⟩
          · (try simp only [K_pi, K_pl])
            exact vk
          · (try simp only [Cn_pi_j18 hA, Cn_pi_j22 hA, Cn_pi_j30 hA, Cn_pi_j16 hA, Cn_pi_j38 hA, Cn_pi_j24 hA, Cn_pl])
            exact vcn
          · (try simp only [Vq0_pi_j18 hA, Vq0_pi_j22 hA, Vq0_pi_j30 hA, Vq0_pi_j16 hA, Vq0_pi_j38 hA, Vq0_pi_j24 hA, Vq0_pl])
            exact v0
          · (try simp only [Vq1_pi_j18 hA, Vq1_pi_j22 hA, Vq1_pi_j30 hA, Vq1_pi_j16 hA, Vq1_pi_j38 hA, Vq1_pi_j24 hA, Vq1_pl])
            exact v1
          · (try simp only [Vq2_pi_j18 hA, Vq2_pi_j22 hA, Vq2_pi_j30 hA, Vq2_pi_j16 hA, Vq2_pi_j38 hA, Vq2_pi_j24 hA, Vq2_pl])
            exact v2
          · (try simp only [Vp_pi_j18 hA, Vp_pi_j30 hA, Vp_pi_j16 hA, Vp_pi_j38 hA, Vp_pi_j24 hA, Vp_thr hA, Vp_pl])
            exact vp
          · (try simp only [Vl0_pi_j18 hA, Vl0_pi_j22 hA, Vl0_pi_j30 hA, Vl0_pi_j16 hA, Vl0_pi_j38 hA, Vl0_pi_j24 hA, Vl0_pl])
            exact vl0
          · simp only [Vl1, mi_pi, mi_pl, hAe, Nat.reduceLT, Nat.reduceEqDiff, false_and, and_false, true_and, and_true, if_false, if_true, b1, b2, b3, b4, b5, b6, true_and, and_self]
            first | exact hq9 | exact ⟨⟨rfl, rfl, rfl, rfl, rfl, rfl⟩, hq9⟩ | (refine ⟨⟨?_, ?_, ?_, ?_, ?_, ?_⟩, hq9⟩ <;> first | rfl | trivial)
          · (try simp only [Vlr_pi_j18 hA, Vlr_pi_j22 hA, Vlr_pi_j30 hA, Vlr_pi_j16 hA, Vlr_pi_j38 hA, Vlr_pi_j24 hA, Vlr_pl_j39 hA, Vlr_pl_j4 hA])
            exact vlr
          · refine Vsr_1 (i0 := (g_i h (A 16) 1 + g_i h (A 16) 4).toNatClampNeg) vsr v6 (fun k => ?_) (fun k => ?_) <;> simp only [mi_pi, mi_pl, ml_pi, ml_pl, hAe, Nat.reduceLT, Nat.reduceEqDiff, false_and, true_and, if_false]
          · refine Vc_of (c := 0) vc (by decide) (fun k => ?_) (fun k => ?_) <;> simp only [mi_pi, mi_pl, hAe, Nat.reduceLT, Nat.reduceEqDiff, false_and, true_and, if_false]
          · (try simp only [Tx_pi_j18 hA, Tx_pi_j22 hA, Tx_pi_j30 hA, Tx_pi_j16 hA, Tx_pi_j38 hA, Tx_pi_j24 hA, Tx_pl])
            exact tx
    · skip
      simp only [o325_0, o325_1, o325_2, o325_3, o325_6, o325_7, o325_10, o325_13, o325_14, o325_15, o325_16, o325_17, o101_0, o101_1, o101_4, o101_5, o101_8, o101_11, o101_14, o101_15, o101_18, o101_19, o101_22, o101_23, o101_24, o101_27, o101_30, o101_33, o101_34, o101_37, o101_38, o101_41, o101_42, o101_43, o101_46, o101_47, o101_50, o101_51, o101_52, o236_0, o236_1, o236_2, o236_5, o236_8, o236_9, o236_12, o236_13, o236_16, o236_19, o236_20, o236_21, o236_22, o236_25, o236_26, o236_27, o236_30, o236_33, o236_34, o236_35, o236_38, o236_39, o236_40, o236_43, o236_44, o236_45, o236_48, o236_51, o236_52, o236_53, o236_56, o236_59, o236_60, o236_61, o236_62, o236_63, o236_66, o236_67, o236_68, o236_78, hx_325_2, c_X8_isThrown__, c_X5_checkValue, c_X8_isShort, c_ref_1 (cs := A 18), c_ref_4 (cs := A 18), c_X8_no (cs := A 30), c_X3_rests, c_X7_rests, mc_pi, mc_pl, mc_pT, mn_pi, mn_pl, mn_pT, mi_pi, mi_pl, mi_pT, ml_pi, ml_pl, ml_pT, mr_pi, mr_pl, mr_pT, mz_pi, mz_pl, mz_pT, mcs_0, mcs_r, Kn_v, Kn_0, Kn_x, mrf_some, true_and, and_true, and_false, or_false, not_true_eq_false, not_false_eq_true, false_implies, implies_true, forall_const, if_true, if_false, and_self, Nat.reduceEqDiff, Nat.reduceLeDiff, Nat.reduceSub, Nat.reduceAdd, Nat.zero_le, Nat.le_refl, i10, i01, Int32.reduceSub, cl1, cl4, Kc_v, Sum.inl.injEq, Option.some.injEq, Value.int.injEq, exists_eq_left', Nat.reduceLT, hAe, kc0, kc16, kc17, kc18, kc22, kc29, kc30, kc38, kc39, kn18, kn29, kn30, kr0_8, kr0_9, kr17_0, kr22_7, kr22_8, kr29_1, kz, b3, b4, b5, be0, v3, v4, v5, v18, cl1, cl4, s0]
      first | refine ⟨⟨?_, ?_, ?_, ?_, ?_, ?_, ?_, ?_, ?_, ?_, ?_, ?_⟩, rfl⟩ | refine ⟨?_, ?_, ?_, ?_, ?_, ?_, ?_, ?_, ?_, ?_, ?_, ?_⟩
      · (try simp only [K_pi, K_pl])
        exact vk
      · (try simp only [Cn_pi_j18 hA, Cn_pi_j22 hA, Cn_pi_j30 hA, Cn_pl])
        exact vcn
      · (try simp only [Vq0_pi_j18 hA, Vq0_pi_j22 hA, Vq0_pi_j30 hA, Vq0_pl])
        exact v0
      · (try simp only [Vq1_pi_j18 hA, Vq1_pi_j22 hA, Vq1_pi_j30 hA, Vq1_pl])
        exact v1
      · (try simp only [Vq2_pi_j18 hA, Vq2_pi_j22 hA, Vq2_pi_j30 hA, Vq2_pl])
        exact v2
      · (try simp only [Vp_pi_j18 hA, Vp_pi_j30 hA, Vp_thr hA, Vp_pl])
        exact vp
      · (try simp only [Vl0_pi_j18 hA, Vl0_pi_j22 hA, Vl0_pi_j30 hA, Vl0_pl])
        exact vl0
      · (try simp only [Vl1_pi_j18 hA, Vl1_pi_j22 hA, Vl1_pi_j30 hA, Vl1_pl])
        exact vl1
      · (try simp only [Vlr_pi_j18 hA, Vlr_pi_j22 hA, Vlr_pi_j30 hA, Vlr_pl_j39 hA])
        exact vlr
      · (try simp only [Vsr_pi_j18 hA, Vsr_pi_j22 hA, Vsr_pi_j30 hA, Vsr_pl_j39 hA])
        exact vsr
      · refine Vc_of (c := 4) vc (by decide) (fun k => ?_) (fun k => ?_) <;> simp only [mi_pi, mi_pl, hAe, Nat.reduceLT, Nat.reduceEqDiff, false_and, true_and, if_false]
      · (try simp only [Tx_pi_j18 hA, Tx_pi_j22 hA, Tx_pi_j30 hA, Tx_pl])
        exact tx

theorem hx_326_2 {l rest : List Value} {bc bs : Nat} {Q : MR → MH → Prop} {h : MH} : Kc Ok 326 4 7 l rest bc bs Q (.inr 2) h ↔ ∀ q : Nat, Ok 326 14 l [.ref q] h bc bs Q := Kc_x (by decide +kernel) (by decide +kernel)
theorem op_putAt {A : Nat → Nat} {h : MH} (R : Rl A h) {e v : Int32} : Ok 326 0 [.ref (A 0), .int e, .int v, .ref (A 39), mk0] [] h 1 6 (fun r h1 => ∃ k : Int32, r = .inl (some (.int k)) ∧ g_c h1 (A 22) = 9 ∧ Ok 237 0 [.ref (A 22), .int e, .int v] [] h1 0 0 (fun r2 h2 => ∃ b : Int32, r2 = .inl (some (.int b)) ∧ Rl A h2 ∧ g_i h2 (A 22) 9 = k ∧ (k = 0 → g_l h2 (A 39) 0 = b.toInt64))) := by
  obtain ⟨vk, vcn, v0, v1, v2, vp, vl0, vl1, vlr, vsr, vc, tx⟩ := R
  have vk0 := vk
  have vcn0 := vcn
  (refine K_el vk0 ?_; intros hA kc0 kc1 kc2 kc3 kc4 kc5 kc6 kc7 kc8 kc9 kc10 kc11 kc12 kc13 kc14 kc15 kc16 kc17 kc18 kc19 kc20 kc21 kc22 kc23 kc24 kc25 kc26 kc27 kc28 kc29 kc30 kc31 kc32 kc33 kc34 kc35 kc36 kc37 kc38 kc39 kz kt kn3 kn4 kn18 kn21 kn23 kn24 kn25 kn26 kn27 kn29 kn30 kr0_0 kr0_1 kr0_2 kr0_3 kr0_4 kr0_5 kr0_7 kr0_8 kr0_9 kr0_10 kr1_0 kr2_0 kr5_0 kr5_1 kr6_0 kr6_1 kr7_0 kr7_1 kr8_0 kr9_0 kr10_0 kr11_0 kr12_0 kr13_0 kr14_0 kr15_0 kr16_0 kr17_0 kr19_0 kr19_1 kr22_0 kr22_1 kr22_2 kr22_3 kr22_4 kr22_5 kr22_7 kr22_8 kr25_0 kr25_1 kr25_2 kr26_0 kr26_1 kr26_2 kr29_0 kr29_1)
  (refine Cn_el vcn0 ?_; intros ki5_2 ki6_2 ki7_2 ki8_1 ki8_2 ki8_3 ki9_1 ki9_2 ki9_3 ki10_1 ki10_2 ki10_3 ki11_1 ki11_2 ki11_3 ki12_1 ki12_2 ki12_3 ki13_1 ki13_2 ki13_3 ki14_1 ki14_2 ki14_3 ki28_0 ki28_1 ki31_0 ki31_1 ki32_0 ki32_1 ki33_0 ki33_1 ki34_0 ki34_1 ki35_0 ki35_1 ki36_0 ki36_1)
  have hAe : ∀ i j, i < 40 → j < 40 → (A i = A j ↔ i = j) := hA
  have hl2 := vl1
  obtain ⟨⟨b1, b2, b3, b4, b5, b6⟩, ln⟩ := hl2
  replace b1 := b1.symm
  replace b2 := b2.symm
  replace b3 := b3.symm
  replace b4 := b4.symm
  replace b5 := b5.symm
  replace b6 := b6.symm
  rw [b1, b2, b3, b4, b5, b6] at ln
  by_cases bv : v < -32768 ∨ 32767 < v
  · have bv2 := sh_bad bv
    simp only [o326_0, o326_1, o326_2, o326_3, o326_4, o326_14, o326_16, o326_17, o102_0, o102_1, o102_4, o102_5, o102_8, o102_9, o102_10, o102_13, o102_16, o102_19, o102_20, o102_23, o102_24, o102_28, o102_29, o102_32, o102_35, o102_38, o102_39, o102_42, o102_43, o102_47, o102_48, o102_51, o102_52, o102_55, o102_56, o102_57, o102_58, o237_0, o237_1, o237_2, o237_5, o237_8, o237_9, o237_12, o237_13, o237_16, o237_19, o237_20, o237_21, o237_22, o237_25, o237_26, o237_27, o237_28, o237_31, o237_34, o237_35, o237_36, o237_40, o237_41, o237_44, o237_45, o237_46, o237_49, o237_52, o237_53, o237_54, o237_60, o237_61, o237_62, o237_63, o237_66, o237_67, o237_68, o237_71, o237_72, o237_73, o237_74, hx_326_2, c_X8_isThrown__, c_X5_checkValue, c_X8_isShort, c_X8_isBeyond, mc_pi, mc_pT, mn_pi, mn_pT, mi_pi, mi_pT, ml_pi, ml_pT, mr_pi, mr_pT, mz_pT, mcs_0, mcs_r, Kn_v, Kn_0, Kn_x, mrf_some, true_and, and_true, not_true_eq_false, not_false_eq_true, false_implies, forall_const, if_true, if_false, and_self, Nat.reduceEqDiff, Nat.reduceLeDiff, Nat.reduceSub, Nat.reduceAdd, Nat.zero_le, Nat.le_refl, i10, cl1, Sum.inl.injEq, Option.some.injEq, Value.int.injEq, exists_eq_left', Nat.reduceLT, hAe, kc0, kc16, kc17, kc22, kc29, kc38, kn29, kr0_8, kr0_9, kr22_7, kr29_1, kz, bv, bv2]
    intro t ht
    first | refine ⟨⟨?_, ?_, ?_, ?_, ?_, ?_, ?_, ?_, ?_, ?_, ?_, ?_⟩, rfl⟩ | refine ⟨?_, ?_, ?_, ?_, ?_, ?_, ?_, ?_, ?_, ?_, ?_, ?_⟩
    · (try simp only [K_pi])
      exact K_pT ht vk
    · (try simp only [Cn_pi_j22 hA, Cn_pT])
      exact vcn
    · (try simp only [Vq0_pi_j22 hA, Vq0_pT])
      exact v0
    · (try simp only [Vq1_pi_j22 hA, Vq1_pT])
      exact v1
    · (try simp only [Vq2_pi_j22 hA, Vq2_pT])
      exact v2
    · (try simp only [Vp_thr hA, Vp_pT])
      exact vp
    · (try simp only [Vl0_pi_j22 hA, Vl0_pT])
      exact vl0
    · (try simp only [Vl1_pi_j22 hA, Vl1_pT])
      exact vl1
    · (try simp only [Vlr_pi_j22 hA, Vlr_pT])
      exact vlr
    · (try simp only [Vsr_pi_j22 hA, Vsr_pT])
      exact vsr
    · (try simp only [Vc_pi_j22 hA, Vc_pT])
      exact vc
    · (try simp only [Tx_pi_j22 hA])
      exact Tx_pT ht tx
  · have v3 : ¬ v < -32768 := fun z => bv (Or.inl z)
    have v4 : ¬ 32767 < v := fun z => bv (Or.inr z)
    obtain ⟨v5, v6⟩ := sh_rng v3 v4
    have bv2 : (¬ v < -32768 ∧ v < 32768) = True := eq_true ⟨v3, v5⟩
    by_cases x0 : e < 0
    · skip
      simp only [o326_0, o326_1, o326_2, o326_3, o326_4, o326_7, o326_8, o326_11, o326_14, o326_16, o326_17, o326_18, o326_19, o102_0, o102_1, o102_4, o102_5, o102_8, o102_9, o102_10, o102_13, o102_16, o102_19, o102_20, o102_23, o102_24, o102_27, o102_28, o102_29, o102_32, o102_35, o102_38, o102_39, o102_42, o102_43, o102_46, o102_47, o102_48, o102_51, o102_52, o102_55, o102_56, o102_57, o102_58, o237_0, o237_1, o237_2, o237_5, o237_8, o237_9, o237_12, o237_13, o237_16, o237_19, o237_20, o237_21, o237_22, o237_25, o237_26, o237_27, o237_28, o237_31, o237_34, o237_35, o237_36, o237_39, o237_40, o237_41, o237_44, o237_45, o237_46, o237_49, o237_52, o237_53, o237_54, o237_57, o237_60, o237_61, o237_62, o237_63, o237_66, o237_67, o237_68, o237_71, o237_72, o237_73, o237_74, o237_80, hx_326_2, c_X8_isThrown__, c_X5_checkValue, c_X8_isShort, c_X8_isBeyond, c_ref_4 (cs := A 18), c_ref_5 (cs := A 18), c_X8_no (cs := A 30), mc_pi, mc_pl, mc_pT, mn_pi, mn_pl, mn_pT, mi_pi, mi_pl, mi_pT, ml_pi, ml_pl, ml_pT, mr_pi, mr_pl, mr_pT, mz_pi, mz_pl, mz_pT, mcs_0, mcs_r, Kn_v, Kn_0, Kn_x, mrf_some, true_and, and_true, and_false, true_or, or_false, not_true_eq_false, not_false_eq_true, false_implies, implies_true, forall_const, if_true, if_false, and_self, Nat.reduceEqDiff, Nat.reduceLeDiff, Nat.reduceSub, Nat.reduceAdd, Nat.zero_le, Nat.le_refl, i10, i01, Int32.reduceSub, cl1, cl4, cl5, Kc_v, Sum.inl.injEq, Option.some.injEq, Value.int.injEq, exists_eq_left', Nat.reduceLT, hAe, kc0, kc16, kc17, kc18, kc22, kc29, kc30, kc38, kc39, kn18, kn29, kn30, kr0_8, kr0_9, kr17_0, kr22_7, kr22_8, kr29_1, kz, b1, b3, b5, be0, v3, v4, v5, v18, cl1, cl4, cl5, x0]
      first | refine ⟨⟨?_, ?_, ?_, ?_, ?_, ?_, ?_, ?_, ?_, ?_, ?_, ?_⟩, rfl⟩ | refine ⟨?_, ?_, ?_, ?_, ?_, ?_, ?_, ?_, ?_, ?_, ?_, ?_⟩
      · (try simp only [K_pi, K_pl])
        exact vk
      · (try simp only [Cn_pi_j18 hA, Cn_pi_j22 hA, Cn_pi_j30 hA, Cn_pl])
        exact vcn
      · (try simp only [Vq0_pi_j18 hA, Vq0_pi_j22 hA, Vq0_pi_j30 hA, Vq0_pl])
        exact v0
      · (try simp only [Vq1_pi_j18 hA, Vq1_pi_j22 hA, Vq1_pi_j30 hA, Vq1_pl])
        exact v1
      · (try simp only [Vq2_pi_j18 hA, Vq2_pi_j22 hA, Vq2_pi_j30 hA, Vq2_pl])
        exact v2
      · (try simp only [Vp_pi_j18 hA, Vp_pi_j30 hA, Vp_thr hA, Vp_pl])
        exact vp
      · (try simp only [Vl0_pi_j18 hA, Vl0_pi_j22 hA, Vl0_pi_j30 hA, Vl0_pl])
        exact vl0
      · (try simp only [Vl1_pi_j18 hA, Vl1_pi_j22 hA, Vl1_pi_j30 hA, Vl1_pl])
        exact vl1
      · (try simp only [Vlr_pi_j18 hA, Vlr_pi_j22 hA, Vlr_pi_j30 hA, Vlr_pl_j39 hA])
        exact vlr
      · (try simp only [Vsr_pi_j18 hA, Vsr_pi_j22 hA, Vsr_pi_j30 hA, Vsr_pl_j39 hA])
        exact vsr
      · refine Vc_of (c := 5) vc (by decide) (fun k => ?_) (fun k => ?_) <;> simp only [mi_pi, mi_pl, hAe, Nat.reduceLT, Nat.reduceEqDiff, false_and, true_and, if_false]
      · (try simp only [Tx_pi_j18 hA, Tx_pi_j22 hA, Tx_pi_j30 hA, Tx_pl])
        exact tx
    · by_cases x1 : e < g_i h (A 16) 5
      · by_cases s0 : g_i h (A 16) 3 = 0
        · obtain ⟨i2, hj⟩ := lnA (R := 36) ln (by decide) (by decide) (by decide) x0 x1
          have hj2 := hj.2.2
          have vsf := (vsr _ (rdy_lt hj)).1
          by_cases bq : g_i h (A 24) (g_i h (A 16) 1 + e).toNatClampNeg = v
          all_goals
            simp only [o326_0, o326_1, o326_2, o326_3, o326_4, o326_7, o326_8, o326_11, o326_14, o326_16, o326_17, o326_18, o326_19, o102_0, o102_1, o102_4, o102_5, o102_8, o102_9, o102_10, o102_13, o102_16, o102_19, o102_20, o102_23, o102_24, o102_28, o102_29, o102_32, o102_35, o102_38, o102_39, o102_42, o102_43, o102_47, o102_48, o102_51, o102_52, o102_55, o102_56, o102_57, o102_58, o102_61, o102_64, o102_65, o102_68, o102_69, o102_72, o237_0, o237_1, o237_2, o237_5, o237_8, o237_9, o237_12, o237_13, o237_16, o237_19, o237_20, o237_21, o237_22, o237_25, o237_26, o237_27, o237_28, o237_31, o237_34, o237_35, o237_36, o237_40, o237_41, o237_44, o237_45, o237_46, o237_49, o237_52, o237_53, o237_54, o237_60, o237_61, o237_62, o237_63, o237_66, o237_67, o237_68, o237_71, o237_72, o237_73, o237_74, o237_77, o237_80, hx_326_2, c_X8_isThrown__, c_X5_checkValue, c_X8_isShort, c_X8_isBeyond, c_X3_writeAt (rw := A 2) (cs := A 4) (n := 36), c_X8_writeShort (sr := A 24), c_X0_done (cs := A 18), c_X8_done (cs := A 30), mc_pi, mc_pl, mc_pT, mn_pi, mn_pl, mn_pT, mi_pi, mi_pl, mi_pT, ml_pi, ml_pl, ml_pT, mr_pi, mr_pl, mr_pT, mz_pi, mz_pl, mz_pT, mcs_0, mcs_r, Kn_v, Kn_0, Kn_x, mrf_some, true_and, and_true, false_and, and_false, or_false, not_true_eq_false, not_false_eq_true, false_implies, implies_true, forall_const, if_true, if_false, and_self, Nat.reduceEqDiff, Nat.reduceLeDiff, Nat.reduceSub, Nat.reduceAdd, Nat.zero_le, Nat.le_refl, i10, i01, cl1, Kc_v, Sum.inl.injEq, Option.some.injEq, Value.int.injEq, exists_eq_left', Nat.reduceLT, hAe, kc0, kc2, kc4, kc16, kc17, kc18, kc22, kc24, kc29, kc30, kc38, kc39, kn4, kn18, kn24, kn29, kn30, kr0_8, kr0_9, kr2_0, kr16_0, kr17_0, kr22_1, kr22_7, kr22_8, kr29_1, kz, b1, b3, b5, be0, v3, v4, v5, cl1, s0, x0, x1, i2, hj, hj2, vsf, i64_inj, bq]
            first | refine ⟨⟨?_, ?_, ?_, ?_, ?_, ?_, ?_, ?_, ?_, ?_, ?_, ?_⟩, rfl⟩ | refine ⟨?_, ?_, ?_, ?_, ?_, ?_, ?_, ?_, ?_, ?_, ?_, ?_⟩
            · (try simp only [K_pi, K_pl])
              exact vk
            · (try simp only [Cn_pi_j18 hA, Cn_pi_j22 hA, Cn_pi_j30 hA, Cn_pi_j24 hA, Cn_pl])
              exact vcn
            · (try simp only [Vq0_pi_j18 hA, Vq0_pi_j22 hA, Vq0_pi_j30 hA, Vq0_pi_j24 hA, Vq0_pl])
              exact v0
            · (try simp only [Vq1_pi_j18 hA, Vq1_pi_j22 hA, Vq1_pi_j30 hA, Vq1_pi_j24 hA, Vq1_pl])
              exact v1
            · (try simp only [Vq2_pi_j18 hA, Vq2_pi_j22 hA, Vq2_pi_j30 hA, Vq2_pi_j24 hA, Vq2_pl])
              exact v2
            · (try simp only [Vp_pi_j18 hA, Vp_pi_j30 hA, Vp_pi_j24 hA, Vp_thr hA, Vp_pl])
              exact vp
            · (try simp only [Vl0_pi_j18 hA, Vl0_pi_j22 hA, Vl0_pi_j30 hA, Vl0_pi_j24 hA, Vl0_pl])
              exact vl0
            · (try simp only [Vl1_pi_j18 hA, Vl1_pi_j22 hA, Vl1_pi_j30 hA, Vl1_pi_j24 hA, Vl1_pl])
              exact vl1
            · (try simp only [Vlr_pi_j18 hA, Vlr_pi_j22 hA, Vlr_pi_j30 hA, Vlr_pi_j24 hA, Vlr_pl_j39 hA, Vlr_pl_j4 hA])
              exact vlr
            · refine Vsr_1 (i0 := (g_i h (A 16) 1 + e).toNatClampNeg) vsr v6 (fun k => ?_) (fun k => ?_) <;> simp only [mi_pi, mi_pl, ml_pi, ml_pl, hAe, Nat.reduceLT, Nat.reduceEqDiff, false_and, true_and, if_false]
            · refine Vc_of (c := 0) vc (by decide) (fun k => ?_) (fun k => ?_) <;> simp only [mi_pi, mi_pl, hAe, Nat.reduceLT, Nat.reduceEqDiff, false_and, true_and, if_false]
            · (try simp only [Tx_pi_j18 hA, Tx_pi_j22 hA, Tx_pi_j30 hA, Tx_pi_j24 hA, Tx_pl])
              exact tx
        · skip
          simp only [o326_0, o326_1, o326_2, o326_3, o326_4, o326_7, o326_8, o326_11, o326_14, o326_16, o326_17, o326_18, o326_19, o102_0, o102_1, o102_4, o102_5, o102_8, o102_9, o102_10, o102_13, o102_16, o102_19, o102_20, o102_23, o102_24, o102_27, o102_28, o102_29, o102_32, o102_35, o102_38, o102_39, o102_42, o102_43, o102_46, o102_47, o102_48, o102_51, o102_52, o102_55, o102_56, o102_57, o102_58, o237_0, o237_1, o237_2, o237_5, o237_8, o237_9, o237_12, o237_13, o237_16, o237_19, o237_20, o237_21, o237_22, o237_25, o237_26, o237_27, o237_28, o237_31, o237_34, o237_35, o237_36, o237_39, o237_40, o237_41, o237_44, o237_45, o237_46, o237_49, o237_52, o237_53, o237_54, o237_57, o237_60, o237_61, o237_62, o237_63, o237_66, o237_67, o237_68, o237_71, o237_72, o237_73, o237_74, o237_80, hx_326_2, c_X8_isThrown__, c_X5_checkValue, c_X8_isShort, c_X8_isBeyond, c_ref_4 (cs := A 18), c_ref_5 (cs := A 18), c_X8_no (cs := A 30), mc_pi, mc_pl, mc_pT, mn_pi, mn_pl, mn_pT, mi_pi, mi_pl, mi_pT, ml_pi, ml_pl, ml_pT, mr_pi, mr_pl, mr_pT, mz_pi, mz_pl, mz_pT, mcs_0, mcs_r, Kn_v, Kn_0, Kn_x, mrf_some, true_and, and_true, and_false, or_false, not_true_eq_false, not_false_eq_true, false_implies, implies_true, forall_const, if_true, if_false, and_self, Nat.reduceEqDiff, Nat.reduceLeDiff, Nat.reduceSub, Nat.reduceAdd, Nat.zero_le, Nat.le_refl, i10, i01, Int32.reduceSub, cl1, cl4, cl5, Kc_v, Sum.inl.injEq, Option.some.injEq, Value.int.injEq, exists_eq_left', Nat.reduceLT, hAe, kc0, kc16, kc17, kc18, kc22, kc29, kc30, kc38, kc39, kn18, kn29, kn30, kr0_8, kr0_9, kr17_0, kr22_7, kr22_8, kr29_1, kz, b1, b3, b5, be0, v3, v4, v5, v18, cl1, cl4, cl5, s0, x0, x1]
          first | refine ⟨⟨?_, ?_, ?_, ?_, ?_, ?_, ?_, ?_, ?_, ?_, ?_, ?_⟩, rfl⟩ | refine ⟨?_, ?_, ?_, ?_, ?_, ?_, ?_, ?_, ?_, ?_, ?_, ?_⟩
          · (try simp only [K_pi, K_pl])
            exact vk
          · (try simp only [Cn_pi_j18 hA, Cn_pi_j22 hA, Cn_pi_j30 hA, Cn_pl])
            exact vcn
          · (try simp only [Vq0_pi_j18 hA, Vq0_pi_j22 hA, Vq0_pi_j30 hA, Vq0_pl])
            exact v0
          · (try simp only [Vq1_pi_j18 hA, Vq1_pi_j22 hA, Vq1_pi_j30 hA, Vq1_pl])
            exact v1
          · (try simp only [Vq2_pi_j18 hA, Vq2_pi_j22 hA, Vq2_pi_j30 hA, Vq2_pl])
            exact v2
          · (try simp only [Vp_pi_j18 hA, Vp_pi_j30 hA, Vp_thr hA, Vp_pl])
            exact vp
          · (try simp only [Vl0_pi_j18 hA, Vl0_pi_j22 hA, Vl0_pi_j30 hA, Vl0_pl])
            exact vl0
          · (try simp only [Vl1_pi_j18 hA, Vl1_pi_j22 hA, Vl1_pi_j30 hA, Vl1_pl])
            exact vl1
          · (try simp only [Vlr_pi_j18 hA, Vlr_pi_j22 hA, Vlr_pi_j30 hA, Vlr_pl_j39 hA])
            exact vlr
          · (try simp only [Vsr_pi_j18 hA, Vsr_pi_j22 hA, Vsr_pi_j30 hA, Vsr_pl_j39 hA])
            exact vsr
          · refine Vc_of (c := 4) vc (by decide) (fun k => ?_) (fun k => ?_) <;> simp only [mi_pi, mi_pl, hAe, Nat.reduceLT, Nat.reduceEqDiff, false_and, true_and, if_false]
          · (try simp only [Tx_pi_j18 hA, Tx_pi_j22 hA, Tx_pi_j30 hA, Tx_pl])
            exact tx
      · skip
        simp only [o326_0, o326_1, o326_2, o326_3, o326_4, o326_7, o326_8, o326_11, o326_14, o326_16, o326_17, o326_18, o326_19, o102_0, o102_1, o102_4, o102_5, o102_8, o102_9, o102_10, o102_13, o102_16, o102_19, o102_20, o102_23, o102_24, o102_27, o102_28, o102_29, o102_32, o102_35, o102_38, o102_39, o102_42, o102_43, o102_46, o102_47, o102_48, o102_51, o102_52, o102_55, o102_56, o102_57, o102_58, o237_0, o237_1, o237_2, o237_5, o237_8, o237_9, o237_12, o237_13, o237_16, o237_19, o237_20, o237_21, o237_22, o237_25, o237_26, o237_27, o237_28, o237_31, o237_34, o237_35, o237_36, o237_39, o237_40, o237_41, o237_44, o237_45, o237_46, o237_49, o237_52, o237_53, o237_54, o237_57, o237_60, o237_61, o237_62, o237_63, o237_66, o237_67, o237_68, o237_71, o237_72, o237_73, o237_74, o237_80, hx_326_2, c_X8_isThrown__, c_X5_checkValue, c_X8_isShort, c_X8_isBeyond, c_ref_4 (cs := A 18), c_ref_5 (cs := A 18), c_X8_no (cs := A 30), mc_pi, mc_pl, mc_pT, mn_pi, mn_pl, mn_pT, mi_pi, mi_pl, mi_pT, ml_pi, ml_pl, ml_pT, mr_pi, mr_pl, mr_pT, mz_pi, mz_pl, mz_pT, mcs_0, mcs_r, Kn_v, Kn_0, Kn_x, mrf_some, true_and, and_true, and_false, or_true, or_false, not_true_eq_false, not_false_eq_true, false_implies, implies_true, forall_const, if_true, if_false, and_self, Nat.reduceEqDiff, Nat.reduceLeDiff, Nat.reduceSub, Nat.reduceAdd, Nat.zero_le, Nat.le_refl, i10, i01, Int32.reduceSub, cl1, cl4, cl5, Kc_v, Sum.inl.injEq, Option.some.injEq, Value.int.injEq, exists_eq_left', Nat.reduceLT, hAe, kc0, kc16, kc17, kc18, kc22, kc29, kc30, kc38, kc39, kn18, kn29, kn30, kr0_8, kr0_9, kr17_0, kr22_7, kr22_8, kr29_1, kz, b1, b3, b5, be0, v3, v4, v5, v18, cl1, cl4, cl5, x0, x1]
        first | refine ⟨⟨?_, ?_, ?_, ?_, ?_, ?_, ?_, ?_, ?_, ?_, ?_, ?_⟩, rfl⟩ | refine ⟨?_, ?_, ?_, ?_, ?_, ?_, ?_, ?_, ?_, ?_, ?_, ?_⟩
        · (try simp only [K_pi, K_pl])
          exact vk
        · (try simp only [Cn_pi_j18 hA, Cn_pi_j22 hA, Cn_pi_j30 hA, Cn_pl])
          exact vcn
        · (try simp only [Vq0_pi_j18 hA, Vq0_pi_j22 hA, Vq0_pi_j30 hA, Vq0_pl])
          exact v0
        · (try simp only [Vq1_pi_j18 hA, Vq1_pi_j22 hA, Vq1_pi_j30 hA, Vq1_pl])
          exact v1
        · (try simp only [Vq2_pi_j18 hA, Vq2_pi_j22 hA, Vq2_pi_j30 hA, Vq2_pl])
          exact v2
        · (try simp only [Vp_pi_j18 hA, Vp_pi_j30 hA, Vp_thr hA, Vp_pl])
          exact vp
        · (try simp only [Vl0_pi_j18 hA, Vl0_pi_j22 hA, Vl0_pi_j30 hA, Vl0_pl])
          exact vl0
        · (try simp only [Vl1_pi_j18 hA, Vl1_pi_j22 hA, Vl1_pi_j30 hA, Vl1_pl])
          exact vl1
        · (try simp only [Vlr_pi_j18 hA, Vlr_pi_j22 hA, Vlr_pi_j30 hA, Vlr_pl_j39 hA])
          exact vlr
        · (try simp only [Vsr_pi_j18 hA, Vsr_pi_j22 hA, Vsr_pi_j30 hA, Vsr_pl_j39 hA])
          exact vsr
        · refine Vc_of (c := 5) vc (by decide) (fun k => ?_) (fun k => ?_) <;> simp only [mi_pi, mi_pl, hAe, Nat.reduceLT, Nat.reduceEqDiff, false_and, true_and, if_false]
        · (try simp only [Tx_pi_j18 hA, Tx_pi_j22 hA, Tx_pi_j30 hA, Tx_pl])
          exact tx


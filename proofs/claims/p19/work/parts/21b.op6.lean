theorem hx_317_1 {l rest : List Value} {bc bs : Nat} {Q : MR → MH → Prop} {h : MH} : Kc Ok 317 4 7 l rest bc bs Q (.inr 1) h ↔ ∀ q : Nat, Ok 317 14 l [.ref q] h bc bs Q := Kc_x (by decide +kernel) (by decide +kernel)
theorem op_lensPlace {A : Nat → Nat} {h : MH} (R : Rl A h) {e x : Int32} : Ok 317 0 [.ref (A 0), .int e, .int x, .ref (A 39), mk0] [] h 1 6 (fun r h1 => ∃ k : Int32, r = .inl (some (.int k)) ∧ g_c h1 (A 22) = 9 ∧ Ok 222 0 [.ref (A 22), .int e, .int x] [] h1 0 0 (fun r2 h2 => ∃ b : Int32, r2 = .inl (some (.int b)) ∧ Rl A h2 ∧ g_i h2 (A 22) 9 = k ∧ (k = 0 → g_l h2 (A 39) 0 = b.toInt64))) := by
  obtain ⟨vk, vcn, v0, v1, v2, vp, vl0, vl1, vlr, vsr, vc, tx⟩ := R
  have vk0 := vk
  have vcn0 := vcn
  (refine K_el vk0 ?_; intros hA kc0 kc1 kc2 kc3 kc4 kc5 kc6 kc7 kc8 kc9 kc10 kc11 kc12 kc13 kc14 kc15 kc16 kc17 kc18 kc19 kc20 kc21 kc22 kc23 kc24 kc25 kc26 kc27 kc28 kc29 kc30 kc31 kc32 kc33 kc34 kc35 kc36 kc37 kc38 kc39 kz kt kn3 kn4 kn18 kn21 kn23 kn24 kn25 kn26 kn27 kn29 kn30 kr0_0 kr0_1 kr0_2 kr0_3 kr0_4 kr0_5 kr0_7 kr0_8 kr0_9 kr0_10 kr1_0 kr2_0 kr5_0 kr5_1 kr6_0 kr6_1 kr7_0 kr7_1 kr8_0 kr9_0 kr10_0 kr11_0 kr12_0 kr13_0 kr14_0 kr15_0 kr16_0 kr17_0 kr19_0 kr19_1 kr22_0 kr22_1 kr22_2 kr22_3 kr22_4 kr22_5 kr22_7 kr22_8 kr25_0 kr25_1 kr25_2 kr26_0 kr26_1 kr26_2 kr29_0 kr29_1)
  (refine Cn_el vcn0 ?_; intros ki5_2 ki6_2 ki7_2 ki8_1 ki8_2 ki8_3 ki9_1 ki9_2 ki9_3 ki10_1 ki10_2 ki10_3 ki11_1 ki11_2 ki11_3 ki12_1 ki12_2 ki12_3 ki13_1 ki13_2 ki13_3 ki14_1 ki14_2 ki14_3 ki28_0 ki28_1 ki31_0 ki31_1 ki32_0 ki32_1 ki33_0 ki33_1 ki34_0 ki34_1 ki35_0 ki35_1 ki36_0 ki36_1)
  have hAe : ∀ i j, i < 40 → j < 40 → (A i = A j ↔ i = j) := hA
  by_cases be : e < 0 ∨ ¬ e < 2
  · have be2 := e_bad be
    simp only [o317_0, o317_1, o317_2, o317_3, o317_4, o317_14, o317_16, o317_17, o91_0, o91_1, o91_2, o222_0, o222_1, o222_2, o222_5, o222_8, o222_9, o222_12, o222_13, o222_16, o222_19, o222_20, o222_21, o222_22, o222_25, o222_26, o222_27, o222_30, o222_31, o222_38, o222_39, o222_41, hx_317_1, c_X8_isThrown__, c_X8_isLens, c_lensOf_bad, mc_pi, mc_pT, mn_pi, mn_pT, mi_pi, mi_pT, ml_pi, ml_pT, mr_pi, mr_pT, mz_pT, mcs_0, mcs_r, Kn_v, Kn_x, mrf_some, true_and, and_true, not_true_eq_false, not_false_eq_true, false_implies, forall_const, if_true, if_false, and_self, Nat.reduceLeDiff, Nat.reduceSub, Nat.reduceAdd, Nat.zero_le, Nat.le_refl, i10, Sum.inl.injEq, Option.some.injEq, Value.int.injEq, exists_eq_left', Nat.reduceLT, kc0, kc22, kc29, kn29, kr22_7, kz, be, be2]
    intro t ht
    first | refine ⟨⟨?_, ?_, ?_, ?_, ?_, ?_, ?_, ?_, ?_, ?_, ?_, ?_⟩, rfl⟩ | refine ⟨?_, ?_, ?_, ?_, ?_, ?_, ?_, ?_, ?_, ?_, ?_, ?_⟩
    · (try simp only [K_pi])
      exact K_pT ht vk
    · (try simp only [Cn_pi_j22 hA, Cn_pT])
      exact vcn
    · (try simp only [Vq0_pi_j22 hA, Vq0_pT])
      exact v0
    · (try simp only [Vq1_pi_j22 hA, Vq1_pT])
      exact v1
    · (try simp only [Vq2_pi_j22 hA, Vq2_pT])
      exact v2
    · (try simp only [Vp_thr hA, Vp_pT])
      exact vp
    · (try simp only [Vl0_pi_j22 hA, Vl0_pT])
      exact vl0
    · (try simp only [Vl1_pi_j22 hA, Vl1_pT])
      exact vl1
    · (try simp only [Vlr_pi_j22 hA, Vlr_pT])
      exact vlr
    · (try simp only [Vsr_pi_j22 hA, Vsr_pT])
      exact vsr
    · (try simp only [Vc_pi_j22 hA, Vc_pT])
      exact vc
    · (try simp only [Tx_pi_j22 hA])
      exact Tx_pT ht tx
  · have y1 : ¬ e < 0 := fun z => be (Or.inl z)
    have y2 : e < 2 := Classical.byContradiction fun z => be (Or.inr z)
    rcases e_cases y1 y2 with rfl | rfl
    · have hl2 := vl0
      obtain ⟨⟨b1, b2, b3, b4, b5, b6⟩, ln⟩ := hl2
      replace b1 := b1.symm
      replace b2 := b2.symm
      replace b3 := b3.symm
      replace b4 := b4.symm
      replace b5 := b5.symm
      replace b6 := b6.symm
      rw [b1, b2, b3, b4, b5, b6] at ln
      by_cases x0 : x < 0 <;> by_cases x1 : g_i h (A 15) 5 < x
      · skip
        simp only [o317_0, o317_1, o317_2, o317_3, o317_4, o317_7, o317_8, o317_11, o317_18, o317_19, o91_0, o91_1, o91_2, o91_5, o91_6, o91_7, o91_10, o91_11, o91_12, o91_15, o91_18, o91_19, o91_22, o91_24, o91_27, o91_28, o91_29, o91_30, o222_0, o222_1, o222_2, o222_5, o222_8, o222_9, o222_12, o222_13, o222_16, o222_19, o222_20, o222_21, o222_22, o222_25, o222_26, o222_27, o222_30, o222_31, o222_32, o222_35, o222_38, o222_39, o222_41, o222_44, o222_45, o222_46, o222_49, o222_50, o222_51, o222_52, c_X8_isThrown__, c_X8_isLens, c_lensOf_0, c_ref_6 (cs := A 18), c_X8_no (cs := A 30), mc_pi, mc_pl, mn_pi, mn_pl, mi_pi, mi_pl, ml_pi, ml_pl, mr_pi, mr_pl, mz_pi, mz_pl, mcs_0, mcs_r, Kn_v, mrf_some, true_and, and_true, or_false, not_true_eq_false, not_false_eq_true, false_implies, implies_true, forall_const, if_true, if_false, and_self, Nat.reduceEqDiff, Nat.reduceLeDiff, Nat.reduceSub, Nat.reduceAdd, Nat.zero_le, Nat.le_refl, i10, i01, lt_le, Int32.reduceSub, cl0, cl6, Kc_v, Sum.inl.injEq, Option.some.injEq, Value.int.injEq, exists_eq_left', Nat.reduceLT, hAe, kc0, kc15, kc17, kc18, kc22, kc29, kc30, kc37, kc39, kn18, kn29, kn30, kr0_7, kr0_9, kr17_0, kr22_7, kr22_8, kr29_0, kz, b5, be0, x0, x1, v18, cl6]
        first | refine ⟨⟨?_, ?_, ?_, ?_, ?_, ?_, ?_, ?_, ?_, ?_, ?_, ?_⟩, rfl⟩ | refine ⟨?_, ?_, ?_, ?_, ?_, ?_, ?_, ?_, ?_, ?_, ?_, ?_⟩
        · (try simp only [K_pi, K_pl])
          exact vk
        · (try simp only [Cn_pi_j18 hA, Cn_pi_j22 hA, Cn_pi_j30 hA, Cn_pl])
          exact vcn
        · (try simp only [Vq0_pi_j18 hA, Vq0_pi_j22 hA, Vq0_pi_j30 hA, Vq0_pl])
          exact v0
        · (try simp only [Vq1_pi_j18 hA, Vq1_pi_j22 hA, Vq1_pi_j30 hA, Vq1_pl])
          exact v1
        · (try simp only [Vq2_pi_j18 hA, Vq2_pi_j22 hA, Vq2_pi_j30 hA, Vq2_pl])
          exact v2
        · (try simp only [Vp_pi_j18 hA, Vp_pi_j30 hA, Vp_thr hA, Vp_pl])
          exact vp
        · (try simp only [Vl0_pi_j18 hA, Vl0_pi_j22 hA, Vl0_pi_j30 hA, Vl0_pl])
          exact vl0
        · (try simp only [Vl1_pi_j18 hA, Vl1_pi_j22 hA, Vl1_pi_j30 hA, Vl1_pl])
          exact vl1
        · (try simp only [Vlr_pi_j18 hA, Vlr_pi_j22 hA, Vlr_pi_j30 hA, Vlr_pl_j39 hA])
          exact vlr
        · (try simp only [Vsr_pi_j18 hA, Vsr_pi_j22 hA, Vsr_pi_j30 hA, Vsr_pl_j39 hA])
          exact vsr
        · refine Vc_of (c := 6) vc (by decide) (fun k => ?_) (fun k => ?_) <;> simp only [mi_pi, mi_pl, hAe, Nat.reduceLT, Nat.reduceEqDiff, false_and, true_and, if_false]
        · (try simp only [Tx_pi_j18 hA, Tx_pi_j22 hA, Tx_pi_j30 hA, Tx_pl])
          exact tx
      · skip
        simp only [o317_0, o317_1, o317_2, o317_3, o317_4, o317_7, o317_8, o317_11, o317_18, o317_19, o91_0, o91_1, o91_2, o91_5, o91_6, o91_7, o91_10, o91_11, o91_12, o91_15, o91_18, o91_19, o91_22, o91_24, o91_27, o91_28, o91_29, o91_30, o222_0, o222_1, o222_2, o222_5, o222_8, o222_9, o222_12, o222_13, o222_16, o222_19, o222_20, o222_21, o222_22, o222_25, o222_26, o222_27, o222_30, o222_31, o222_32, o222_35, o222_38, o222_39, o222_41, o222_44, o222_45, o222_46, o222_49, o222_50, o222_51, o222_52, c_X8_isThrown__, c_X8_isLens, c_lensOf_0, c_ref_6 (cs := A 18), c_X8_no (cs := A 30), mc_pi, mc_pl, mn_pi, mn_pl, mi_pi, mi_pl, ml_pi, ml_pl, mr_pi, mr_pl, mz_pi, mz_pl, mcs_0, mcs_r, Kn_v, mrf_some, true_and, and_true, or_false, not_true_eq_false, not_false_eq_true, false_implies, implies_true, forall_const, if_true, if_false, and_self, Nat.reduceEqDiff, Nat.reduceLeDiff, Nat.reduceSub, Nat.reduceAdd, Nat.zero_le, Nat.le_refl, i10, i01, lt_le, Int32.reduceSub, cl0, cl6, Kc_v, Sum.inl.injEq, Option.some.injEq, Value.int.injEq, exists_eq_left', Nat.reduceLT, hAe, kc0, kc15, kc17, kc18, kc22, kc29, kc30, kc37, kc39, kn18, kn29, kn30, kr0_7, kr0_9, kr17_0, kr22_7, kr22_8, kr29_0, kz, b5, be0, x0, x1, v18, cl6]
        first | refine ⟨⟨?_, ?_, ?_, ?_, ?_, ?_, ?_, ?_, ?_, ?_, ?_, ?_⟩, rfl⟩ | refine ⟨?_, ?_, ?_, ?_, ?_, ?_, ?_, ?_, ?_, ?_, ?_, ?_⟩
        · (try simp only [K_pi, K_pl])
          exact vk
        · (try simp only [Cn_pi_j18 hA, Cn_pi_j22 hA, Cn_pi_j30 hA, Cn_pl])
          exact vcn
        · (try simp only [Vq0_pi_j18 hA, Vq0_pi_j22 hA, Vq0_pi_j30 hA, Vq0_pl])
          exact v0
        · (try simp only [Vq1_pi_j18 hA, Vq1_pi_j22 hA, Vq1_pi_j30 hA, Vq1_pl])
          exact v1
        · (try simp only [Vq2_pi_j18 hA, Vq2_pi_j22 hA, Vq2_pi_j30 hA, Vq2_pl])
          exact v2
        · (try simp only [Vp_pi_j18 hA, Vp_pi_j30 hA, Vp_thr hA, Vp_pl])
          exact vp
        · (try simp only [Vl0_pi_j18 hA, Vl0_pi_j22 hA, Vl0_pi_j30 hA, Vl0_pl])
          exact vl0
        · (try simp only [Vl1_pi_j18 hA, Vl1_pi_j22 hA, Vl1_pi_j30 hA, Vl1_pl])
          exact vl1
        · (try simp only [Vlr_pi_j18 hA, Vlr_pi_j22 hA, Vlr_pi_j30 hA, Vlr_pl_j39 hA])
          exact vlr
        · (try simp only [Vsr_pi_j18 hA, Vsr_pi_j22 hA, Vsr_pi_j30 hA, Vsr_pl_j39 hA])
          exact vsr
        · refine Vc_of (c := 6) vc (by decide) (fun k => ?_) (fun k => ?_) <;> simp only [mi_pi, mi_pl, hAe, Nat.reduceLT, Nat.reduceEqDiff, false_and, true_and, if_false]
        · (try simp only [Tx_pi_j18 hA, Tx_pi_j22 hA, Tx_pi_j30 hA, Tx_pl])
          exact tx
      · skip
        simp only [o317_0, o317_1, o317_2, o317_3, o317_4, o317_7, o317_8, o317_11, o317_18, o317_19, o91_0, o91_1, o91_2, o91_5, o91_6, o91_7, o91_10, o91_11, o91_12, o91_15, o91_18, o91_19, o91_22, o91_24, o91_27, o91_28, o91_29, o91_30, o222_0, o222_1, o222_2, o222_5, o222_8, o222_9, o222_12, o222_13, o222_16, o222_19, o222_20, o222_21, o222_22, o222_25, o222_26, o222_27, o222_30, o222_31, o222_32, o222_35, o222_38, o222_39, o222_41, o222_44, o222_45, o222_46, o222_49, o222_50, o222_51, o222_52, c_X8_isThrown__, c_X8_isLens, c_lensOf_0, c_ref_6 (cs := A 18), c_X8_no (cs := A 30), mc_pi, mc_pl, mn_pi, mn_pl, mi_pi, mi_pl, ml_pi, ml_pl, mr_pi, mr_pl, mz_pi, mz_pl, mcs_0, mcs_r, Kn_v, mrf_some, true_and, and_true, or_false, not_true_eq_false, not_false_eq_true, false_implies, implies_true, forall_const, if_true, if_false, and_self, Nat.reduceEqDiff, Nat.reduceLeDiff, Nat.reduceSub, Nat.reduceAdd, Nat.zero_le, Nat.le_refl, i10, i01, lt_le, Int32.reduceSub, cl0, cl6, Kc_v, Sum.inl.injEq, Option.some.injEq, Value.int.injEq, exists_eq_left', Nat.reduceLT, hAe, kc0, kc15, kc17, kc18, kc22, kc29, kc30, kc37, kc39, kn18, kn29, kn30, kr0_7, kr0_9, kr17_0, kr22_7, kr22_8, kr29_0, kz, b5, be0, x0, x1, v18, cl6]
        first | refine ⟨⟨?_, ?_, ?_, ?_, ?_, ?_, ?_, ?_, ?_, ?_, ?_, ?_⟩, rfl⟩ | refine ⟨?_, ?_, ?_, ?_, ?_, ?_, ?_, ?_, ?_, ?_, ?_, ?_⟩
        · (try simp only [K_pi, K_pl])
          exact vk
        · (try simp only [Cn_pi_j18 hA, Cn_pi_j22 hA, Cn_pi_j30 hA, Cn_pl])
          exact vcn
        · (try simp only [Vq0_pi_j18 hA, Vq0_pi_j22 hA, Vq0_pi_j30 hA, Vq0_pl])
          exact v0
        · (try simp only [Vq1_pi_j18 hA, Vq1_pi_j22 hA, Vq1_pi_j30 hA, Vq1_pl])
          exact v1
        · (try simp only [Vq2_pi_j18 hA, Vq2_pi_j22 hA, Vq2_pi_j30 hA, Vq2_pl])
          exact v2
        · (try simp only [Vp_pi_j18 hA, Vp_pi_j30 hA, Vp_thr hA, Vp_pl])
          exact vp
        · (try simp only [Vl0_pi_j18 hA, Vl0_pi_j22 hA, Vl0_pi_j30 hA, Vl0_pl])
          exact vl0
        · (try simp only [Vl1_pi_j18 hA, Vl1_pi_j22 hA, Vl1_pi_j30 hA, Vl1_pl])
          exact vl1
        · (try simp only [Vlr_pi_j18 hA, Vlr_pi_j22 hA, Vlr_pi_j30 hA, Vlr_pl_j39 hA])
          exact vlr
        · (try simp only [Vsr_pi_j18 hA, Vsr_pi_j22 hA, Vsr_pi_j30 hA, Vsr_pl_j39 hA])
          exact vsr
        · refine Vc_of (c := 6) vc (by decide) (fun k => ?_) (fun k => ?_) <;> simp only [mi_pi, mi_pl, hAe, Nat.reduceLT, Nat.reduceEqDiff, false_and, true_and, if_false]
        · (try simp only [Tx_pi_j18 hA, Tx_pi_j22 hA, Tx_pi_j30 hA, Tx_pl])
          exact tx
      · have hq9 := lnP ln x0 x1
        simp only [o317_0, o317_1, o317_2, o317_3, o317_4, o317_7, o317_8, o317_11, o317_18, o317_19, o91_0, o91_1, o91_2, o91_5, o91_6, o91_7, o91_10, o91_11, o91_12, o91_15, o91_18, o91_19, o91_22, o91_24, o91_28, o91_29, o91_30, o91_33, o91_34, o91_37, o91_38, o91_41, o91_44, o222_0, o222_1, o222_2, o222_5, o222_8, o222_9, o222_12, o222_13, o222_16, o222_19, o222_20, o222_21, o222_22, o222_25, o222_26, o222_27, o222_30, o222_31, o222_32, o222_35, o222_38, o222_39, o222_41, o222_45, o222_46, o222_49, o222_50, o222_51, o222_52, o222_55, o222_56, o222_57, o222_60, o222_61, o222_62, o222_65, o222_68, c_X8_isThrown__, c_X8_isLens, c_lensOf_0, c_X3_setPlace, c_X7_toPlace, c_X3_rests, c_X7_rests, c_X0_done (cs := A 18), c_X8_done (cs := A 30), mc_pi, mc_pl, mn_pi, mn_pl, mi_pi, mi_pl, ml_pi, ml_pl, mr_pi, mr_pl, mz_pi, mz_pl, mcs_0, mcs_r, Kn_v, Kn_0, mrf_some, true_and, and_true, and_false, or_false, not_true_eq_false, not_false_eq_true, false_implies, implies_true, forall_const, if_true, if_false, and_self, Nat.reduceEqDiff, Nat.reduceLeDiff, Nat.reduceSub, Nat.reduceAdd, Nat.zero_le, Nat.le_refl, i10, i01, lt_le, cl0, Kc_v, Sum.inl.injEq, Option.some.injEq, Value.int.injEq, exists_eq_left', Nat.reduceLT, hAe, kc0, kc15, kc17, kc18, kc22, kc29, kc30, kc37, kc39, kn18, kn29, kn30, kr0_7, kr0_9, kr17_0, kr22_7, kr22_8, kr29_0, kz, b4, b5, b6, be0, x0, x1, liM]
        simp only [liM] at hq9
        first | refine ⟨⟨?_, ?_, ?_, ?_, ?_, ?_, ?_, ?_, ?_, ?_, ?_, ?_⟩, rfl⟩ | refine ⟨?_, ?_, ?_, ?_, ?_, ?_, ?_, ?_, ?_, ?_, ?_, ?_⟩
        · (try simp only [K_pi, K_pl])
          exact vk
        · (try simp only [Cn_pi_j18 hA, Cn_pi_j22 hA, Cn_pi_j30 hA, Cn_pi_j15 hA, Cn_pi_j37 hA, Cn_pl])
          exact vcn
        · (try simp only [Vq0_pi_j18 hA, Vq0_pi_j22 hA, Vq0_pi_j30 hA, Vq0_pi_j15 hA, Vq0_pi_j37 hA, Vq0_pl])
          exact v0
        · (try simp only [Vq1_pi_j18 hA, Vq1_pi_j22 hA, Vq1_pi_j30 hA, Vq1_pi_j15 hA, Vq1_pi_j37 hA, Vq1_pl])
          exact v1
        · (try simp only [Vq2_pi_j18 hA, Vq2_pi_j22 hA, Vq2_pi_j30 hA, Vq2_pi_j15 hA, Vq2_pi_j37 hA, Vq2_pl])
          exact v2
        · (try simp only [Vp_pi_j18 hA, Vp_pi_j30 hA, Vp_pi_j15 hA, Vp_pi_j37 hA, Vp_thr hA, Vp_pl])
          exact vp
        · simp only [Vl0, mi_pi, mi_pl, hAe, Nat.reduceLT, Nat.reduceEqDiff, and_false, true_and, and_true, if_false, if_true, b1, b2, b3, b4, b5, b6, true_and, and_self]
          first | exact hq9 | exact ⟨⟨rfl, rfl, rfl, rfl, rfl, rfl⟩, hq9⟩ | (refine ⟨⟨?_, ?_, ?_, ?_, ?_, ?_⟩, hq9⟩ <;> first | rfl | trivial)
        · (try simp only [Vl1_pi_j18 hA, Vl1_pi_j22 hA, Vl1_pi_j30 hA, Vl1_pi_j15 hA, Vl1_pi_j37 hA, Vl1_pl])
          exact vl1
        · (try simp only [Vlr_pi_j18 hA, Vlr_pi_j22 hA, Vlr_pi_j30 hA, Vlr_pi_j15 hA, Vlr_pi_j37 hA, Vlr_pl_j39 hA])
          exact vlr
        · (try simp only [Vsr_pi_j18 hA, Vsr_pi_j22 hA, Vsr_pi_j30 hA, Vsr_pi_j15 hA, Vsr_pi_j37 hA, Vsr_pl_j39 hA])
          exact vsr
        · refine Vc_of (c := 0) vc (by decide) (fun k => ?_) (fun k => ?_) <;> simp only [mi_pi, mi_pl, hAe, Nat.reduceLT, Nat.reduceEqDiff, false_and, true_and, if_false]
        · (try simp only [Tx_pi_j18 hA, Tx_pi_j22 hA, Tx_pi_j30 hA, Tx_pi_j15 hA, Tx_pi_j37 hA, Tx_pl])
          exact tx
    · have hl2 := vl1
      obtain ⟨⟨b1, b2, b3, b4, b5, b6⟩, ln⟩ := hl2
      replace b1 := b1.symm
      replace b2 := b2.symm
      replace b3 := b3.symm
      replace b4 := b4.symm
      replace b5 := b5.symm
      replace b6 := b6.symm
      rw [b1, b2, b3, b4, b5, b6] at ln
      by_cases x0 : x < 0 <;> by_cases x1 : g_i h (A 16) 5 < x
      · skip
        simp only [o317_0, o317_1, o317_2, o317_3, o317_4, o317_7, o317_8, o317_11, o317_18, o317_19, o91_0, o91_1, o91_2, o91_5, o91_6, o91_7, o91_10, o91_11, o91_12, o91_15, o91_18, o91_19, o91_22, o91_24, o91_27, o91_28, o91_29, o91_30, o222_0, o222_1, o222_2, o222_5, o222_8, o222_9, o222_12, o222_13, o222_16, o222_19, o222_20, o222_21, o222_22, o222_25, o222_26, o222_27, o222_30, o222_31, o222_32, o222_35, o222_38, o222_39, o222_41, o222_44, o222_45, o222_46, o222_49, o222_50, o222_51, o222_52, c_X8_isThrown__, c_X8_isLens, c_lensOf_1, c_ref_6 (cs := A 18), c_X8_no (cs := A 30), mc_pi, mc_pl, mn_pi, mn_pl, mi_pi, mi_pl, ml_pi, ml_pl, mr_pi, mr_pl, mz_pi, mz_pl, mcs_0, mcs_r, Kn_v, mrf_some, true_and, and_true, or_true, not_true_eq_false, not_false_eq_true, false_implies, implies_true, forall_const, if_true, if_false, and_self, Nat.reduceEqDiff, Nat.reduceLeDiff, Nat.reduceSub, Nat.reduceAdd, Nat.zero_le, Nat.le_refl, i10, lt_le, Int32.reduceSub, cl1, cl6, Kc_v, Sum.inl.injEq, Option.some.injEq, Value.int.injEq, exists_eq_left', Nat.reduceLT, hAe, kc0, kc16, kc17, kc18, kc22, kc29, kc30, kc38, kc39, kn18, kn29, kn30, kr0_8, kr0_9, kr17_0, kr22_7, kr22_8, kr29_1, kz, b5, be0, x0, x1, v18, cl6]
        first | refine ⟨⟨?_, ?_, ?_, ?_, ?_, ?_, ?_, ?_, ?_, ?_, ?_, ?_⟩, rfl⟩ | refine ⟨?_, ?_, ?_, ?_, ?_, ?_, ?_, ?_, ?_, ?_, ?_, ?_⟩
        · (try simp only [K_pi, K_pl])
          exact vk
        · (try simp only [Cn_pi_j18 hA, Cn_pi_j22 hA, Cn_pi_j30 hA, Cn_pl])
          exact vcn
        · (try simp only [Vq0_pi_j18 hA, Vq0_pi_j22 hA, Vq0_pi_j30 hA, Vq0_pl])
          exact v0
        · (try simp only [Vq1_pi_j18 hA, Vq1_pi_j22 hA, Vq1_pi_j30 hA, Vq1_pl])
          exact v1
        · (try simp only [Vq2_pi_j18 hA, Vq2_pi_j22 hA, Vq2_pi_j30 hA, Vq2_pl])
          exact v2
        · (try simp only [Vp_pi_j18 hA, Vp_pi_j30 hA, Vp_thr hA, Vp_pl])
          exact vp
        · (try simp only [Vl0_pi_j18 hA, Vl0_pi_j22 hA, Vl0_pi_j30 hA, Vl0_pl])
          exact vl0
        · (try simp only [Vl1_pi_j18 hA, Vl1_pi_j22 hA, Vl1_pi_j30 hA, Vl1_pl])
          exact vl1
        · (try simp only [Vlr_pi_j18 hA, Vlr_pi_j22 hA, Vlr_pi_j30 hA, Vlr_pl_j39 hA])
          exact vlr
        · (try simp only [Vsr_pi_j18 hA, Vsr_pi_j22 hA, Vsr_pi_j30 hA, Vsr_pl_j39 hA])
          exact vsr
        · refine Vc_of (c := 6) vc (by decide) (fun k => ?_) (fun k => ?_) <;> simp only [mi_pi, mi_pl, hAe, Nat.reduceLT, Nat.reduceEqDiff, false_and, true_and, if_false]
        · (try simp only [Tx_pi_j18 hA, Tx_pi_j22 hA, Tx_pi_j30 hA, Tx_pl])
          exact tx
      · skip
        simp only [o317_0, o317_1, o317_2, o317_3, o317_4, o317_7, o317_8, o317_11, o317_18, o317_19, o91_0, o91_1, o91_2, o91_5, o91_6, o91_7, o91_10, o91_11, o91_12, o91_15, o91_18, o91_19, o91_22, o91_24, o91_27, o91_28, o91_29, o91_30, o222_0, o222_1, o222_2, o222_5, o222_8, o222_9, o222_12, o222_13, o222_16, o222_19, o222_20, o222_21, o222_22, o222_25, o222_26, o222_27, o222_30, o222_31, o222_32, o222_35, o222_38, o222_39, o222_41, o222_44, o222_45, o222_46, o222_49, o222_50, o222_51, o222_52, c_X8_isThrown__, c_X8_isLens, c_lensOf_1, c_ref_6 (cs := A 18), c_X8_no (cs := A 30), mc_pi, mc_pl, mn_pi, mn_pl, mi_pi, mi_pl, ml_pi, ml_pl, mr_pi, mr_pl, mz_pi, mz_pl, mcs_0, mcs_r, Kn_v, mrf_some, true_and, and_true, or_true, not_true_eq_false, not_false_eq_true, false_implies, implies_true, forall_const, if_true, if_false, and_self, Nat.reduceEqDiff, Nat.reduceLeDiff, Nat.reduceSub, Nat.reduceAdd, Nat.zero_le, Nat.le_refl, i10, lt_le, Int32.reduceSub, cl1, cl6, Kc_v, Sum.inl.injEq, Option.some.injEq, Value.int.injEq, exists_eq_left', Nat.reduceLT, hAe, kc0, kc16, kc17, kc18, kc22, kc29, kc30, kc38, kc39, kn18, kn29, kn30, kr0_8, kr0_9, kr17_0, kr22_7, kr22_8, kr29_1, kz, b5, be0, x0, x1, v18, cl6]
        first | refine ⟨⟨?_, ?_, ?_, ?_, ?_, ?_, ?_, ?_, ?_, ?_, ?_, ?_⟩, rfl⟩ | refine ⟨?_, ?_, ?_, ?_, ?_, ?_, ?_, ?_, ?_, ?_, ?_, ?_⟩
        · (try simp only [K_pi, K_pl])
          exact vk
        · (try simp only [Cn_pi_j18 hA, Cn_pi_j22 hA, Cn_pi_j30 hA, Cn_pl])
          exact vcn
        · (try simp only [Vq0_pi_j18 hA, Vq0_pi_j22 hA, Vq0_pi_j30 hA, Vq0_pl])
          exact v0
        · (try simp only [Vq1_pi_j18 hA, Vq1_pi_j22 hA, Vq1_pi_j30 hA, Vq1_pl])
          exact v1
        · (try simp only [Vq2_pi_j18 hA, Vq2_pi_j22 hA, Vq2_pi_j30 hA, Vq2_pl])
          exact v2
        · (try simp only [Vp_pi_j18 hA, Vp_pi_j30 hA, Vp_thr hA, Vp_pl])
          exact vp
        · (try simp only [Vl0_pi_j18 hA, Vl0_pi_j22 hA, Vl0_pi_j30 hA, Vl0_pl])
          exact vl0
        · (try simp only [Vl1_pi_j18 hA, Vl1_pi_j22 hA, Vl1_pi_j30 hA, Vl1_pl])
          exact vl1
        · (try simp only [Vlr_pi_j18 hA, Vlr_pi_j22 hA, Vlr_pi_j30 hA, Vlr_pl_j39 hA])
          exact vlr
        · (try simp only [Vsr_pi_j18 hA, Vsr_pi_j22 hA, Vsr_pi_j30 hA, Vsr_pl_j39 hA])
          exact vsr
        · refine Vc_of (c := 6) vc (by decide) (fun k => ?_) (fun k => ?_) <;> simp only [mi_pi, mi_pl, hAe, Nat.reduceLT, Nat.reduceEqDiff, false_and, true_and, if_false]
        · (try simp only [Tx_pi_j18 hA, Tx_pi_j22 hA, Tx_pi_j30 hA, Tx_pl])
          exact tx
      · skip
        simp only [o317_0, o317_1, o317_2, o317_3, o317_4, o317_7, o317_8, o317_11, o317_18, o317_19, o91_0, o91_1, o91_2, o91_5, o91_6, o91_7, o91_10, o91_11, o91_12, o91_15, o91_18, o91_19, o91_22, o91_24, o91_27, o91_28, o91_29, o91_30, o222_0, o222_1, o222_2, o222_5, o222_8, o222_9, o222_12, o222_13, o222_16, o222_19, o222_20, o222_21, o222_22, o222_25, o222_26, o222_27, o222_30, o222_31, o222_32, o222_35, o222_38, o222_39, o222_41, o222_44, o222_45, o222_46, o222_49, o222_50, o222_51, o222_52, c_X8_isThrown__, c_X8_isLens, c_lensOf_1, c_ref_6 (cs := A 18), c_X8_no (cs := A 30), mc_pi, mc_pl, mn_pi, mn_pl, mi_pi, mi_pl, ml_pi, ml_pl, mr_pi, mr_pl, mz_pi, mz_pl, mcs_0, mcs_r, Kn_v, mrf_some, true_and, and_true, or_true, not_true_eq_false, not_false_eq_true, false_implies, implies_true, forall_const, if_true, if_false, and_self, Nat.reduceEqDiff, Nat.reduceLeDiff, Nat.reduceSub, Nat.reduceAdd, Nat.zero_le, Nat.le_refl, i10, lt_le, Int32.reduceSub, cl1, cl6, Kc_v, Sum.inl.injEq, Option.some.injEq, Value.int.injEq, exists_eq_left', Nat.reduceLT, hAe, kc0, kc16, kc17, kc18, kc22, kc29, kc30, kc38, kc39, kn18, kn29, kn30, kr0_8, kr0_9, kr17_0, kr22_7, kr22_8, kr29_1, kz, b5, be0, x0, x1, v18, cl6]
        first | refine ⟨⟨?_, ?_, ?_, ?_, ?_, ?_, ?_, ?_, ?_, ?_, ?_, ?_⟩, rfl⟩ | refine ⟨?_, ?_, ?_, ?_, ?_, ?_, ?_, ?_, ?_, ?_, ?_, ?_⟩
        · (try simp only [K_pi, K_pl])
          exact vk
        · (try simp only [Cn_pi_j18 hA, Cn_pi_j22 hA, Cn_pi_j30 hA, Cn_pl])
          exact vcn
        · (try simp only [Vq0_pi_j18 hA, Vq0_pi_j22 hA, Vq0_pi_j30 hA, Vq0_pl])
          exact v0
        · (try simp only [Vq1_pi_j18 hA, Vq1_pi_j22 hA, Vq1_pi_j30 hA, Vq1_pl])
          exact v1
        · (try simp only [Vq2_pi_j18 hA, Vq2_pi_j22 hA, Vq2_pi_j30 hA, Vq2_pl])
          exact v2
        · (try simp only [Vp_pi_j18 hA, Vp_pi_j30 hA, Vp_thr hA, Vp_pl])
          exact vp
        · (try simp only [Vl0_pi_j18 hA, Vl0_pi_j22 hA, Vl0_pi_j30 hA, Vl0_pl])
          exact vl0
        · (try simp only [Vl1_pi_j18 hA, Vl1_pi_j22 hA, Vl1_pi_j30 hA, Vl1_pl])
          exact vl1
        · (try simp only [Vlr_pi_j18 hA, Vlr_pi_j22 hA, Vlr_pi_j30 hA, Vlr_pl_j39 hA])
          exact vlr
        · (try simp only [Vsr_pi_j18 hA, Vsr_pi_j22 hA, Vsr_pi_j30 hA, Vsr_pl_j39 hA])
          exact vsr
        · refine Vc_of (c := 6) vc (by decide) (fun k => ?_) (fun k => ?_) <;> simp only [mi_pi, mi_pl, hAe, Nat.reduceLT, Nat.reduceEqDiff, false_and, true_and, if_false]
        · (try simp only [Tx_pi_j18 hA, Tx_pi_j22 hA, Tx_pi_j30 hA, Tx_pl])
          exact tx
      · have hq9 := lnP ln x0 x1
        simp only [o317_0, o317_1, o317_2, o317_3, o317_4, o317_7, o317_8, o317_11, o317_18, o317_19, o91_0, o91_1, o91_2, o91_5, o91_6, o91_7, o91_10, o91_11, o91_12, o91_15, o91_18, o91_19, o91_22, o91_24, o91_28, o91_29, o91_30, o91_33, o91_34, o91_37, o91_38, o91_41, o91_44, o222_0, o222_1, o222_2, o222_5, o222_8, o222_9, o222_12, o222_13, o222_16, o222_19, o222_20, o222_21, o222_22, o222_25, o222_26, o222_27, o222_30, o222_31, o222_32, o222_35, o222_38, o222_39, o222_41, o222_45, o222_46, o222_49, o222_50, o222_51, o222_52, o222_55, o222_56, o222_57, o222_60, o222_61, o222_62, o222_65, o222_68, c_X8_isThrown__, c_X8_isLens, c_lensOf_1, c_X3_setPlace, c_X7_toPlace, c_X3_rests, c_X7_rests, c_X0_done (cs := A 18), c_X8_done (cs := A 30), mc_pi, mc_pl, mn_pi, mn_pl, mi_pi, mi_pl, ml_pi, ml_pl, mr_pi, mr_pl, mz_pi, mz_pl, mcs_0, mcs_r, Kn_v, Kn_0, mrf_some, true_and, and_true, and_false, or_true, not_true_eq_false, not_false_eq_true, false_implies, implies_true, forall_const, if_true, if_false, and_self, Nat.reduceEqDiff, Nat.reduceLeDiff, Nat.reduceSub, Nat.reduceAdd, Nat.zero_le, Nat.le_refl, i10, lt_le, cl1, Kc_v, Sum.inl.injEq, Option.some.injEq, Value.int.injEq, exists_eq_left', Nat.reduceLT, hAe, kc0, kc16, kc17, kc18, kc22, kc29, kc30, kc38, kc39, kn18, kn29, kn30, kr0_8, kr0_9, kr17_0, kr22_7, kr22_8, kr29_1, kz, b4, b5, b6, be0, x0, x1, liM]
        simp only [liM] at hq9
        first | refine ⟨⟨?_, ?_, ?_, ?_, ?_, ?_, ?_, ?_, ?_, ?_, ?_, ?_⟩, rfl⟩ | refine ⟨?_, ?_, ?_, ?_, ?_, ?_, ?_, ?_, ?_, ?_, ?_, ?_⟩
        · (try simp only [K_pi, K_pl])
          exact vk
        · (try simp only [Cn_pi_j18 hA, Cn_pi_j22 hA, Cn_pi_j30 hA, Cn_pi_j16 hA, Cn_pi_j38 hA, Cn_pl])
          exact vcn
        · (try simp only [Vq0_pi_j18 hA, Vq0_pi_j22 hA, Vq0_pi_j30 hA, Vq0_pi_j16 hA, Vq0_pi_j38 hA, Vq0_pl])
          exact v0
        · (try simp only [Vq1_pi_j18 hA, Vq1_pi_j22 hA, Vq1_pi_j30 hA, Vq1_pi_j16 hA, Vq1_pi_j38 hA, Vq1_pl])
          exact v1
        · (try simp only [Vq2_pi_j18 hA, Vq2_pi_j22 hA, Vq2_pi_j30 hA, Vq2_pi_j16 hA, Vq2_pi_j38 hA, Vq2_pl])
          exact v2
        · (try simp only [Vp_pi_j18 hA, Vp_pi_j30 hA, Vp_pi_j16 hA, Vp_pi_j38 hA, Vp_thr hA, Vp_pl])
          exact vp
        · (try simp only [Vl0_pi_j18 hA, Vl0_pi_j22 hA, Vl0_pi_j30 hA, Vl0_pi_j16 hA, Vl0_pi_j38 hA, Vl0_pl])
          exact vl0
        · simp only [Vl1, mi_pi, mi_pl, hAe, Nat.reduceLT, Nat.reduceEqDiff, and_false, true_and, and_true, if_false, if_true, b1, b2, b3, b4, b5, b6, true_and, and_self]
          first | exact hq9 | exact ⟨⟨rfl, rfl, rfl, rfl, rfl, rfl⟩, hq9⟩ | (refine ⟨⟨?_, ?_, ?_, ?_, ?_, ?_⟩, hq9⟩ <;> first | rfl | trivial)
        · (try simp only [Vlr_pi_j18 hA, Vlr_pi_j22 hA, Vlr_pi_j30 hA, Vlr_pi_j16 hA, Vlr_pi_j38 hA, Vlr_pl_j39 hA])
          exact vlr
        · (try simp only [Vsr_pi_j18 hA, Vsr_pi_j22 hA, Vsr_pi_j30 hA, Vsr_pi_j16 hA, Vsr_pi_j38 hA, Vsr_pl_j39 hA])
          exact vsr
        · refine Vc_of (c := 0) vc (by decide) (fun k => ?_) (fun k => ?_) <;> simp only [mi_pi, mi_pl, hAe, Nat.reduceLT, Nat.reduceEqDiff, false_and, true_and, if_false]
        · (try simp only [Tx_pi_j18 hA, Tx_pi_j22 hA, Tx_pi_j30 hA, Tx_pi_j16 hA, Tx_pi_j38 hA, Tx_pl])
          exact tx

theorem hx_318_1 {l rest : List Value} {bc bs : Nat} {Q : MR → MH → Prop} {h : MH} : Kc Ok 318 4 7 l rest bc bs Q (.inr 1) h ↔ ∀ q : Nat, Ok 318 14 l [.ref q] h bc bs Q := Kc_x (by decide +kernel) (by decide +kernel)
theorem op_lensLimit {A : Nat → Nat} {h : MH} (R : Rl A h) {e x : Int32} : Ok 318 0 [.ref (A 0), .int e, .int x, .ref (A 39), mk0] [] h 1 6 (fun r h1 => ∃ k : Int32, r = .inl (some (.int k)) ∧ g_c h1 (A 22) = 9 ∧ Ok 223 0 [.ref (A 22), .int e, .int x] [] h1 0 0 (fun r2 h2 => ∃ b : Int32, r2 = .inl (some (.int b)) ∧ Rl A h2 ∧ g_i h2 (A 22) 9 = k ∧ (k = 0 → g_l h2 (A 39) 0 = b.toInt64))) := by
  obtain ⟨vk, vcn, v0, v1, v2, vp, vl0, vl1, vlr, vsr, vc, tx⟩ := R
  have vk0 := vk
  have vcn0 := vcn
  (refine K_el vk0 ?_; intros hA kc0 kc1 kc2 kc3 kc4 kc5 kc6 kc7 kc8 kc9 kc10 kc11 kc12 kc13 kc14 kc15 kc16 kc17 kc18 kc19 kc20 kc21 kc22 kc23 kc24 kc25 kc26 kc27 kc28 kc29 kc30 kc31 kc32 kc33 kc34 kc35 kc36 kc37 kc38 kc39 kz kt kn3 kn4 kn18 kn21 kn23 kn24 kn25 kn26 kn27 kn29 kn30 kr0_0 kr0_1 kr0_2 kr0_3 kr0_4 kr0_5 kr0_7 kr0_8 kr0_9 kr0_10 kr1_0 kr2_0 kr5_0 kr5_1 kr6_0 kr6_1 kr7_0 kr7_1 kr8_0 kr9_0 kr10_0 kr11_0 kr12_0 kr13_0 kr14_0 kr15_0 kr16_0 kr17_0 kr19_0 kr19_1 kr22_0 kr22_1 kr22_2 kr22_3 kr22_4 kr22_5 kr22_7 kr22_8 kr25_0 kr25_1 kr25_2 kr26_0 kr26_1 kr26_2 kr29_0 kr29_1)
  (refine Cn_el vcn0 ?_; intros ki5_2 ki6_2 ki7_2 ki8_1 ki8_2 ki8_3 ki9_1 ki9_2 ki9_3 ki10_1 ki10_2 ki10_3 ki11_1 ki11_2 ki11_3 ki12_1 ki12_2 ki12_3 ki13_1 ki13_2 ki13_3 ki14_1 ki14_2 ki14_3 ki28_0 ki28_1 ki31_0 ki31_1 ki32_0 ki32_1 ki33_0 ki33_1 ki34_0 ki34_1 ki35_0 ki35_1 ki36_0 ki36_1)
  have hAe : ∀ i j, i < 40 → j < 40 → (A i = A j ↔ i = j) := hA
  by_cases be : e < 0 ∨ ¬ e < 2
  · have be2 := e_bad be
    simp only [o318_0, o318_1, o318_2, o318_3, o318_4, o318_14, o318_16, o318_17, o92_0, o92_1, o92_2, o223_0, o223_1, o223_2, o223_5, o223_8, o223_9, o223_12, o223_13, o223_16, o223_19, o223_20, o223_21, o223_22, o223_25, o223_26, o223_27, o223_30, o223_31, o223_38, o223_39, o223_41, hx_318_1, c_X8_isThrown__, c_X8_isLens, c_lensOf_bad, mc_pi, mc_pT, mn_pi, mn_pT, mi_pi, mi_pT, ml_pi, ml_pT, mr_pi, mr_pT, mz_pT, mcs_0, mcs_r, Kn_v, Kn_x, mrf_some, true_and, and_true, not_true_eq_false, not_false_eq_true, false_implies, forall_const, if_true, if_false, and_self, Nat.reduceLeDiff, Nat.reduceSub, Nat.reduceAdd, Nat.zero_le, Nat.le_refl, i10, Sum.inl.injEq, Option.some.injEq, Value.int.injEq, exists_eq_left', Nat.reduceLT, kc0, kc22, kc29, kn29, kr22_7, kz, be, be2]
    intro t ht
    first | refine ⟨⟨?_, ?_, ?_, ?_, ?_, ?_, ?_, ?_, ?_, ?_, ?_, ?_⟩, rfl⟩ | refine ⟨?_, ?_, ?_, ?_, ?_, ?_, ?_, ?_, ?_, ?_, ?_, ?_⟩
    · (try simp only [K_pi])
      exact K_pT ht vk
    · (try simp only [Cn_pi_j22 hA, Cn_pT])
      exact vcn
    · (try simp only [Vq0_pi_j22 hA, Vq0_pT])
      exact v0
    · (try simp only [Vq1_pi_j22 hA, Vq1_pT])
      exact v1
    · (try simp only [Vq2_pi_j22 hA, Vq2_pT])
      exact v2
    · (try simp only [Vp_thr hA, Vp_pT])
      exact vp
    · (try simp only [Vl0_pi_j22 hA, Vl0_pT])
      exact vl0
    · (try simp only [Vl1_pi_j22 hA, Vl1_pT])
      exact vl1
    · (try simp only [Vlr_pi_j22 hA, Vlr_pT])
      exact vlr
    · (try simp only [Vsr_pi_j22 hA, Vsr_pT])
      exact vsr
    · (try simp only [Vc_pi_j22 hA, Vc_pT])
      exact vc
    · (try simp only [Tx_pi_j22 hA])
      exact Tx_pT ht tx
  · have y1 : ¬ e < 0 := fun z => be (Or.inl z)
    have y2 : e < 2 := Classical.byContradiction fun z => be (Or.inr z)
    rcases e_cases y1 y2 with rfl | rfl
    · have hl2 := vl0
      obtain ⟨⟨b1, b2, b3, b4, b5, b6⟩, ln⟩ := hl2
      replace b1 := b1.symm
      replace b2 := b2.symm
      replace b3 := b3.symm
      replace b4 := b4.symm
      replace b5 := b5.symm
      replace b6 := b6.symm
      rw [b1, b2, b3, b4, b5, b6] at ln
      by_cases x0 : x < 0 <;> by_cases x1 : g_i h (A 15) 2 < x
      · skip
        simp only [o318_0, o318_1, o318_2, o318_3, o318_4, o318_7, o318_8, o318_11, o318_18, o318_19, o92_0, o92_1, o92_2, o92_5, o92_6, o92_7, o92_10, o92_11, o92_12, o92_15, o92_18, o92_19, o92_22, o92_24, o92_27, o92_28, o92_29, o92_30, o223_0, o223_1, o223_2, o223_5, o223_8, o223_9, o223_12, o223_13, o223_16, o223_19, o223_20, o223_21, o223_22, o223_25, o223_26, o223_27, o223_30, o223_31, o223_32, o223_35, o223_38, o223_39, o223_41, o223_44, o223_45, o223_46, o223_49, o223_50, o223_51, o223_52, c_X8_isThrown__, c_X8_isLens, c_lensOf_0, c_ref_6 (cs := A 18), c_X8_no (cs := A 30), mc_pi, mc_pl, mn_pi, mn_pl, mi_pi, mi_pl, ml_pi, ml_pl, mr_pi, mr_pl, mz_pi, mz_pl, mcs_0, mcs_r, Kn_v, mrf_some, true_and, and_true, or_false, not_true_eq_false, not_false_eq_true, false_implies, implies_true, forall_const, if_true, if_false, and_self, Nat.reduceEqDiff, Nat.reduceLeDiff, Nat.reduceSub, Nat.reduceAdd, Nat.zero_le, Nat.le_refl, i10, i01, lt_le, Int32.reduceSub, cl0, cl6, Kc_v, Sum.inl.injEq, Option.some.injEq, Value.int.injEq, exists_eq_left', Nat.reduceLT, hAe, kc0, kc15, kc17, kc18, kc22, kc29, kc30, kc37, kc39, kn18, kn29, kn30, kr0_7, kr0_9, kr17_0, kr22_7, kr22_8, kr29_0, kz, b2, be0, x0, x1, v18, cl6]
        first | refine ⟨⟨?_, ?_, ?_, ?_, ?_, ?_, ?_, ?_, ?_, ?_, ?_, ?_⟩, rfl⟩ | refine ⟨?_, ?_, ?_, ?_, ?_, ?_, ?_, ?_, ?_, ?_, ?_, ?_⟩
        · (try simp only [K_pi, K_pl])
          exact vk
        · (try simp only [Cn_pi_j18 hA, Cn_pi_j22 hA, Cn_pi_j30 hA, Cn_pl])
          exact vcn
        · (try simp only [Vq0_pi_j18 hA, Vq0_pi_j22 hA, Vq0_pi_j30 hA, Vq0_pl])
          exact v0
        · (try simp only [Vq1_pi_j18 hA, Vq1_pi_j22 hA, Vq1_pi_j30 hA, Vq1_pl])
          exact v1
        · (try simp only [Vq2_pi_j18 hA, Vq2_pi_j22 hA, Vq2_pi_j30 hA, Vq2_pl])
          exact v2
        · (try simp only [Vp_pi_j18 hA, Vp_pi_j30 hA, Vp_thr hA, Vp_pl])
          exact vp
        · (try simp only [Vl0_pi_j18 hA, Vl0_pi_j22 hA, Vl0_pi_j30 hA, Vl0_pl])
          exact vl0
        · (try simp only [Vl1_pi_j18 hA, Vl1_pi_j22 hA, Vl1_pi_j30 hA, Vl1_pl])
          exact vl1
        · (try simp only [Vlr_pi_j18 hA, Vlr_pi_j22 hA, Vlr_pi_j30 hA, Vlr_pl_j39 hA])
          exact vlr
        · (try simp only [Vsr_pi_j18 hA, Vsr_pi_j22 hA, Vsr_pi_j30 hA, Vsr_pl_j39 hA])
          exact vsr
        · refine Vc_of (c := 6) vc (by decide) (fun k => ?_) (fun k => ?_) <;> simp only [mi_pi, mi_pl, hAe, Nat.reduceLT, Nat.reduceEqDiff, false_and, true_and, if_false]
        · (try simp only [Tx_pi_j18 hA, Tx_pi_j22 hA, Tx_pi_j30 hA, Tx_pl])
          exact tx
      · skip
        simp only [o318_0, o318_1, o318_2, o318_3, o318_4, o318_7, o318_8, o318_11, o318_18, o318_19, o92_0, o92_1, o92_2, o92_5, o92_6, o92_7, o92_10, o92_11, o92_12, o92_15, o92_18, o92_19, o92_22, o92_24, o92_27, o92_28, o92_29, o92_30, o223_0, o223_1, o223_2, o223_5, o223_8, o223_9, o223_12, o223_13, o223_16, o223_19, o223_20, o223_21, o223_22, o223_25, o223_26, o223_27, o223_30, o223_31, o223_32, o223_35, o223_38, o223_39, o223_41, o223_44, o223_45, o223_46, o223_49, o223_50, o223_51, o223_52, c_X8_isThrown__, c_X8_isLens, c_lensOf_0, c_ref_6 (cs := A 18), c_X8_no (cs := A 30), mc_pi, mc_pl, mn_pi, mn_pl, mi_pi, mi_pl, ml_pi, ml_pl, mr_pi, mr_pl, mz_pi, mz_pl, mcs_0, mcs_r, Kn_v, mrf_some, true_and, and_true, or_false, not_true_eq_false, not_false_eq_true, false_implies, implies_true, forall_const, if_true, if_false, and_self, Nat.reduceEqDiff, Nat.reduceLeDiff, Nat.reduceSub, Nat.reduceAdd, Nat.zero_le, Nat.le_refl, i10, i01, lt_le, Int32.reduceSub, cl0, cl6, Kc_v, Sum.inl.injEq, Option.some.injEq, Value.int.injEq, exists_eq_left', Nat.reduceLT, hAe, kc0, kc15, kc17, kc18, kc22, kc29, kc30, kc37, kc39, kn18, kn29, kn30, kr0_7, kr0_9, kr17_0, kr22_7, kr22_8, kr29_0, kz, b2, be0, x0, x1, v18, cl6]
        first | refine ⟨⟨?_, ?_, ?_, ?_, ?_, ?_, ?_, ?_, ?_, ?_, ?_, ?_⟩, rfl⟩ | refine ⟨?_, ?_, ?_, ?_, ?_, ?_, ?_, ?_, ?_, ?_, ?_, ?_⟩
        · (try simp only [K_pi, K_pl])
          exact vk
        · (try simp only [Cn_pi_j18 hA, Cn_pi_j22 hA, Cn_pi_j30 hA, Cn_pl])
          exact vcn
        · (try simp only [Vq0_pi_j18 hA, Vq0_pi_j22 hA, Vq0_pi_j30 hA, Vq0_pl])
          exact v0
        · (try simp only [Vq1_pi_j18 hA, Vq1_pi_j22 hA, Vq1_pi_j30 hA, Vq1_pl])
          exact v1
        · (try simp only [Vq2_pi_j18 hA, Vq2_pi_j22 hA, Vq2_pi_j30 hA, Vq2_pl])
          exact v2
        · (try simp only [Vp_pi_j18 hA, Vp_pi_j30 hA, Vp_thr hA, Vp_pl])
          exact vp
        · (try simp only [Vl0_pi_j18 hA, Vl0_pi_j22 hA, Vl0_pi_j30 hA, Vl0_pl])
          exact vl0
        · (try simp only [Vl1_pi_j18 hA, Vl1_pi_j22 hA, Vl1_pi_j30 hA, Vl1_pl])
          exact vl1
        · (try simp only [Vlr_pi_j18 hA, Vlr_pi_j22 hA, Vlr_pi_j30 hA, Vlr_pl_j39 hA])
          exact vlr
        · (try simp only [Vsr_pi_j18 hA, Vsr_pi_j22 hA, Vsr_pi_j30 hA, Vsr_pl_j39 hA])
          exact vsr
        · refine Vc_of (c := 6) vc (by decide) (fun k => ?_) (fun k => ?_) <;> simp only [mi_pi, mi_pl, hAe, Nat.reduceLT, Nat.reduceEqDiff, false_and, true_and, if_false]
        · (try simp only [Tx_pi_j18 hA, Tx_pi_j22 hA, Tx_pi_j30 hA, Tx_pl])
          exact tx
      · skip
        simp only [o318_0, o318_1, o318_2, o318_3, o318_4, o318_7, o318_8, o318_11, o318_18, o318_19, o92_0, o92_1, o92_2, o92_5, o92_6, o92_7, o92_10, o92_11, o92_12, o92_15, o92_18, o92_19, o92_22, o92_24, o92_27, o92_28, o92_29, o92_30, o223_0, o223_1, o223_2, o223_5, o223_8, o223_9, o223_12, o223_13, o223_16, o223_19, o223_20, o223_21, o223_22, o223_25, o223_26, o223_27, o223_30, o223_31, o223_32, o223_35, o223_38, o223_39, o223_41, o223_44, o223_45, o223_46, o223_49, o223_50, o223_51, o223_52, c_X8_isThrown__, c_X8_isLens, c_lensOf_0, c_ref_6 (cs := A 18), c_X8_no (cs := A 30), mc_pi, mc_pl, mn_pi, mn_pl, mi_pi, mi_pl, ml_pi, ml_pl, mr_pi, mr_pl, mz_pi, mz_pl, mcs_0, mcs_r, Kn_v, mrf_some, true_and, and_true, or_false, not_true_eq_false, not_false_eq_true, false_implies, implies_true, forall_const, if_true, if_false, and_self, Nat.reduceEqDiff, Nat.reduceLeDiff, Nat.reduceSub, Nat.reduceAdd, Nat.zero_le, Nat.le_refl, i10, i01, lt_le, Int32.reduceSub, cl0, cl6, Kc_v, Sum.inl.injEq, Option.some.injEq, Value.int.injEq, exists_eq_left', Nat.reduceLT, hAe, kc0, kc15, kc17, kc18, kc22, kc29, kc30, kc37, kc39, kn18, kn29, kn30, kr0_7, kr0_9, kr17_0, kr22_7, kr22_8, kr29_0, kz, b2, be0, x0, x1, v18, cl6]
        first | refine ⟨⟨?_, ?_, ?_, ?_, ?_, ?_, ?_, ?_, ?_, ?_, ?_, ?_⟩, rfl⟩ | refine ⟨?_, ?_, ?_, ?_, ?_, ?_, ?_, ?_, ?_, ?_, ?_, ?_⟩
        · (try simp only [K_pi, K_pl])
          exact vk
        · (try simp only [Cn_pi_j18 hA, Cn_pi_j22 hA, Cn_pi_j30 hA, Cn_pl])
          exact vcn
        · (try simp only [Vq0_pi_j18 hA, Vq0_pi_j22 hA, Vq0_pi_j30 hA, Vq0_pl])
          exact v0
        · (try simp only [Vq1_pi_j18 hA, Vq1_pi_j22 hA, Vq1_pi_j30 hA, Vq1_pl])
          exact v1
        · (try simp only [Vq2_pi_j18 hA, Vq2_pi_j22 hA, Vq2_pi_j30 hA, Vq2_pl])
          exact v2
        · (try simp only [Vp_pi_j18 hA, Vp_pi_j30 hA, Vp_thr hA, Vp_pl])
          exact vp
        · (try simp only [Vl0_pi_j18 hA, Vl0_pi_j22 hA, Vl0_pi_j30 hA, Vl0_pl])
          exact vl0
        · (try simp only [Vl1_pi_j18 hA, Vl1_pi_j22 hA, Vl1_pi_j30 hA, Vl1_pl])
          exact vl1
        · (try simp only [Vlr_pi_j18 hA, Vlr_pi_j22 hA, Vlr_pi_j30 hA, Vlr_pl_j39 hA])
          exact vlr
        · (try simp only [Vsr_pi_j18 hA, Vsr_pi_j22 hA, Vsr_pi_j30 hA, Vsr_pl_j39 hA])
          exact vsr
        · refine Vc_of (c := 6) vc (by decide) (fun k => ?_) (fun k => ?_) <;> simp only [mi_pi, mi_pl, hAe, Nat.reduceLT, Nat.reduceEqDiff, false_and, true_and, if_false]
        · (try simp only [Tx_pi_j18 hA, Tx_pi_j22 hA, Tx_pi_j30 hA, Tx_pl])
          exact tx
      · have hq9 := lnL ln x0 x1
        simp only [o318_0, o318_1, o318_2, o318_3, o318_4, o318_7, o318_8, o318_11, o318_18, o318_19, o92_0, o92_1, o92_2, o92_5, o92_6, o92_7, o92_10, o92_11, o92_12, o92_15, o92_18, o92_19, o92_22, o92_24, o92_28, o92_29, o92_30, o92_33, o92_34, o92_37, o92_38, o92_41, o92_44, o223_0, o223_1, o223_2, o223_5, o223_8, o223_9, o223_12, o223_13, o223_16, o223_19, o223_20, o223_21, o223_22, o223_25, o223_26, o223_27, o223_30, o223_31, o223_32, o223_35, o223_38, o223_39, o223_41, o223_45, o223_46, o223_49, o223_50, o223_51, o223_52, o223_55, o223_56, o223_57, o223_60, o223_61, o223_62, o223_65, o223_68, c_X8_isThrown__, c_X8_isLens, c_lensOf_0, c_X3_setLimit, c_X7_toLimit, c_X3_rests, c_X7_rests, c_X0_done (cs := A 18), c_X8_done (cs := A 30), mc_pi, mc_pl, mn_pi, mn_pl, mi_pi, mi_pl, ml_pi, ml_pl, mr_pi, mr_pl, mz_pi, mz_pl, mcs_0, mcs_r, Kn_v, Kn_0, mrf_some, true_and, and_true, and_false, or_false, not_true_eq_false, not_false_eq_true, false_implies, implies_true, forall_const, if_true, if_false, and_self, Nat.reduceEqDiff, Nat.reduceLeDiff, Nat.reduceSub, Nat.reduceAdd, Nat.zero_le, Nat.le_refl, i10, i01, lt_le, cl0, Kc_v, Sum.inl.injEq, Option.some.injEq, Value.int.injEq, exists_eq_left', Nat.reduceLT, hAe, kc0, kc15, kc17, kc18, kc22, kc29, kc30, kc37, kc39, kn18, kn29, kn30, kr0_7, kr0_9, kr17_0, kr22_7, kr22_8, kr29_0, kz, b2, b4, b5, b6, be0, x0, x1, liM, liP]
        simp only [liM, liP] at hq9
        first | refine ⟨⟨?_, ?_, ?_, ?_, ?_, ?_, ?_, ?_, ?_, ?_, ?_, ?_⟩, rfl⟩ | refine ⟨?_, ?_, ?_, ?_, ?_, ?_, ?_, ?_, ?_, ?_, ?_, ?_⟩
        · (try simp only [K_pi, K_pl])
          exact vk
        · (try simp only [Cn_pi_j18 hA, Cn_pi_j22 hA, Cn_pi_j30 hA, Cn_pi_j15 hA, Cn_pi_j37 hA, Cn_pl])
          exact vcn
        · (try simp only [Vq0_pi_j18 hA, Vq0_pi_j22 hA, Vq0_pi_j30 hA, Vq0_pi_j15 hA, Vq0_pi_j37 hA, Vq0_pl])
          exact v0
        · (try simp only [Vq1_pi_j18 hA, Vq1_pi_j22 hA, Vq1_pi_j30 hA, Vq1_pi_j15 hA, Vq1_pi_j37 hA, Vq1_pl])
          exact v1
        · (try simp only [Vq2_pi_j18 hA, Vq2_pi_j22 hA, Vq2_pi_j30 hA, Vq2_pi_j15 hA, Vq2_pi_j37 hA, Vq2_pl])
          exact v2
        · (try simp only [Vp_pi_j18 hA, Vp_pi_j30 hA, Vp_pi_j15 hA, Vp_pi_j37 hA, Vp_thr hA, Vp_pl])
          exact vp
        · simp only [Vl0, mi_pi, mi_pl, hAe, Nat.reduceLT, Nat.reduceEqDiff, and_false, true_and, and_true, if_false, if_true, b1, b2, b3, b4, b5, b6, true_and, and_self]
          first | exact hq9 | exact ⟨⟨rfl, rfl, rfl, rfl, rfl, rfl⟩, hq9⟩ | (refine ⟨⟨?_, ?_, ?_, ?_, ?_, ?_⟩, hq9⟩ <;> first | rfl | trivial)
        · (try simp only [Vl1_pi_j18 hA, Vl1_pi_j22 hA, Vl1_pi_j30 hA, Vl1_pi_j15 hA, Vl1_pi_j37 hA, Vl1_pl])
          exact vl1
        · (try simp only [Vlr_pi_j18 hA, Vlr_pi_j22 hA, Vlr_pi_j30 hA, Vlr_pi_j15 hA, Vlr_pi_j37 hA, Vlr_pl_j39 hA])
          exact vlr
        · (try simp only [Vsr_pi_j18 hA, Vsr_pi_j22 hA, Vsr_pi_j30 hA, Vsr_pi_j15 hA, Vsr_pi_j37 hA, Vsr_pl_j39 hA])
          exact vsr
        · refine Vc_of (c := 0) vc (by decide) (fun k => ?_) (fun k => ?_) <;> simp only [mi_pi, mi_pl, hAe, Nat.reduceLT, Nat.reduceEqDiff, false_and, true_and, if_false]
        · (try simp only [Tx_pi_j18 hA, Tx_pi_j22 hA, Tx_pi_j30 hA, Tx_pi_j15 hA, Tx_pi_j37 hA, Tx_pl])
          exact tx
    · have hl2 := vl1
      obtain ⟨⟨b1, b2, b3, b4, b5, b6⟩, ln⟩ := hl2
      replace b1 := b1.symm
      replace b2 := b2.symm
      replace b3 := b3.symm
      replace b4 := b4.symm
      replace b5 := b5.symm
      replace b6 := b6.symm
      rw [b1, b2, b3, b4, b5, b6] at ln
      by_cases x0 : x < 0 <;> by_cases x1 : g_i h (A 16) 2 < x
      · skip
        simp only [o318_0, o318_1, o318_2, o318_3, o318_4, o318_7, o318_8, o318_11, o318_18, o318_19, o92_0, o92_1, o92_2, o92_5, o92_6, o92_7, o92_10, o92_11, o92_12, o92_15, o92_18, o92_19, o92_22, o92_24, o92_27, o92_28, o92_29, o92_30, o223_0, o223_1, o223_2, o223_5, o223_8, o223_9, o223_12, o223_13, o223_16, o223_19, o223_20, o223_21, o223_22, o223_25, o223_26, o223_27, o223_30, o223_31, o223_32, o223_35, o223_38, o223_39, o223_41, o223_44, o223_45, o223_46, o223_49, o223_50, o223_51, o223_52, c_X8_isThrown__, c_X8_isLens, c_lensOf_1, c_ref_6 (cs := A 18), c_X8_no (cs := A 30), mc_pi, mc_pl, mn_pi, mn_pl, mi_pi, mi_pl, ml_pi, ml_pl, mr_pi, mr_pl, mz_pi, mz_pl, mcs_0, mcs_r, Kn_v, mrf_some, true_and, and_true, or_true, not_true_eq_false, not_false_eq_true, false_implies, implies_true, forall_const, if_true, if_false, and_self, Nat.reduceEqDiff, Nat.reduceLeDiff, Nat.reduceSub, Nat.reduceAdd, Nat.zero_le, Nat.le_refl, i10, lt_le, Int32.reduceSub, cl1, cl6, Kc_v, Sum.inl.injEq, Option.some.injEq, Value.int.injEq, exists_eq_left', Nat.reduceLT, hAe, kc0, kc16, kc17, kc18, kc22, kc29, kc30, kc38, kc39, kn18, kn29, kn30, kr0_8, kr0_9, kr17_0, kr22_7, kr22_8, kr29_1, kz, b2, be0, x0, x1, v18, cl6]
        first | refine ⟨⟨?_, ?_, ?_, ?_, ?_, ?_, ?_, ?_, ?_, ?_, ?_, ?_⟩, rfl⟩ | refine ⟨?_, ?_, ?_, ?_, ?_, ?_, ?_, ?_, ?_, ?_, ?_, ?_⟩
        · (try simp only [K_pi, K_pl])
          exact vk
        · (try simp only [Cn_pi_j18 hA, Cn_pi_j22 hA, Cn_pi_j30 hA, Cn_pl])
          exact vcn
        · (try simp only [Vq0_pi_j18 hA, Vq0_pi_j22 hA, Vq0_pi_j30 hA, Vq0_pl])
          exact v0
        · (try simp only [Vq1_pi_j18 hA, Vq1_pi_j22 hA, Vq1_pi_j30 hA, Vq1_pl])
          exact v1
        · (try simp only [Vq2_pi_j18 hA, Vq2_pi_j22 hA, Vq2_pi_j30 hA, Vq2_pl])
          exact v2
        · (try simp only [Vp_pi_j18 hA, Vp_pi_j30 hA, Vp_thr hA, Vp_pl])
          exact vp
        · (try simp only [Vl0_pi_j18 hA, Vl0_pi_j22 hA, Vl0_pi_j30 hA, Vl0_pl])
          exact vl0
        · (try simp only [Vl1_pi_j18 hA, Vl1_pi_j22 hA, Vl1_pi_j30 hA, Vl1_pl])
          exact vl1
        · (try simp only [Vlr_pi_j18 hA, Vlr_pi_j22 hA, Vlr_pi_j30 hA, Vlr_pl_j39 hA])
          exact vlr
        · (try simp only [Vsr_pi_j18 hA, Vsr_pi_j22 hA, Vsr_pi_j30 hA, Vsr_pl_j39 hA])
          exact vsr
        · refine Vc_of (c := 6) vc (by decide) (fun k => ?_) (fun k => ?_) <;> simp only [mi_pi, mi_pl, hAe, Nat.reduceLT, Nat.reduceEqDiff, false_and, true_and, if_false]
        · (try simp only [Tx_pi_j18 hA, Tx_pi_j22 hA, Tx_pi_j30 hA, Tx_pl])
          exact tx
      · skip
        simp only [o318_0, o318_1, o318_2, o318_3, o318_4, o318_7, o318_8, o318_11, o318_18, o318_19, o92_0, o92_1, o92_2, o92_5, o92_6, o92_7, o92_10, o92_11, o92_12, o92_15, o92_18, o92_19, o92_22, o92_24, o92_27, o92_28, o92_29, o92_30, o223_0, o223_1, o223_2, o223_5, o223_8, o223_9, o223_12, o223_13, o223_16, o223_19, o223_20, o223_21, o223_22, o223_25, o223_26, o223_27, o223_30, o223_31, o223_32, o223_35, o223_38, o223_39, o223_41, o223_44, o223_45, o223_46, o223_49, o223_50, o223_51, o223_52, c_X8_isThrown__, c_X8_isLens, c_lensOf_1, c_ref_6 (cs := A 18), c_X8_no (cs := A 30), mc_pi, mc_pl, mn_pi, mn_pl, mi_pi, mi_pl, ml_pi, ml_pl, mr_pi, mr_pl, mz_pi, mz_pl, mcs_0, mcs_r, Kn_v, mrf_some, true_and, and_true, or_true, not_true_eq_false, not_false_eq_true, false_implies, implies_true, forall_const, if_true, if_false, and_self, Nat.reduceEqDiff, Nat.reduceLeDiff, Nat.reduceSub, Nat.reduceAdd, Nat.zero_le, Nat.le_refl, i10, lt_le, Int32.reduceSub, cl1, cl6, Kc_v, Sum.inl.injEq, Option.some.injEq, Value.int.injEq, exists_eq_left', Nat.reduceLT, hAe, kc0, kc16, kc17, kc18, kc22, kc29, kc30, kc38, kc39, kn18, kn29, kn30, kr0_8, kr0_9, kr17_0, kr22_7, kr22_8, kr29_1, kz, b2, be0, x0, x1, v18, cl6]
        first | refine ⟨⟨?_, ?_, ?_, ?_, ?_, ?_, ?_, ?_, ?_, ?_, ?_, ?_⟩, rfl⟩ | refine ⟨?_, ?_, ?_, ?_, ?_, ?_, ?_, ?_, ?_, ?_, ?_, ?_⟩
        · (try simp only [K_pi, K_pl])
          exact vk
        · (try simp only [Cn_pi_j18 hA, Cn_pi_j22 hA, Cn_pi_j30 hA, Cn_pl])
          exact vcn
        · (try simp only [Vq0_pi_j18 hA, Vq0_pi_j22 hA, Vq0_pi_j30 hA, Vq0_pl])
          exact v0
        · (try simp only [Vq1_pi_j18 hA, Vq1_pi_j22 hA, Vq1_pi_j30 hA, Vq1_pl])
          exact v1
        · (try simp only [Vq2_pi_j18 hA, Vq2_pi_j22 hA, Vq2_pi_j30 hA, Vq2_pl])
          exact v2
        · (try simp only [Vp_pi_j18 hA, Vp_pi_j30 hA, Vp_thr hA, Vp_pl])
          exact vp
        · (try simp only [Vl0_pi_j18 hA, Vl0_pi_j22 hA, Vl0_pi_j30 hA, Vl0_pl])
          exact vl0
        · (try simp only [Vl1_pi_j18 hA, Vl1_pi_j22 hA, Vl1_pi_j30 hA, Vl1_pl])
          exact vl1
        · (try simp only [Vlr_pi_j18 hA, Vlr_pi_j22 hA, Vlr_pi_j30 hA, Vlr_pl_j39 hA])
          exact vlr
        · (try simp only [Vsr_pi_j18 hA, Vsr_pi_j22 hA, Vsr_pi_j30 hA, Vsr_pl_j39 hA])
          exact vsr
        · refine Vc_of (c := 6) vc (by decide) (fun k => ?_) (fun k => ?_) <;> simp only [mi_pi, mi_pl, hAe, Nat.reduceLT, Nat.reduceEqDiff, false_and, true_and, if_false]
        · (try simp only [Tx_pi_j18 hA, Tx_pi_j22 hA, Tx_pi_j30 hA, Tx_pl])
          exact tx
      · skip
        simp only [o318_0, o318_1, o318_2, o318_3, o318_4, o318_7, o318_8, o318_11, o318_18, o318_19, o92_0, o92_1, o92_2, o92_5, o92_6, o92_7, o92_10, o92_11, o92_12, o92_15, o92_18, o92_19, o92_22, o92_24, o92_27, o92_28, o92_29, o92_30, o223_0, o223_1, o223_2, o223_5, o223_8, o223_9, o223_12, o223_13, o223_16, o223_19, o223_20, o223_21, o223_22, o223_25, o223_26, o223_27, o223_30, o223_31, o223_32, o223_35, o223_38, o223_39, o223_41, o223_44, o223_45, o223_46, o223_49, o223_50, o223_51, o223_52, c_X8_isThrown__, c_X8_isLens, c_lensOf_1, c_ref_6 (cs := A 18), c_X8_no (cs := A 30), mc_pi, mc_pl, mn_pi, mn_pl, mi_pi, mi_pl, ml_pi, ml_pl, mr_pi, mr_pl, mz_pi, mz_pl, mcs_0, mcs_r, Kn_v, mrf_some, true_and, and_true, or_true, not_true_eq_false, not_false_eq_true, false_implies, implies_true, forall_const, if_true, if_false, and_self, Nat.reduceEqDiff, Nat.reduceLeDiff, Nat.reduceSub, Nat.reduceAdd, Nat.zero_le, Nat.le_refl, i10, lt_le, Int32.reduceSub, cl1, cl6, Kc_v, Sum.inl.injEq, Option.some.injEq, Value.int.injEq, exists_eq_left', Nat.reduceLT, hAe, kc0, kc16, kc17, kc18, kc22, kc29, kc30, kc38, kc39, kn18, kn29, kn30, kr0_8, kr0_9, kr17_0, kr22_7, kr22_8, kr29_1, kz, b2, be0, x0, x1, v18, cl6]
        first | refine ⟨⟨?_, ?_, ?_, ?_, ?_, ?_, ?_, ?_, ?_, ?_, ?_, ?_⟩, rfl⟩ | refine ⟨?_, ?_, ?_, ?_, ?_, ?_, ?_, ?_, ?_, ?_, ?_, ?_⟩
        · (try simp only [K_pi, K_pl])
          exact vk
        · (try simp only [Cn_pi_j18 hA, Cn_pi_j22 hA, Cn_pi_j30 hA, Cn_pl])
          exact vcn
        · (try simp only [Vq0_pi_j18 hA, Vq0_pi_j22 hA, Vq0_pi_j30 hA, Vq0_pl])
          exact v0
        · (try simp only [Vq1_pi_j18 hA, Vq1_pi_j22 hA, Vq1_pi_j30 hA, Vq1_pl])
          exact v1
        · (try simp only [Vq2_pi_j18 hA, Vq2_pi_j22 hA, Vq2_pi_j30 hA, Vq2_pl])
          exact v2
        · (try simp only [Vp_pi_j18 hA, Vp_pi_j30 hA, Vp_thr hA, Vp_pl])
          exact vp
        · (try simp only [Vl0_pi_j18 hA, Vl0_pi_j22 hA, Vl0_pi_j30 hA, Vl0_pl])
          exact vl0
        · (try simp only [Vl1_pi_j18 hA, Vl1_pi_j22 hA, Vl1_pi_j30 hA, Vl1_pl])
          exact vl1
        · (try simp only [Vlr_pi_j18 hA, Vlr_pi_j22 hA, Vlr_pi_j30 hA, Vlr_pl_j39 hA])
          exact vlr
        · (try simp only [Vsr_pi_j18 hA, Vsr_pi_j22 hA, Vsr_pi_j30 hA, Vsr_pl_j39 hA])
          exact vsr
        · refine Vc_of (c := 6) vc (by decide) (fun k => ?_) (fun k => ?_) <;> simp only [mi_pi, mi_pl, hAe, Nat.reduceLT, Nat.reduceEqDiff, false_and, true_and, if_false]
        · (try simp only [Tx_pi_j18 hA, Tx_pi_j22 hA, Tx_pi_j30 hA, Tx_pl])
          exact tx
      · have hq9 := lnL ln x0 x1
        simp only [o318_0, o318_1, o318_2, o318_3, o318_4, o318_7, o318_8, o318_11, o318_18, o318_19, o92_0, o92_1, o92_2, o92_5, o92_6, o92_7, o92_10, o92_11, o92_12, o92_15, o92_18, o92_19, o92_22, o92_24, o92_28, o92_29, o92_30, o92_33, o92_34, o92_37, o92_38, o92_41, o92_44, o223_0, o223_1, o223_2, o223_5, o223_8, o223_9, o223_12, o223_13, o223_16, o223_19, o223_20, o223_21, o223_22, o223_25, o223_26, o223_27, o223_30, o223_31, o223_32, o223_35, o223_38, o223_39, o223_41, o223_45, o223_46, o223_49, o223_50, o223_51, o223_52, o223_55, o223_56, o223_57, o223_60, o223_61, o223_62, o223_65, o223_68, c_X8_isThrown__, c_X8_isLens, c_lensOf_1, c_X3_setLimit, c_X7_toLimit, c_X3_rests, c_X7_rests, c_X0_done (cs := A 18), c_X8_done (cs := A 30), mc_pi, mc_pl, mn_pi, mn_pl, mi_pi, mi_pl, ml_pi, ml_pl, mr_pi, mr_pl, mz_pi, mz_pl, mcs_0, mcs_r, Kn_v, Kn_0, mrf_some, true_and, and_true, and_false, or_true, not_true_eq_false, not_false_eq_true, false_implies, implies_true, forall_const, if_true, if_false, and_self, Nat.reduceEqDiff, Nat.reduceLeDiff, Nat.reduceSub, Nat.reduceAdd, Nat.zero_le, Nat.le_refl, i10, lt_le, cl1, Kc_v, Sum.inl.injEq, Option.some.injEq, Value.int.injEq, exists_eq_left', Nat.reduceLT, hAe, kc0, kc16, kc17, kc18, kc22, kc29, kc30, kc38, kc39, kn18, kn29, kn30, kr0_8, kr0_9, kr17_0, kr22_7, kr22_8, kr29_1, kz, b2, b4, b5, b6, be0, x0, x1, liM, liP]
        simp only [liM, liP] at hq9
        first | refine ⟨⟨?_, ?_, ?_, ?_, ?_, ?_, ?_, ?_, ?_, ?_, ?_, ?_⟩, rfl⟩ | refine ⟨?_, ?_, ?_, ?_, ?_, ?_, ?_, ?_, ?_, ?_, ?_, ?_⟩
        · (try simp only [K_pi, K_pl])
          exact vk
        · (try simp only [Cn_pi_j18 hA, Cn_pi_j22 hA, Cn_pi_j30 hA, Cn_pi_j16 hA, Cn_pi_j38 hA, Cn_pl])
          exact vcn
        · (try simp only [Vq0_pi_j18 hA, Vq0_pi_j22 hA, Vq0_pi_j30 hA, Vq0_pi_j16 hA, Vq0_pi_j38 hA, Vq0_pl])
          exact v0
        · (try simp only [Vq1_pi_j18 hA, Vq1_pi_j22 hA, Vq1_pi_j30 hA, Vq1_pi_j16 hA, Vq1_pi_j38 hA, Vq1_pl])
          exact v1
        · (try simp only [Vq2_pi_j18 hA, Vq2_pi_j22 hA, Vq2_pi_j30 hA, Vq2_pi_j16 hA, Vq2_pi_j38 hA, Vq2_pl])
          exact v2
        · (try simp only [Vp_pi_j18 hA, Vp_pi_j30 hA, Vp_pi_j16 hA, Vp_pi_j38 hA, Vp_thr hA, Vp_pl])
          exact vp
        · (try simp only [Vl0_pi_j18 hA, Vl0_pi_j22 hA, Vl0_pi_j30 hA, Vl0_pi_j16 hA, Vl0_pi_j38 hA, Vl0_pl])
          exact vl0
        · simp only [Vl1, mi_pi, mi_pl, hAe, Nat.reduceLT, Nat.reduceEqDiff, and_false, true_and, and_true, if_false, if_true, b1, b2, b3, b4, b5, b6, true_and, and_self]
          first | exact hq9 | exact ⟨⟨rfl, rfl, rfl, rfl, rfl, rfl⟩, hq9⟩ | (refine ⟨⟨?_, ?_, ?_, ?_, ?_, ?_⟩, hq9⟩ <;> first | rfl | trivial)
        · (try simp only [Vlr_pi_j18 hA, Vlr_pi_j22 hA, Vlr_pi_j30 hA, Vlr_pi_j16 hA, Vlr_pi_j38 hA, Vlr_pl_j39 hA])
          exact vlr
        · (try simp only [Vsr_pi_j18 hA, Vsr_pi_j22 hA, Vsr_pi_j30 hA, Vsr_pi_j16 hA, Vsr_pi_j38 hA, Vsr_pl_j39 hA])
          exact vsr
        · refine Vc_of (c := 0) vc (by decide) (fun k => ?_) (fun k => ?_) <;> simp only [mi_pi, mi_pl, hAe, Nat.reduceLT, Nat.reduceEqDiff, false_and, true_and, if_false]
        · (try simp only [Tx_pi_j18 hA, Tx_pi_j22 hA, Tx_pi_j30 hA, Tx_pi_j16 hA, Tx_pi_j38 hA, Tx_pl])
          exact tx

theorem hx_323_1 {l rest : List Value} {bc bs : Nat} {Q : MR → MH → Prop} {h : MH} : Kc Ok 323 3 6 l rest bc bs Q (.inr 1) h ↔ ∀ q : Nat, Ok 323 13 l [.ref q] h bc bs Q := Kc_x (by decide +kernel) (by decide +kernel)
theorem op_nextLong {A : Nat → Nat} {h : MH} (R : Rl A h) {s : Int32} : Ok 323 0 [.ref (A 0), .int s, .ref (A 39), mk0] [] h 1 6 (fun r h1 => ∃ k : Int32, r = .inl (some (.int k)) ∧ g_c h1 (A 22) = 9 ∧ Ok 231 0 [.ref (A 22), .int s] [] h1 0 0 (fun r2 h2 => ∃ b : Int32, r2 = .inl (some (.int b)) ∧ Rl A h2 ∧ g_i h2 (A 22) 9 = k ∧ (k = 0 → g_l h2 (A 39) 0 = b.toInt64))) := by
  obtain ⟨vk, vcn, v0, v1, v2, vp, vl0, vl1, vlr, vsr, vc, tx⟩ := R
  have vk0 := vk
  have vcn0 := vcn
  (refine K_el vk0 ?_; intros hA kc0 kc1 kc2 kc3 kc4 kc5 kc6 kc7 kc8 kc9 kc10 kc11 kc12 kc13 kc14 kc15 kc16 kc17 kc18 kc19 kc20 kc21 kc22 kc23 kc24 kc25 kc26 kc27 kc28 kc29 kc30 kc31 kc32 kc33 kc34 kc35 kc36 kc37 kc38 kc39 kz kt kn3 kn4 kn18 kn21 kn23 kn24 kn25 kn26 kn27 kn29 kn30 kr0_0 kr0_1 kr0_2 kr0_3 kr0_4 kr0_5 kr0_7 kr0_8 kr0_9 kr0_10 kr1_0 kr2_0 kr5_0 kr5_1 kr6_0 kr6_1 kr7_0 kr7_1 kr8_0 kr9_0 kr10_0 kr11_0 kr12_0 kr13_0 kr14_0 kr15_0 kr16_0 kr17_0 kr19_0 kr19_1 kr22_0 kr22_1 kr22_2 kr22_3 kr22_4 kr22_5 kr22_7 kr22_8 kr25_0 kr25_1 kr25_2 kr26_0 kr26_1 kr26_2 kr29_0 kr29_1)
  (refine Cn_el vcn0 ?_; intros ki5_2 ki6_2 ki7_2 ki8_1 ki8_2 ki8_3 ki9_1 ki9_2 ki9_3 ki10_1 ki10_2 ki10_3 ki11_1 ki11_2 ki11_3 ki12_1 ki12_2 ki12_3 ki13_1 ki13_2 ki13_3 ki14_1 ki14_2 ki14_3 ki28_0 ki28_1 ki31_0 ki31_1 ki32_0 ki32_1 ki33_0 ki33_1 ki34_0 ki34_1 ki35_0 ki35_1 ki36_0 ki36_1)
  have hAe : ∀ i j, i < 40 → j < 40 → (A i = A j ↔ i = j) := hA
  have hl2 := vl0
  obtain ⟨⟨b1, b2, b3, b4, b5, b6⟩, ln⟩ := hl2
  replace b1 := b1.symm
  replace b2 := b2.symm
  replace b3 := b3.symm
  replace b4 := b4.symm
  replace b5 := b5.symm
  replace b6 := b6.symm
  rw [b1, b2, b3, b4, b5, b6] at ln
  by_cases bs : s < 0 ∨ ¬ s < 6
  · have bs2 : (¬ s < 0 ∧ s < 6) = False := nrng bs
    simp only [o323_0, o323_1, o323_2, o323_3, o323_13, o323_14, o323_15, o97_0, o97_1, o97_4, o97_5, o97_8, o231_0, o231_1, o231_2, o231_5, o231_8, o231_9, o231_12, o231_13, o231_16, o231_19, o231_20, o231_21, o231_22, o231_25, o231_26, o231_27, hx_323_1, c_X5_checkSlot, c_X8_isSlot, c_X8_isThrown__, mc_pi, mc_pT, mn_pi, mn_pT, mi_pi, mi_pT, ml_pi, ml_pT, mr_pi, mr_pT, mz_pT, mcs_0, mcs_r, Kn_v, Kn_0, Kn_x, mrf_some, true_and, and_true, not_true_eq_false, not_false_eq_true, false_implies, forall_const, if_true, if_false, and_self, Nat.reduceLeDiff, Nat.reduceSub, Nat.reduceAdd, Nat.zero_le, Nat.le_refl, i10, cl0, Sum.inl.injEq, Option.some.injEq, Value.int.injEq, exists_eq_left', Nat.reduceLT, kc0, kc15, kc22, kc29, kc37, kn29, kr0_7, kr22_7, kr29_0, kz, bs, bs2]
    intro t ht
    first | refine ⟨⟨?_, ?_, ?_, ?_, ?_, ?_, ?_, ?_, ?_, ?_, ?_, ?_⟩, rfl⟩ | refine ⟨?_, ?_, ?_, ?_, ?_, ?_, ?_, ?_, ?_, ?_, ?_, ?_⟩
    · (try simp only [K_pi])
      exact K_pT ht vk
    · (try simp only [Cn_pi_j22 hA, Cn_pT])
      exact vcn
    · (try simp only [Vq0_pi_j22 hA, Vq0_pT])
      exact v0
    · (try simp only [Vq1_pi_j22 hA, Vq1_pT])
      exact v1
    · (try simp only [Vq2_pi_j22 hA, Vq2_pT])
      exact v2
    · (try simp only [Vp_thr hA, Vp_pT])
      exact vp
    · (try simp only [Vl0_pi_j22 hA, Vl0_pT])
      exact vl0
    · (try simp only [Vl1_pi_j22 hA, Vl1_pT])
      exact vl1
    · (try simp only [Vlr_pi_j22 hA, Vlr_pT])
      exact vlr
    · (try simp only [Vsr_pi_j22 hA, Vsr_pT])
      exact vsr
    · (try simp only [Vc_pi_j22 hA, Vc_pT])
      exact vc
    · (try simp only [Tx_pi_j22 hA])
      exact Tx_pT ht tx
  · have s1 : ¬ s < 0 := fun z => bs (Or.inl z)
    have s2 : s < 6 := Classical.byContradiction fun z => bs (Or.inr z)
    have hs := ix_ok s1 s2
    have hs2 := hs
    obtain ⟨⟨j0, j1, j2, j3⟩, d01, d02, d03, d10, d12, d13, d20, d21, d23, d30, d31, d32⟩ := hs2
    obtain ⟨l0, l1, l2, l3⟩ := ix_lt hs
    have vs0 := (vsr _ l0).1
    have vs1 := (vsr _ l1).1
    have vs2 := (vsr _ l2).1
    have vs3 := (vsr _ l3).1
    have bs2 : (¬ s < 0 ∧ s < 6) = True := eq_true ⟨s1, s2⟩
    by_cases e0 : g_i h (A 15) 5 - g_i h (A 15) 4 = 0
    · skip
      simp only [o323_0, o323_1, o323_2, o323_3, o323_6, o323_7, o323_10, o323_13, o323_14, o323_15, o323_16, o323_17, o97_0, o97_1, o97_4, o97_5, o97_8, o97_11, o97_14, o97_15, o97_18, o97_19, o97_22, o97_23, o97_24, o97_27, o97_28, o97_29, o97_30, o97_33, o231_0, o231_1, o231_2, o231_5, o231_8, o231_9, o231_12, o231_13, o231_16, o231_19, o231_20, o231_21, o231_22, o231_25, o231_26, o231_27, o231_30, o231_33, o231_34, o231_35, o231_38, o231_41, o231_42, o231_43, o231_44, o231_45, o231_48, o231_49, o231_50, o231_53, o231_54, o231_55, o231_65, hx_323_1, c_X5_checkSlot, c_X8_isSlot, c_X8_isThrown__, c_X3_rests, c_X7_rests, c_ref_2 (cs := A 18), c_X8_no (cs := A 30), mc_pi, mc_pl, mc_pT, mn_pi, mn_pl, mn_pT, mi_pi, mi_pl, mi_pT, ml_pi, ml_pl, ml_pT, mr_pi, mr_pl, mr_pT, mz_pi, mz_pl, mz_pT, mcs_0, mcs_i, mcs_r, Kn_v, Kn_0, Kn_x, mrf_some, true_and, and_true, and_false, or_false, not_true_eq_false, not_false_eq_true, false_implies, implies_true, forall_const, if_true, if_false, and_self, Nat.reduceEqDiff, Nat.reduceLeDiff, Nat.reduceSub, Nat.reduceAdd, Nat.zero_le, Nat.le_refl, i10, i01, Int32.reduceSub, cl0, cl2, Kc_v, Sum.inl.injEq, Option.some.injEq, Value.int.injEq, exists_eq_left', Nat.reduceLT, hAe, kc0, kc15, kc17, kc18, kc22, kc29, kc30, kc37, kc39, kn18, kn29, kn30, kr0_7, kr0_9, kr17_0, kr22_0, kr22_7, kr22_8, kr29_0, kz, b4, b5, be0, e0, v18, cl2, cl0, s1, s2, i64_inj]
      first | refine ⟨⟨?_, ?_, ?_, ?_, ?_, ?_, ?_, ?_, ?_, ?_, ?_, ?_⟩, rfl⟩ | refine ⟨?_, ?_, ?_, ?_, ?_, ?_, ?_, ?_, ?_, ?_, ?_, ?_⟩
      · (try simp only [K_pi, K_pl])
        exact vk
      · (try simp only [Cn_pi_j18 hA, Cn_pi_j22 hA, Cn_pi_j30 hA, Cn_pl])
        exact vcn
      · (try simp only [Vq0_pi_j18 hA, Vq0_pi_j22 hA, Vq0_pi_j30 hA, Vq0_pl])
        exact v0
      · (try simp only [Vq1_pi_j18 hA, Vq1_pi_j22 hA, Vq1_pi_j30 hA, Vq1_pl])
        exact v1
      · (try simp only [Vq2_pi_j18 hA, Vq2_pi_j22 hA, Vq2_pi_j30 hA, Vq2_pl])
        exact v2
      · (try simp only [Vp_pi_j18 hA, Vp_pi_j30 hA, Vp_thr hA, Vp_pl])
        exact vp
      · (try simp only [Vl0_pi_j18 hA, Vl0_pi_j22 hA, Vl0_pi_j30 hA, Vl0_pl])
        exact vl0
      · (try simp only [Vl1_pi_j18 hA, Vl1_pi_j22 hA, Vl1_pi_j30 hA, Vl1_pl])
        exact vl1
      · (try simp only [Vlr_pi_j18 hA, Vlr_pi_j22 hA, Vlr_pi_j30 hA, Vlr_pl_j39 hA])
        exact vlr
      · (try simp only [Vsr_pi_j18 hA, Vsr_pi_j22 hA, Vsr_pi_j30 hA, Vsr_pl_j39 hA])
        exact vsr
      · refine Vc_of (c := 2) vc (by decide) (fun k => ?_) (fun k => ?_) <;> simp only [mi_pi, mi_pl, hAe, Nat.reduceLT, Nat.reduceEqDiff, false_and, true_and, if_false]
      · (try simp only [Tx_pi_j18 hA, Tx_pi_j22 hA, Tx_pi_j30 hA, Tx_pl])
        exact tx
    · obtain ⟨i1, i2, hj, hq9⟩ := lnN (R := 16) ln (by decide) (by decide) (by decide) e0
      have hj2 := hj.2.2
      have vlk := (vlr _ (rdy_lt hj)).symm
      simp only [o323_0, o323_1, o323_2, o323_3, o323_6, o323_7, o323_10, o323_13, o323_14, o323_15, o323_16, o323_17, o97_0, o97_1, o97_4, o97_5, o97_8, o97_11, o97_14, o97_15, o97_18, o97_19, o97_23, o97_24, o97_27, o97_28, o97_29, o97_30, o97_33, o97_36, o97_39, o97_42, o231_0, o231_1, o231_2, o231_5, o231_8, o231_9, o231_12, o231_13, o231_16, o231_19, o231_20, o231_21, o231_22, o231_25, o231_26, o231_27, o231_30, o231_33, o231_34, o231_35, o231_41, o231_42, o231_43, o231_44, o231_45, o231_48, o231_49, o231_50, o231_53, o231_54, o231_55, o231_58, o231_59, o231_62, o231_65, hx_323_1, c_X5_checkSlot, c_X8_isSlot, c_X8_isThrown__, c_X3_rests, c_X7_rests, c_X3_readNext (rw := A 1) (cs := A 3) (n := 16), c_X8_next, c_X5_layNumber (rw := A 2) (cs := A 4), c_X8_laid (sr := A 24), c_X0_done (cs := A 18), c_X8_done (cs := A 30), mc_pi, mc_pl, mc_pT, mn_pi, mn_pl, mn_pT, mi_pi, mi_pl, mi_pT, ml_pi, ml_pl, ml_pT, mr_pi, mr_pl, mr_pT, mz_pi, mz_pl, mz_pT, mcs_0, mcs_i, mcs_r, Kn_v, Kn_0, Kn_x, mrf_some, true_and, and_true, false_and, and_false, or_false, not_true_eq_false, not_false_eq_true, false_implies, implies_true, forall_const, if_true, if_false, and_self, Nat.reduceEqDiff, Nat.reduceLeDiff, Nat.reduceSub, Nat.reduceAdd, Nat.zero_le, Nat.le_refl, i10, i01, cl0, Kc_v, Sum.inl.injEq, Option.some.injEq, Value.int.injEq, exists_eq_left', Nat.reduceLT, hAe, kc0, kc1, kc2, kc3, kc4, kc15, kc17, kc18, kc22, kc23, kc24, kc29, kc30, kc37, kc39, kn3, kn4, kn18, kn23, kn24, kn29, kn30, kr0_1, kr0_7, kr0_9, kr1_0, kr2_0, kr15_0, kr17_0, kr22_0, kr22_1, kr22_7, kr22_8, kr29_0, kz, b1, b4, b5, lnxt, be0, e0, i1, i2, hj, hj2, vlk, cl0, s1, s2, hs, vs0, vs1, vs2, vs3, i64_inj, fo0, fo1, fo2, fo3]
      first | refine ⟨⟨?_, ?_, ?_, ?_, ?_, ?_, ?_, ?_, ?_, ?_, ?_, ?_⟩, rfl⟩ | refine ⟨?_, ?_, ?_, ?_, ?_, ?_, ?_, ?_, ?_, ?_, ?_, ?_⟩
      · (try simp only [K_pi, K_pl])
        exact vk
      · (try simp only [Cn_pi_j18 hA, Cn_pi_j22 hA, Cn_pi_j30 hA, Cn_pi_j24 hA, Cn_pi_j15 hA, Cn_pi_j37 hA, Cn_pl])
        exact vcn
      · (try simp only [Vq0_pi_j18 hA, Vq0_pi_j22 hA, Vq0_pi_j30 hA, Vq0_pi_j24 hA, Vq0_pi_j15 hA, Vq0_pi_j37 hA, Vq0_pl])
        exact v0
      · (try simp only [Vq1_pi_j18 hA, Vq1_pi_j22 hA, Vq1_pi_j30 hA, Vq1_pi_j24 hA, Vq1_pi_j15 hA, Vq1_pi_j37 hA, Vq1_pl])
        exact v1
      · (try simp only [Vq2_pi_j18 hA, Vq2_pi_j22 hA, Vq2_pi_j30 hA, Vq2_pi_j24 hA, Vq2_pi_j15 hA, Vq2_pi_j37 hA, Vq2_pl])
        exact v2
      · (try simp only [Vp_pi_j18 hA, Vp_pi_j30 hA, Vp_pi_j24 hA, Vp_pi_j15 hA, Vp_pi_j37 hA, Vp_thr hA, Vp_pl])
        exact vp
      · simp only [Vl0, mi_pi, mi_pl, hAe, Nat.reduceLT, Nat.reduceEqDiff, false_and, and_false, true_and, and_true, if_false, if_true, b1, b2, b3, b4, b5, b6, true_and, and_self]
        first | exact hq9 | exact ⟨⟨rfl, rfl, rfl, rfl, rfl, rfl⟩, hq9⟩ | (refine ⟨⟨?_, ?_, ?_, ?_, ?_, ?_⟩, hq9⟩ <;> first | rfl | trivial)
      · (try simp only [Vl1_pi_j18 hA, Vl1_pi_j22 hA, Vl1_pi_j30 hA, Vl1_pi_j24 hA, Vl1_pi_j15 hA, Vl1_pi_j37 hA, Vl1_pl])
        exact vl1
      · (try simp only [Vlr_pi_j18 hA, Vlr_pi_j22 hA, Vlr_pi_j30 hA, Vlr_pi_j24 hA, Vlr_pi_j15 hA, Vlr_pi_j37 hA, Vlr_pl_j39 hA, Vlr_pl_j4 hA])
        exact vlr
      · simp only [Vsr_pi_j30 hA]
        refine Vsr_nest vsr (fun k => ?_) (fun k => ?_) <;> simp only [mi_pi, mi_pl, ml_pi, ml_pl, hAe, Nat.reduceLT, Nat.reduceEqDiff, false_and, true_and, if_false]
      · refine Vc_of (c := 0) vc (by decide) (fun k => ?_) (fun k => ?_) <;> simp only [mi_pi, mi_pl, hAe, Nat.reduceLT, Nat.reduceEqDiff, false_and, true_and, if_false]
      · (try simp only [Tx_pi_j18 hA, Tx_pi_j22 hA, Tx_pi_j30 hA, Tx_pi_j24 hA, Tx_pi_j15 hA, Tx_pi_j37 hA, Tx_pl])
        exact tx

theorem hx_324_1 {l rest : List Value} {bc bs : Nat} {Q : MR → MH → Prop} {h : MH} : Kc Ok 324 4 7 l rest bc bs Q (.inr 1) h ↔ ∀ q : Nat, Ok 324 14 l [.ref q] h bc bs Q := Kc_x (by decide +kernel) (by decide +kernel)
theorem op_longAt {A : Nat → Nat} {h : MH} (R : Rl A h) {e s : Int32} : Ok 324 0 [.ref (A 0), .int e, .int s, .ref (A 39), mk0] [] h 1 6 (fun r h1 => ∃ k : Int32, r = .inl (some (.int k)) ∧ g_c h1 (A 22) = 9 ∧ Ok 233 0 [.ref (A 22), .int e, .int s] [] h1 0 0 (fun r2 h2 => ∃ b : Int32, r2 = .inl (some (.int b)) ∧ Rl A h2 ∧ g_i h2 (A 22) 9 = k ∧ (k = 0 → g_l h2 (A 39) 0 = b.toInt64))) := by
  obtain ⟨vk, vcn, v0, v1, v2, vp, vl0, vl1, vlr, vsr, vc, tx⟩ := R
  have vk0 := vk
  have vcn0 := vcn
  (refine K_el vk0 ?_; intros hA kc0 kc1 kc2 kc3 kc4 kc5 kc6 kc7 kc8 kc9 kc10 kc11 kc12 kc13 kc14 kc15 kc16 kc17 kc18 kc19 kc20 kc21 kc22 kc23 kc24 kc25 kc26 kc27 kc28 kc29 kc30 kc31 kc32 kc33 kc34 kc35 kc36 kc37 kc38 kc39 kz kt kn3 kn4 kn18 kn21 kn23 kn24 kn25 kn26 kn27 kn29 kn30 kr0_0 kr0_1 kr0_2 kr0_3 kr0_4 kr0_5 kr0_7 kr0_8 kr0_9 kr0_10 kr1_0 kr2_0 kr5_0 kr5_1 kr6_0 kr6_1 kr7_0 kr7_1 kr8_0 kr9_0 kr10_0 kr11_0 kr12_0 kr13_0 kr14_0 kr15_0 kr16_0 kr17_0 kr19_0 kr19_1 kr22_0 kr22_1 kr22_2 kr22_3 kr22_4 kr22_5 kr22_7 kr22_8 kr25_0 kr25_1 kr25_2 kr26_0 kr26_1 kr26_2 kr29_0 kr29_1)
  (refine Cn_el vcn0 ?_; intros ki5_2 ki6_2 ki7_2 ki8_1 ki8_2 ki8_3 ki9_1 ki9_2 ki9_3 ki10_1 ki10_2 ki10_3 ki11_1 ki11_2 ki11_3 ki12_1 ki12_2 ki12_3 ki13_1 ki13_2 ki13_3 ki14_1 ki14_2 ki14_3 ki28_0 ki28_1 ki31_0 ki31_1 ki32_0 ki32_1 ki33_0 ki33_1 ki34_0 ki34_1 ki35_0 ki35_1 ki36_0 ki36_1)
  have hAe : ∀ i j, i < 40 → j < 40 → (A i = A j ↔ i = j) := hA
  have hl2 := vl0
  obtain ⟨⟨b1, b2, b3, b4, b5, b6⟩, ln⟩ := hl2
  replace b1 := b1.symm
  replace b2 := b2.symm
  replace b3 := b3.symm
  replace b4 := b4.symm
  replace b5 := b5.symm
  replace b6 := b6.symm
  rw [b1, b2, b3, b4, b5, b6] at ln
  by_cases bs : s < 0 ∨ ¬ s < 6
  · have bs2 : (¬ s < 0 ∧ s < 6) = False := nrng bs
    simp only [o324_0, o324_1, o324_2, o324_3, o324_4, o324_14, o324_16, o324_17, o98_0, o98_1, o98_4, o98_5, o98_8, o98_9, o98_10, o98_13, o98_16, o98_19, o98_20, o98_23, o98_24, o98_28, o98_29, o98_32, o98_33, o98_34, o98_35, o98_38, o98_39, o233_0, o233_1, o233_2, o233_5, o233_8, o233_9, o233_12, o233_13, o233_16, o233_19, o233_20, o233_21, o233_22, o233_25, o233_26, o233_27, o233_28, hx_324_1, c_X5_checkSlot, c_X8_isSlot, c_X8_isThrown__, mc_pi, mc_pT, mn_pi, mn_pT, mi_pi, mi_pT, ml_pi, ml_pT, mr_pi, mr_pT, mz_pT, mcs_0, mcs_i, mcs_r, Kn_v, Kn_0, Kn_x, mrf_some, true_and, and_true, not_true_eq_false, not_false_eq_true, false_implies, forall_const, if_true, if_false, and_self, Nat.reduceLeDiff, Nat.reduceSub, Nat.reduceAdd, Nat.zero_le, Nat.le_refl, i10, cl0, Sum.inl.injEq, Option.some.injEq, Value.int.injEq, exists_eq_left', Nat.reduceLT, kc0, kc15, kc17, kc22, kc29, kn29, kr0_7, kr0_9, kr22_7, kr29_0, kz, bs, bs2]
    intro t ht
    first | refine ⟨⟨?_, ?_, ?_, ?_, ?_, ?_, ?_, ?_, ?_, ?_, ?_, ?_⟩, rfl⟩ | refine ⟨?_, ?_, ?_, ?_, ?_, ?_, ?_, ?_, ?_, ?_, ?_, ?_⟩
    · (try simp only [K_pi])
      exact K_pT ht vk
    · (try simp only [Cn_pi_j22 hA, Cn_pT])
      exact vcn
    · (try simp only [Vq0_pi_j22 hA, Vq0_pT])
      exact v0
    · (try simp only [Vq1_pi_j22 hA, Vq1_pT])
      exact v1
    · (try simp only [Vq2_pi_j22 hA, Vq2_pT])
      exact v2
    · (try simp only [Vp_thr hA, Vp_pT])
      exact vp
    · (try simp only [Vl0_pi_j22 hA, Vl0_pT])
      exact vl0
    · (try simp only [Vl1_pi_j22 hA, Vl1_pT])
      exact vl1
    · (try simp only [Vlr_pi_j22 hA, Vlr_pT])
      exact vlr
    · (try simp only [Vsr_pi_j22 hA, Vsr_pT])
      exact vsr
    · (try simp only [Vc_pi_j22 hA, Vc_pT])
      exact vc
    · (try simp only [Tx_pi_j22 hA])
      exact Tx_pT ht tx
  · have s1 : ¬ s < 0 := fun z => bs (Or.inl z)
    have s2 : s < 6 := Classical.byContradiction fun z => bs (Or.inr z)
    have hs := ix_ok s1 s2
    have hs2 := hs
    obtain ⟨⟨j0, j1, j2, j3⟩, d01, d02, d03, d10, d12, d13, d20, d21, d23, d30, d31, d32⟩ := hs2
    obtain ⟨l0, l1, l2, l3⟩ := ix_lt hs
    have vs0 := (vsr _ l0).1
    have vs1 := (vsr _ l1).1
    have vs2 := (vsr _ l2).1
    have vs3 := (vsr _ l3).1
    have bs2 : (¬ s < 0 ∧ s < 6) = True := eq_true ⟨s1, s2⟩
    by_cases x0 : e < 0
    · skip
      simp only [o324_0, o324_1, o324_2, o324_3, o324_4, o324_7, o324_8, o324_11, o324_14, o324_16, o324_17, o324_18, o324_19, o98_0, o98_1, o98_4, o98_5, o98_8, o98_9, o98_10, o98_13, o98_16, o98_19, o98_20, o98_23, o98_24, o98_27, o98_28, o98_29, o98_32, o98_33, o98_34, o98_35, o98_38, o98_39, o233_0, o233_1, o233_2, o233_5, o233_8, o233_9, o233_12, o233_13, o233_16, o233_19, o233_20, o233_21, o233_22, o233_25, o233_26, o233_27, o233_28, o233_31, o233_34, o233_35, o233_36, o233_39, o233_42, o233_43, o233_44, o233_45, o233_46, o233_49, o233_50, o233_53, o233_54, o233_55, o233_58, o233_59, o233_60, o233_61, o233_67, hx_324_1, c_X5_checkSlot, c_X8_isSlot, c_X8_isThrown__, c_X8_isBeyond, c_ref_5 (cs := A 18), c_X8_no (cs := A 30), mc_pi, mc_pl, mc_pT, mn_pi, mn_pl, mn_pT, mi_pi, mi_pl, mi_pT, ml_pi, ml_pl, ml_pT, mr_pi, mr_pl, mr_pT, mz_pi, mz_pl, mz_pT, mcs_0, mcs_i, mcs_r, Kn_v, Kn_0, Kn_x, mrf_some, true_and, and_true, false_and, and_false, true_or, or_false, not_true_eq_false, not_false_eq_true, false_implies, implies_true, forall_const, if_true, if_false, and_self, Nat.reduceEqDiff, Nat.reduceLeDiff, Nat.reduceSub, Nat.reduceAdd, Nat.zero_le, Nat.le_refl, i10, i01, Int32.reduceSub, cl0, cl5, Kc_v, Sum.inl.injEq, Option.some.injEq, Value.int.injEq, exists_eq_left', Nat.reduceLT, hAe, kc0, kc15, kc17, kc18, kc22, kc23, kc29, kc30, kc37, kc39, kn18, kn23, kn29, kn30, kr0_7, kr0_9, kr17_0, kr22_0, kr22_7, kr22_8, kr29_0, kz, b1, b5, be0, x0, v18, cl5, cl0, s1, s2, i64_inj]
      first | refine ⟨⟨?_, ?_, ?_, ?_, ?_, ?_, ?_, ?_, ?_, ?_, ?_, ?_⟩, rfl⟩ | refine ⟨?_, ?_, ?_, ?_, ?_, ?_, ?_, ?_, ?_, ?_, ?_, ?_⟩
      · (try simp only [K_pi, K_pl])
        exact vk
      · (try simp only [Cn_pi_j18 hA, Cn_pi_j22 hA, Cn_pi_j30 hA, Cn_pl])
        exact vcn
      · (try simp only [Vq0_pi_j18 hA, Vq0_pi_j22 hA, Vq0_pi_j30 hA, Vq0_pl])
        exact v0
      · (try simp only [Vq1_pi_j18 hA, Vq1_pi_j22 hA, Vq1_pi_j30 hA, Vq1_pl])
        exact v1
      · (try simp only [Vq2_pi_j18 hA, Vq2_pi_j22 hA, Vq2_pi_j30 hA, Vq2_pl])
        exact v2
      · (try simp only [Vp_pi_j18 hA, Vp_pi_j30 hA, Vp_thr hA, Vp_pl])
        exact vp
      · (try simp only [Vl0_pi_j18 hA, Vl0_pi_j22 hA, Vl0_pi_j30 hA, Vl0_pl])
        exact vl0
      · (try simp only [Vl1_pi_j18 hA, Vl1_pi_j22 hA, Vl1_pi_j30 hA, Vl1_pl])
        exact vl1
      · (try simp only [Vlr_pi_j18 hA, Vlr_pi_j22 hA, Vlr_pi_j30 hA, Vlr_pl_j39 hA])
        exact vlr
      · (try simp only [Vsr_pi_j18 hA, Vsr_pi_j22 hA, Vsr_pi_j30 hA, Vsr_pl_j39 hA])
        exact vsr
      · refine Vc_of (c := 5) vc (by decide) (fun k => ?_) (fun k => ?_) <;> simp only [mi_pi, mi_pl, hAe, Nat.reduceLT, Nat.reduceEqDiff, false_and, true_and, if_false]
      · (try simp only [Tx_pi_j18 hA, Tx_pi_j22 hA, Tx_pi_j30 hA, Tx_pl])
        exact tx
    · by_cases x1 : e < g_i h (A 15) 5
      · obtain ⟨i2, hj⟩ := lnA (R := 16) ln (by decide) (by decide) (by decide) x0 x1
        have hj2 := hj.2.2
        have vlk := (vlr _ (rdy_lt hj)).symm
        simp only [o324_0, o324_1, o324_2, o324_3, o324_4, o324_7, o324_8, o324_11, o324_14, o324_16, o324_17, o324_18, o324_19, o98_0, o98_1, o98_4, o98_5, o98_8, o98_9, o98_10, o98_13, o98_16, o98_19, o98_20, o98_23, o98_24, o98_28, o98_29, o98_32, o98_33, o98_34, o98_35, o98_38, o98_39, o98_42, o98_45, o98_48, o233_0, o233_1, o233_2, o233_5, o233_8, o233_9, o233_12, o233_13, o233_16, o233_19, o233_20, o233_21, o233_22, o233_25, o233_26, o233_27, o233_28, o233_31, o233_34, o233_35, o233_36, o233_42, o233_43, o233_44, o233_45, o233_46, o233_49, o233_50, o233_53, o233_54, o233_55, o233_58, o233_59, o233_60, o233_61, o233_64, o233_67, hx_324_1, c_X5_checkSlot, c_X8_isSlot, c_X8_isThrown__, c_X8_isBeyond, c_X3_readAt (rw := A 1) (cs := A 3) (n := 16), c_X5_layNumber (rw := A 2) (cs := A 4), c_X8_laid (sr := A 24), c_X0_done (cs := A 18), c_X8_done (cs := A 30), mc_pi, mc_pl, mc_pT, mn_pi, mn_pl, mn_pT, mi_pi, mi_pl, mi_pT, ml_pi, ml_pl, ml_pT, mr_pi, mr_pl, mr_pT, mz_pi, mz_pl, mz_pT, mcs_0, mcs_i, mcs_r, Kn_v, Kn_0, Kn_x, mrf_some, true_and, and_true, false_and, and_false, or_false, not_true_eq_false, not_false_eq_true, false_implies, implies_true, forall_const, if_true, if_false, and_self, Nat.reduceEqDiff, Nat.reduceLeDiff, Nat.reduceSub, Nat.reduceAdd, Nat.zero_le, Nat.le_refl, i10, i01, cl0, Kc_v, Sum.inl.injEq, Option.some.injEq, Value.int.injEq, exists_eq_left', Nat.reduceLT, hAe, kc0, kc1, kc2, kc3, kc4, kc15, kc17, kc18, kc22, kc23, kc24, kc29, kc30, kc37, kc39, kn3, kn4, kn18, kn23, kn24, kn29, kn30, kr0_1, kr0_7, kr0_9, kr1_0, kr2_0, kr15_0, kr17_0, kr22_0, kr22_1, kr22_7, kr22_8, kr29_0, kz, b1, b5, be0, x0, x1, i2, hj, hj2, vlk, cl0, s1, s2, hs, vs0, vs1, vs2, vs3, i64_inj, fo0, fo1, fo2, fo3]
        first | refine ⟨⟨?_, ?_, ?_, ?_, ?_, ?_, ?_, ?_, ?_, ?_, ?_, ?_⟩, rfl⟩ | refine ⟨?_, ?_, ?_, ?_, ?_, ?_, ?_, ?_, ?_, ?_, ?_, ?_⟩
        · (try simp only [K_pi, K_pl])
          exact vk
        · (try simp only [Cn_pi_j18 hA, Cn_pi_j22 hA, Cn_pi_j30 hA, Cn_pi_j24 hA, Cn_pl])
          exact vcn
        · (try simp only [Vq0_pi_j18 hA, Vq0_pi_j22 hA, Vq0_pi_j30 hA, Vq0_pi_j24 hA, Vq0_pl])
          exact v0
        · (try simp only [Vq1_pi_j18 hA, Vq1_pi_j22 hA, Vq1_pi_j30 hA, Vq1_pi_j24 hA, Vq1_pl])
          exact v1
        · (try simp only [Vq2_pi_j18 hA, Vq2_pi_j22 hA, Vq2_pi_j30 hA, Vq2_pi_j24 hA, Vq2_pl])
          exact v2
        · (try simp only [Vp_pi_j18 hA, Vp_pi_j30 hA, Vp_pi_j24 hA, Vp_thr hA, Vp_pl])
          exact vp
        · (try simp only [Vl0_pi_j18 hA, Vl0_pi_j22 hA, Vl0_pi_j30 hA, Vl0_pi_j24 hA, Vl0_pl])
          exact vl0
        · (try simp only [Vl1_pi_j18 hA, Vl1_pi_j22 hA, Vl1_pi_j30 hA, Vl1_pi_j24 hA, Vl1_pl])
          exact vl1
        · (try simp only [Vlr_pi_j18 hA, Vlr_pi_j22 hA, Vlr_pi_j30 hA, Vlr_pi_j24 hA, Vlr_pl_j39 hA, Vlr_pl_j4 hA])
          exact vlr
        · simp only [Vsr_pi_j30 hA]
          refine Vsr_nest vsr (fun k => ?_) (fun k => ?_) <;> simp only [mi_pi, mi_pl, ml_pi, ml_pl, hAe, Nat.reduceLT, Nat.reduceEqDiff, false_and, true_and, if_false]
        · refine Vc_of (c := 0) vc (by decide) (fun k => ?_) (fun k => ?_) <;> simp only [mi_pi, mi_pl, hAe, Nat.reduceLT, Nat.reduceEqDiff, false_and, true_and, if_false]
        · (try simp only [Tx_pi_j18 hA, Tx_pi_j22 hA, Tx_pi_j30 hA, Tx_pi_j24 hA, Tx_pl])
          exact tx
      · skip
        simp only [o324_0, o324_1, o324_2, o324_3, o324_4, o324_7, o324_8, o324_11, o324_14, o324_16, o324_17, o324_18, o324_19, o98_0, o98_1, o98_4, o98_5, o98_8, o98_9, o98_10, o98_13, o98_16, o98_19, o98_20, o98_23, o98_24, o98_27, o98_28, o98_29, o98_32, o98_33, o98_34, o98_35, o98_38, o98_39, o233_0, o233_1, o233_2, o233_5, o233_8, o233_9, o233_12, o233_13, o233_16, o233_19, o233_20, o233_21, o233_22, o233_25, o233_26, o233_27, o233_28, o233_31, o233_34, o233_35, o233_36, o233_39, o233_42, o233_43, o233_44, o233_45, o233_46, o233_49, o233_50, o233_53, o233_54, o233_55, o233_58, o233_59, o233_60, o233_61, o233_67, hx_324_1, c_X5_checkSlot, c_X8_isSlot, c_X8_isThrown__, c_X8_isBeyond, c_ref_5 (cs := A 18), c_X8_no (cs := A 30), mc_pi, mc_pl, mc_pT, mn_pi, mn_pl, mn_pT, mi_pi, mi_pl, mi_pT, ml_pi, ml_pl, ml_pT, mr_pi, mr_pl, mr_pT, mz_pi, mz_pl, mz_pT, mcs_0, mcs_i, mcs_r, Kn_v, Kn_0, Kn_x, mrf_some, true_and, and_true, false_and, and_false, or_true, or_false, not_true_eq_false, not_false_eq_true, false_implies, implies_true, forall_const, if_true, if_false, and_self, Nat.reduceEqDiff, Nat.reduceLeDiff, Nat.reduceSub, Nat.reduceAdd, Nat.zero_le, Nat.le_refl, i10, i01, Int32.reduceSub, cl0, cl5, Kc_v, Sum.inl.injEq, Option.some.injEq, Value.int.injEq, exists_eq_left', Nat.reduceLT, hAe, kc0, kc15, kc17, kc18, kc22, kc23, kc29, kc30, kc37, kc39, kn18, kn23, kn29, kn30, kr0_7, kr0_9, kr17_0, kr22_0, kr22_7, kr22_8, kr29_0, kz, b1, b5, be0, x0, x1, v18, cl5, cl0, s1, s2, i64_inj]
        first | refine ⟨⟨?_, ?_, ?_, ?_, ?_, ?_, ?_, ?_, ?_, ?_, ?_, ?_⟩, rfl⟩ | refine ⟨?_, ?_, ?_, ?_, ?_, ?_, ?_, ?_, ?_, ?_, ?_, ?_⟩
        · (try simp only [K_pi, K_pl])
          exact vk
        · (try simp only [Cn_pi_j18 hA, Cn_pi_j22 hA, Cn_pi_j30 hA, Cn_pl])
          exact vcn
        · (try simp only [Vq0_pi_j18 hA, Vq0_pi_j22 hA, Vq0_pi_j30 hA, Vq0_pl])
          exact v0
        · (try simp only [Vq1_pi_j18 hA, Vq1_pi_j22 hA, Vq1_pi_j30 hA, Vq1_pl])
          exact v1
        · (try simp only [Vq2_pi_j18 hA, Vq2_pi_j22 hA, Vq2_pi_j30 hA, Vq2_pl])
          exact v2
        · (try simp only [Vp_pi_j18 hA, Vp_pi_j30 hA, Vp_thr hA, Vp_pl])
          exact vp
        · (try simp only [Vl0_pi_j18 hA, Vl0_pi_j22 hA, Vl0_pi_j30 hA, Vl0_pl])
          exact vl0
        · (try simp only [Vl1_pi_j18 hA, Vl1_pi_j22 hA, Vl1_pi_j30 hA, Vl1_pl])
          exact vl1
        · (try simp only [Vlr_pi_j18 hA, Vlr_pi_j22 hA, Vlr_pi_j30 hA, Vlr_pl_j39 hA])
          exact vlr
        · (try simp only [Vsr_pi_j18 hA, Vsr_pi_j22 hA, Vsr_pi_j30 hA, Vsr_pl_j39 hA])
          exact vsr
        · refine Vc_of (c := 5) vc (by decide) (fun k => ?_) (fun k => ?_) <;> simp only [mi_pi, mi_pl, hAe, Nat.reduceLT, Nat.reduceEqDiff, false_and, true_and, if_false]
        · (try simp only [Tx_pi_j18 hA, Tx_pi_j22 hA, Tx_pi_j30 hA, Tx_pl])
          exact tx

theorem op_nextShort {A : Nat → Nat} {h : MH} (R : Rl A h) : Ok 99 0 [.ref (A 0)] [] h 0 0 (fun r h1 => ∃ k : Int32, r = .inl (some (.int k)) ∧ g_c h1 (A 22) = 9 ∧ Ok 234 0 [.ref (A 22)] [] h1 0 0 (fun r2 h2 => ∃ b : Int32, r2 = .inl (some (.int b)) ∧ Rl A h2 ∧ g_i h2 (A 22) 9 = 0 ∧ k = b)) := by
  obtain ⟨vk, vcn, v0, v1, v2, vp, vl0, vl1, vlr, vsr, vc, tx⟩ := R
  have vk0 := vk
  have vcn0 := vcn
  (refine K_el vk0 ?_; intros hA kc0 kc1 kc2 kc3 kc4 kc5 kc6 kc7 kc8 kc9 kc10 kc11 kc12 kc13 kc14 kc15 kc16 kc17 kc18 kc19 kc20 kc21 kc22 kc23 kc24 kc25 kc26 kc27 kc28 kc29 kc30 kc31 kc32 kc33 kc34 kc35 kc36 kc37 kc38 kc39 kz kt kn3 kn4 kn18 kn21 kn23 kn24 kn25 kn26 kn27 kn29 kn30 kr0_0 kr0_1 kr0_2 kr0_3 kr0_4 kr0_5 kr0_7 kr0_8 kr0_9 kr0_10 kr1_0 kr2_0 kr5_0 kr5_1 kr6_0 kr6_1 kr7_0 kr7_1 kr8_0 kr9_0 kr10_0 kr11_0 kr12_0 kr13_0 kr14_0 kr15_0 kr16_0 kr17_0 kr19_0 kr19_1 kr22_0 kr22_1 kr22_2 kr22_3 kr22_4 kr22_5 kr22_7 kr22_8 kr25_0 kr25_1 kr25_2 kr26_0 kr26_1 kr26_2 kr29_0 kr29_1)
  (refine Cn_el vcn0 ?_; intros ki5_2 ki6_2 ki7_2 ki8_1 ki8_2 ki8_3 ki9_1 ki9_2 ki9_3 ki10_1 ki10_2 ki10_3 ki11_1 ki11_2 ki11_3 ki12_1 ki12_2 ki12_3 ki13_1 ki13_2 ki13_3 ki14_1 ki14_2 ki14_3 ki28_0 ki28_1 ki31_0 ki31_1 ki32_0 ki32_1 ki33_0 ki33_1 ki34_0 ki34_1 ki35_0 ki35_1 ki36_0 ki36_1)
  have hAe : ∀ i j, i < 40 → j < 40 → (A i = A j ↔ i = j) := hA
  have hl2 := vl1
  obtain ⟨⟨b1, b2, b3, b4, b5, b6⟩, ln⟩ := hl2
  replace b1 := b1.symm
  replace b2 := b2.symm
  replace b3 := b3.symm
  replace b4 := b4.symm
  replace b5 := b5.symm
  replace b6 := b6.symm
  rw [b1, b2, b3, b4, b5, b6] at ln
  by_cases e0 : g_i h (A 16) 5 - g_i h (A 16) 4 = 0
  · skip
    simp only [o99_0, o99_1, o99_4, o99_7, o99_10, o99_11, o99_14, o99_15, o99_18, o99_19, o99_20, o99_23, o99_24, o99_27, o234_0, o234_1, o234_2, o234_5, o234_6, o234_9, o234_10, o234_11, o234_14, o234_17, o234_18, o234_19, o234_22, o234_25, o234_26, o234_27, o234_30, o234_31, o234_32, o234_35, o234_36, o234_37, o234_44, c_X3_rests, c_X7_rests, c_ref_2 (cs := A 18), c_X8_no (cs := A 30), mc_pi, mn_pi, mi_pi, mr_pi, mz_pi, mcs_0, mcs_r, Kn_v, mrf_some, kok_0, true_and, and_true, not_true_eq_false, false_implies, forall_const, if_true, if_false, and_self, Nat.reduceEqDiff, Nat.reduceLeDiff, Nat.reduceAdd, Nat.zero_le, Int32.reduceSub, cl1, cl2, Sum.inl.injEq, Option.some.injEq, Value.int.injEq, exists_eq_left', Nat.reduceLT, hAe, kc0, kc16, kc17, kc18, kc22, kc29, kc30, kc38, kn18, kn29, kn30, kr0_8, kr0_9, kr17_0, kr22_1, kr22_7, kr22_8, kr29_1, kz, b4, b5, be0, e0, v18, cl2, cl1]
    first | refine ⟨⟨?_, ?_, ?_, ?_, ?_, ?_, ?_, ?_, ?_, ?_, ?_, ?_⟩, rfl⟩ | refine ⟨?_, ?_, ?_, ?_, ?_, ?_, ?_, ?_, ?_, ?_, ?_, ?_⟩
    · (try simp only [K_pi])
      exact vk
    · (try simp only [Cn_pi_j18 hA, Cn_pi_j22 hA, Cn_pi_j30 hA])
      exact vcn
    · (try simp only [Vq0_pi_j18 hA, Vq0_pi_j22 hA, Vq0_pi_j30 hA])
      exact v0
    · (try simp only [Vq1_pi_j18 hA, Vq1_pi_j22 hA, Vq1_pi_j30 hA])
      exact v1
    · (try simp only [Vq2_pi_j18 hA, Vq2_pi_j22 hA, Vq2_pi_j30 hA])
      exact v2
    · (try simp only [Vp_pi_j18 hA, Vp_pi_j30 hA, Vp_thr hA])
      exact vp
    · (try simp only [Vl0_pi_j18 hA, Vl0_pi_j22 hA, Vl0_pi_j30 hA])
      exact vl0
    · (try simp only [Vl1_pi_j18 hA, Vl1_pi_j22 hA, Vl1_pi_j30 hA])
      exact vl1
    · (try simp only [Vlr_pi_j18 hA, Vlr_pi_j22 hA, Vlr_pi_j30 hA])
      exact vlr
    · (try simp only [Vsr_pi_j18 hA, Vsr_pi_j22 hA, Vsr_pi_j30 hA])
      exact vsr
    · refine Vc_of (c := 2) vc (by decide) (fun k => ?_) (fun k => ?_) <;> simp only [mi_pi, hAe, Nat.reduceLT, Nat.reduceEqDiff, false_and, true_and, if_false]
    · (try simp only [Tx_pi_j18 hA, Tx_pi_j22 hA, Tx_pi_j30 hA])
      exact tx
  · obtain ⟨i1, i2, hj, hq9⟩ := lnN (R := 36) ln (by decide) (by decide) (by decide) e0
    have hj2 := hj.2.2
    have vsf := (vsr _ (rdy_lt hj)).1
    simp only [o99_0, o99_1, o99_4, o99_7, o99_10, o99_11, o99_14, o99_15, o99_19, o99_20, o99_23, o99_24, o99_27, o99_30, o99_31, o99_34, o234_0, o234_1, o234_2, o234_5, o234_6, o234_9, o234_10, o234_11, o234_14, o234_17, o234_18, o234_19, o234_25, o234_26, o234_27, o234_30, o234_31, o234_32, o234_35, o234_36, o234_37, o234_40, o234_41, o234_44, c_X3_rests, c_X7_rests, c_X3_readNext (rw := A 2) (cs := A 4) (n := 36), c_X8_next, c_X0_done (cs := A 18), c_X8_done (cs := A 30), mc_pi, mn_pi, mi_pi, mr_pi, mz_pi, mcs_0, mcs_r, Kn_v, mrf_some, kok_0, true_and, and_true, false_and, not_false_eq_true, false_implies, forall_const, if_true, if_false, and_self, Nat.reduceEqDiff, Nat.reduceLeDiff, Nat.reduceAdd, Nat.zero_le, cl1, Sum.inl.injEq, Option.some.injEq, Value.int.injEq, exists_eq_left', Nat.reduceLT, hAe, kc0, kc2, kc4, kc16, kc17, kc18, kc22, kc24, kc29, kc30, kc38, kn4, kn18, kn24, kn29, kn30, kr0_8, kr0_9, kr2_0, kr16_0, kr17_0, kr22_1, kr22_7, kr22_8, kr29_1, kz, b1, b4, b5, lnxt, be0, e0, i1, i2, hj, hj2, vsf, i64_back, cl1]
    first | refine ⟨⟨?_, ?_, ?_, ?_, ?_, ?_, ?_, ?_, ?_, ?_, ?_, ?_⟩, rfl⟩ | refine ⟨?_, ?_, ?_, ?_, ?_, ?_, ?_, ?_, ?_, ?_, ?_, ?_⟩
    · (try simp only [K_pi])
      exact vk
    · (try simp only [Cn_pi_j18 hA, Cn_pi_j22 hA, Cn_pi_j30 hA, Cn_pi_j16 hA, Cn_pi_j38 hA])
      exact vcn
    · (try simp only [Vq0_pi_j18 hA, Vq0_pi_j22 hA, Vq0_pi_j30 hA, Vq0_pi_j16 hA, Vq0_pi_j38 hA])
      exact v0
    · (try simp only [Vq1_pi_j18 hA, Vq1_pi_j22 hA, Vq1_pi_j30 hA, Vq1_pi_j16 hA, Vq1_pi_j38 hA])
      exact v1
    · (try simp only [Vq2_pi_j18 hA, Vq2_pi_j22 hA, Vq2_pi_j30 hA, Vq2_pi_j16 hA, Vq2_pi_j38 hA])
      exact v2
    · (try simp only [Vp_pi_j18 hA, Vp_pi_j30 hA, Vp_pi_j16 hA, Vp_pi_j38 hA, Vp_thr hA])
      exact vp
    · (try simp only [Vl0_pi_j18 hA, Vl0_pi_j22 hA, Vl0_pi_j30 hA, Vl0_pi_j16 hA, Vl0_pi_j38 hA])
      exact vl0
    · simp only [Vl1, mi_pi, hAe, Nat.reduceLT, Nat.reduceEqDiff, and_false, true_and, and_true, if_false, if_true, b1, b2, b3, b4, b5, b6, true_and, and_self]
      first | exact hq9 | exact ⟨⟨rfl, rfl, rfl, rfl, rfl, rfl⟩, hq9⟩ | (refine ⟨⟨?_, ?_, ?_, ?_, ?_, ?_⟩, hq9⟩ <;> first | rfl | trivial)
    · (try simp only [Vlr_pi_j18 hA, Vlr_pi_j22 hA, Vlr_pi_j30 hA, Vlr_pi_j16 hA, Vlr_pi_j38 hA])
      exact vlr
    · (try simp only [Vsr_pi_j18 hA, Vsr_pi_j22 hA, Vsr_pi_j30 hA, Vsr_pi_j16 hA, Vsr_pi_j38 hA])
      exact vsr
    · refine Vc_of (c := 0) vc (by decide) (fun k => ?_) (fun k => ?_) <;> simp only [mi_pi, hAe, Nat.reduceLT, Nat.reduceEqDiff, false_and, true_and, if_false]
    · (try simp only [Tx_pi_j18 hA, Tx_pi_j22 hA, Tx_pi_j30 hA, Tx_pi_j16 hA, Tx_pi_j38 hA])
      exact tx

theorem op_shortAt {A : Nat → Nat} {h : MH} (R : Rl A h) {e : Int32} : Ok 100 0 [.ref (A 0), .int e] [] h 0 0 (fun r h1 => ∃ k : Int32, r = .inl (some (.int k)) ∧ g_c h1 (A 22) = 9 ∧ Ok 235 0 [.ref (A 22), .int e] [] h1 0 0 (fun r2 h2 => ∃ b : Int32, r2 = .inl (some (.int b)) ∧ Rl A h2 ∧ g_i h2 (A 22) 9 = 0 ∧ k = b)) := by
  obtain ⟨vk, vcn, v0, v1, v2, vp, vl0, vl1, vlr, vsr, vc, tx⟩ := R
  have vk0 := vk
  have vcn0 := vcn
  (refine K_el vk0 ?_; intros hA kc0 kc1 kc2 kc3 kc4 kc5 kc6 kc7 kc8 kc9 kc10 kc11 kc12 kc13 kc14 kc15 kc16 kc17 kc18 kc19 kc20 kc21 kc22 kc23 kc24 kc25 kc26 kc27 kc28 kc29 kc30 kc31 kc32 kc33 kc34 kc35 kc36 kc37 kc38 kc39 kz kt kn3 kn4 kn18 kn21 kn23 kn24 kn25 kn26 kn27 kn29 kn30 kr0_0 kr0_1 kr0_2 kr0_3 kr0_4 kr0_5 kr0_7 kr0_8 kr0_9 kr0_10 kr1_0 kr2_0 kr5_0 kr5_1 kr6_0 kr6_1 kr7_0 kr7_1 kr8_0 kr9_0 kr10_0 kr11_0 kr12_0 kr13_0 kr14_0 kr15_0 kr16_0 kr17_0 kr19_0 kr19_1 kr22_0 kr22_1 kr22_2 kr22_3 kr22_4 kr22_5 kr22_7 kr22_8 kr25_0 kr25_1 kr25_2 kr26_0 kr26_1 kr26_2 kr29_0 kr29_1)
  (refine Cn_el vcn0 ?_; intros ki5_2 ki6_2 ki7_2 ki8_1 ki8_2 ki8_3 ki9_1 ki9_2 ki9_3 ki10_1 ki10_2 ki10_3 ki11_1 ki11_2 ki11_3 ki12_1 ki12_2 ki12_3 ki13_1 ki13_2 ki13_3 ki14_1 ki14_2 ki14_3 ki28_0 ki28_1 ki31_0 ki31_1 ki32_0 ki32_1 ki33_0 ki33_1 ki34_0 ki34_1 ki35_0 ki35_1 ki36_0 ki36_1)
  have hAe : ∀ i j, i < 40 → j < 40 → (A i = A j ↔ i = j) := hA
  have hl2 := vl1
  obtain ⟨⟨b1, b2, b3, b4, b5, b6⟩, ln⟩ := hl2
  replace b1 := b1.symm
  replace b2 := b2.symm
  replace b3 := b3.symm
  replace b4 := b4.symm
  replace b5 := b5.symm
  replace b6 := b6.symm
  rw [b1, b2, b3, b4, b5, b6] at ln
  by_cases x0 : e < 0
  · skip
    simp only [o100_0, o100_1, o100_4, o100_5, o100_6, o100_9, o100_12, o100_15, o100_16, o100_19, o100_20, o100_23, o100_24, o100_25, o100_28, o100_29, o100_32, o100_33, o235_0, o235_1, o235_2, o235_5, o235_6, o235_9, o235_10, o235_11, o235_12, o235_15, o235_18, o235_19, o235_20, o235_23, o235_26, o235_27, o235_28, o235_31, o235_32, o235_35, o235_36, o235_37, o235_40, o235_41, o235_42, o235_43, o235_46, c_X8_isBeyond, c_ref_5 (cs := A 18), c_X8_no (cs := A 30), mc_pi, mn_pi, mi_pi, mr_pi, mz_pi, mcs_0, mcs_r, Kn_v, mrf_some, kok_0, true_and, and_true, false_and, true_or, not_true_eq_false, not_false_eq_true, false_implies, forall_const, if_true, if_false, and_self, Nat.reduceEqDiff, Nat.reduceLeDiff, Nat.reduceAdd, Nat.zero_le, i10, Int32.reduceSub, cl1, cl5, Sum.inl.injEq, Option.some.injEq, Value.int.injEq, exists_eq_left', Nat.reduceLT, hAe, kc0, kc16, kc17, kc18, kc22, kc24, kc29, kc30, kc38, kn18, kn24, kn29, kn30, kr0_8, kr0_9, kr17_0, kr22_1, kr22_7, kr22_8, kr29_1, kz, b1, b5, be0, x0, v18, cl5, cl1]
    first | refine ⟨⟨?_, ?_, ?_, ?_, ?_, ?_, ?_, ?_, ?_, ?_, ?_, ?_⟩, rfl⟩ | refine ⟨?_, ?_, ?_, ?_, ?_, ?_, ?_, ?_, ?_, ?_, ?_, ?_⟩
    · (try simp only [K_pi])
      exact vk
    · (try simp only [Cn_pi_j18 hA, Cn_pi_j22 hA, Cn_pi_j30 hA])
      exact vcn
    · (try simp only [Vq0_pi_j18 hA, Vq0_pi_j22 hA, Vq0_pi_j30 hA])
      exact v0
    · (try simp only [Vq1_pi_j18 hA, Vq1_pi_j22 hA, Vq1_pi_j30 hA])
      exact v1
    · (try simp only [Vq2_pi_j18 hA, Vq2_pi_j22 hA, Vq2_pi_j30 hA])
      exact v2
    · (try simp only [Vp_pi_j18 hA, Vp_pi_j30 hA, Vp_thr hA])
      exact vp
    · (try simp only [Vl0_pi_j18 hA, Vl0_pi_j22 hA, Vl0_pi_j30 hA])
      exact vl0
    · (try simp only [Vl1_pi_j18 hA, Vl1_pi_j22 hA, Vl1_pi_j30 hA])
      exact vl1
    · (try simp only [Vlr_pi_j18 hA, Vlr_pi_j22 hA, Vlr_pi_j30 hA])
      exact vlr
    · (try simp only [Vsr_pi_j18 hA, Vsr_pi_j22 hA, Vsr_pi_j30 hA])
      exact vsr
    · refine Vc_of (c := 5) vc (by decide) (fun k => ?_) (fun k => ?_) <;> simp only [mi_pi, hAe, Nat.reduceLT, Nat.reduceEqDiff, false_and, true_and, if_false]
    · (try simp only [Tx_pi_j18 hA, Tx_pi_j22 hA, Tx_pi_j30 hA])
      exact tx
  · by_cases x1 : e < g_i h (A 16) 5
    · obtain ⟨i2, hj⟩ := lnA (R := 36) ln (by decide) (by decide) (by decide) x0 x1
      have hj2 := hj.2.2
      have vsf := (vsr _ (rdy_lt hj)).1
      simp only [o100_0, o100_1, o100_4, o100_5, o100_6, o100_9, o100_12, o100_15, o100_16, o100_19, o100_20, o100_24, o100_25, o100_28, o100_29, o100_32, o100_33, o100_36, o100_37, o100_40, o235_0, o235_1, o235_2, o235_5, o235_6, o235_9, o235_10, o235_11, o235_12, o235_15, o235_18, o235_19, o235_20, o235_26, o235_27, o235_28, o235_31, o235_32, o235_35, o235_36, o235_37, o235_40, o235_41, o235_42, o235_43, o235_46, c_X8_isBeyond, c_X3_readAt (rw := A 2) (cs := A 4) (n := 36), c_X0_done (cs := A 18), c_X8_done (cs := A 30), mc_pi, mn_pi, mi_pi, mr_pi, mz_pi, mcs_0, mcs_r, Kn_v, mrf_some, kok_0, true_and, and_true, false_and, or_false, not_true_eq_false, not_false_eq_true, false_implies, forall_const, if_true, if_false, and_self, Nat.reduceEqDiff, Nat.reduceLeDiff, Nat.reduceAdd, Nat.zero_le, cl1, Sum.inl.injEq, Option.some.injEq, Value.int.injEq, exists_eq_left', Nat.reduceLT, hAe, kc0, kc2, kc4, kc16, kc17, kc18, kc22, kc24, kc29, kc30, kc38, kn4, kn18, kn24, kn29, kn30, kr0_8, kr0_9, kr2_0, kr16_0, kr17_0, kr22_1, kr22_7, kr22_8, kr29_1, kz, b1, b5, be0, x0, x1, i2, hj, hj2, vsf, i64_back, cl1]
      first | refine ⟨⟨?_, ?_, ?_, ?_, ?_, ?_, ?_, ?_, ?_, ?_, ?_, ?_⟩, rfl⟩ | refine ⟨?_, ?_, ?_, ?_, ?_, ?_, ?_, ?_, ?_, ?_, ?_, ?_⟩
      · (try simp only [K_pi])
        exact vk
      · (try simp only [Cn_pi_j18 hA, Cn_pi_j22 hA, Cn_pi_j30 hA])
        exact vcn
      · (try simp only [Vq0_pi_j18 hA, Vq0_pi_j22 hA, Vq0_pi_j30 hA])
        exact v0
      · (try simp only [Vq1_pi_j18 hA, Vq1_pi_j22 hA, Vq1_pi_j30 hA])
        exact v1
      · (try simp only [Vq2_pi_j18 hA, Vq2_pi_j22 hA, Vq2_pi_j30 hA])
        exact v2
      · (try simp only [Vp_pi_j18 hA, Vp_pi_j30 hA, Vp_thr hA])
        exact vp
      · (try simp only [Vl0_pi_j18 hA, Vl0_pi_j22 hA, Vl0_pi_j30 hA])
        exact vl0
      · (try simp only [Vl1_pi_j18 hA, Vl1_pi_j22 hA, Vl1_pi_j30 hA])
        exact vl1
      · (try simp only [Vlr_pi_j18 hA, Vlr_pi_j22 hA, Vlr_pi_j30 hA])
        exact vlr
      · (try simp only [Vsr_pi_j18 hA, Vsr_pi_j22 hA, Vsr_pi_j30 hA])
        exact vsr
      · refine Vc_of (c := 0) vc (by decide) (fun k => ?_) (fun k => ?_) <;> simp only [mi_pi, hAe, Nat.reduceLT, Nat.reduceEqDiff, false_and, true_and, if_false]
      · (try simp only [Tx_pi_j18 hA, Tx_pi_j22 hA, Tx_pi_j30 hA])
        exact tx
    · skip
      simp only [o100_0, o100_1, o100_4, o100_5, o100_6, o100_9, o100_12, o100_15, o100_16, o100_19, o100_20, o100_23, o100_24, o100_25, o100_28, o100_29, o100_32, o100_33, o235_0, o235_1, o235_2, o235_5, o235_6, o235_9, o235_10, o235_11, o235_12, o235_15, o235_18, o235_19, o235_20, o235_23, o235_26, o235_27, o235_28, o235_31, o235_32, o235_35, o235_36, o235_37, o235_40, o235_41, o235_42, o235_43, o235_46, c_X8_isBeyond, c_ref_5 (cs := A 18), c_X8_no (cs := A 30), mc_pi, mn_pi, mi_pi, mr_pi, mz_pi, mcs_0, mcs_r, Kn_v, mrf_some, kok_0, true_and, and_true, false_and, or_true, not_false_eq_true, false_implies, forall_const, if_true, if_false, and_self, Nat.reduceEqDiff, Nat.reduceLeDiff, Nat.reduceAdd, Nat.zero_le, i10, Int32.reduceSub, cl1, cl5, Sum.inl.injEq, Option.some.injEq, Value.int.injEq, exists_eq_left', Nat.reduceLT, hAe, kc0, kc16, kc17, kc18, kc22, kc24, kc29, kc30, kc38, kn18, kn24, kn29, kn30, kr0_8, kr0_9, kr17_0, kr22_1, kr22_7, kr22_8, kr29_1, kz, b1, b5, be0, x0, x1, v18, cl5, cl1]
      first | refine ⟨⟨?_, ?_, ?_, ?_, ?_, ?_, ?_, ?_, ?_, ?_, ?_, ?_⟩, rfl⟩ | refine ⟨?_, ?_, ?_, ?_, ?_, ?_, ?_, ?_, ?_, ?_, ?_, ?_⟩
      · (try simp only [K_pi])
        exact vk
      · (try simp only [Cn_pi_j18 hA, Cn_pi_j22 hA, Cn_pi_j30 hA])
        exact vcn
      · (try simp only [Vq0_pi_j18 hA, Vq0_pi_j22 hA, Vq0_pi_j30 hA])
        exact v0
      · (try simp only [Vq1_pi_j18 hA, Vq1_pi_j22 hA, Vq1_pi_j30 hA])
        exact v1
      · (try simp only [Vq2_pi_j18 hA, Vq2_pi_j22 hA, Vq2_pi_j30 hA])
        exact v2
      · (try simp only [Vp_pi_j18 hA, Vp_pi_j30 hA, Vp_thr hA])
        exact vp
      · (try simp only [Vl0_pi_j18 hA, Vl0_pi_j22 hA, Vl0_pi_j30 hA])
        exact vl0
      · (try simp only [Vl1_pi_j18 hA, Vl1_pi_j22 hA, Vl1_pi_j30 hA])
        exact vl1
      · (try simp only [Vlr_pi_j18 hA, Vlr_pi_j22 hA, Vlr_pi_j30 hA])
        exact vlr
      · (try simp only [Vsr_pi_j18 hA, Vsr_pi_j22 hA, Vsr_pi_j30 hA])
        exact vsr
      · refine Vc_of (c := 5) vc (by decide) (fun k => ?_) (fun k => ?_) <;> simp only [mi_pi, hAe, Nat.reduceLT, Nat.reduceEqDiff, false_and, true_and, if_false]
      · (try simp only [Tx_pi_j18 hA, Tx_pi_j22 hA, Tx_pi_j30 hA])
        exact tx


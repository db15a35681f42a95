theorem m1z : ((-1 : Int32) < 0) = True := by decide
theorem i64_0 : (0 : Int32).toInt64 = 0 := id rfl
theorem i64_1 : (1 : Int32).toInt64 = 1 := id rfl
theorem h_in {x : Int32} (h1 : ¬ x < 0) (h2 : ¬ 7 < x) : vp_in x 8 := by
  rw [Int32.lt_iff_toInt_lt] at h1 h2
  have e1 : (0 : Int32).toInt = 0 := rfl
  have e2 : (7 : Int32).toInt = 7 := rfl
  unfold vp_in
  rintro (z | z)
  · exact h1 (by rw [Int32.lt_iff_toInt_lt] at z; exact z)
  · have : x.toNatClampNeg = x.toInt.toNat := rfl
    omega
theorem h_lt {n : Nat} {x : Int32} (h : vp_in x n) : x.toNatClampNeg < n := by unfold vp_in at h; omega
/-! THE OPS of the queues, second part -/
theorem hx_300_1 {l rest : List Value} {bc bs : Nat} {Q : MR → MH → Prop} {h : MH} : Kc Ok 300 3 6 l rest bc bs Q (.inr 1) h ↔ ∀ q : Nat, Ok 300 13 l [.ref q] h bc bs Q := Kc_x (by decide +kernel) (by decide +kernel)
theorem op_mark {A : Nat → Nat} {h : MH} (R : Rl A h) {q : Int32} : Ok 300 0 [.ref (A 0), .int q, .ref (A 39), mk0] [] h 1 6 (fun r h1 => ∃ k : Int32, r = .inl (some (.int k)) ∧ g_c h1 (A 22) = 9 ∧ Ok 192 0 [.ref (A 22), .int q] [] h1 0 0 (fun r2 h2 => ∃ b : Int32, r2 = .inl (some (.int b)) ∧ Rl A h2 ∧ g_i h2 (A 22) 9 = k ∧ (k = 0 → g_l h2 (A 39) 0 = b.toInt64))) := by
  obtain ⟨vk, vcn, v0, v1, v2, vp, vl0, vl1, vlr, vsr, vc, tx⟩ := R
  have vk0 := vk
  have vcn0 := vcn
  (refine K_el vk0 ?_; intros hA kc0 kc1 kc2 kc3 kc4 kc5 kc6 kc7 kc8 kc9 kc10 kc11 kc12 kc13 kc14 kc15 kc16 kc17 kc18 kc19 kc20 kc21 kc22 kc23 kc24 kc25 kc26 kc27 kc28 kc29 kc30 kc31 kc32 kc33 kc34 kc35 kc36 kc37 kc38 kc39 kz kt kn3 kn4 kn18 kn21 kn23 kn24 kn25 kn26 kn27 kn29 kn30 kr0_0 kr0_1 kr0_2 kr0_3 kr0_4 kr0_5 kr0_7 kr0_8 kr0_9 kr0_10 kr1_0 kr2_0 kr5_0 kr5_1 kr6_0 kr6_1 kr7_0 kr7_1 kr8_0 kr9_0 kr10_0 kr11_0 kr12_0 kr13_0 kr14_0 kr15_0 kr16_0 kr17_0 kr19_0 kr19_1 kr22_0 kr22_1 kr22_2 kr22_3 kr22_4 kr22_5 kr22_7 kr22_8 kr25_0 kr25_1 kr25_2 kr26_0 kr26_1 kr26_2 kr29_0 kr29_1)
  (refine Cn_el vcn0 ?_; intros ki5_2 ki6_2 ki7_2 ki8_1 ki8_2 ki8_3 ki9_1 ki9_2 ki9_3 ki10_1 ki10_2 ki10_3 ki11_1 ki11_2 ki11_3 ki12_1 ki12_2 ki12_3 ki13_1 ki13_2 ki13_3 ki14_1 ki14_2 ki14_3 ki28_0 ki28_1 ki31_0 ki31_1 ki32_0 ki32_1 ki33_0 ki33_1 ki34_0 ki34_1 ki35_0 ki35_1 ki36_0 ki36_1)
  have hAe : ∀ i j, i < 40 → j < 40 → (A i = A j ↔ i = j) := hA
  by_cases bq : q < 0 ∨ ¬ q < 3
  · have bq2 : (¬ q < 0 ∧ q < 3) = False := nrng bq
    simp only [o300_0, o300_1, o300_2, o300_3, o300_13, o300_14, o300_15, o68_0, o68_1, o68_2, o192_0, o192_1, o192_2, o192_5, o192_8, o192_9, o192_12, o192_13, o192_16, o192_19, o192_20, o192_21, o192_22, o192_25, o192_26, o192_27, o192_28, o192_31, o192_32, hx_300_1, c_X8_isThrown__, c_X8_isQueue, c_queueOf_bad, mc_pi, mc_pT, mn_pi, mn_pT, mi_pi, mi_pT, ml_pi, ml_pT, mr_pi, mr_pT, mz_pT, mcs_0, mcs_r, Kn_v, Kn_x, mrf_some, true_and, and_true, not_true_eq_false, not_false_eq_true, false_implies, forall_const, if_true, if_false, and_self, Nat.reduceLeDiff, Nat.reduceSub, Nat.reduceAdd, Nat.zero_le, Nat.le_refl, i10, Sum.inl.injEq, Option.some.injEq, Value.int.injEq, exists_eq_left', Nat.reduceLT, kc0, kc22, kc26, kn26, kr22_3, kz, bq, bq2]
    intro t ht
    first | refine ⟨⟨?_, ?_, ?_, ?_, ?_, ?_, ?_, ?_, ?_, ?_, ?_, ?_⟩, rfl⟩ | refine ⟨?_, ?_, ?_, ?_, ?_, ?_, ?_, ?_, ?_, ?_, ?_, ?_⟩
    · (try simp only [K_pi])
      exact K_pT ht vk
    · (try simp only [Cn_pi_j22 hA, Cn_pT])
      exact vcn
    · (try simp only [Vq0_pi_j22 hA, Vq0_pT])
      exact v0
    · (try simp only [Vq1_pi_j22 hA, Vq1_pT])
      exact v1
    · (try simp only [Vq2_pi_j22 hA, Vq2_pT])
      exact v2
    · (try simp only [Vp_thr hA, Vp_pT])
      exact vp
    · (try simp only [Vl0_pi_j22 hA, Vl0_pT])
      exact vl0
    · (try simp only [Vl1_pi_j22 hA, Vl1_pT])
      exact vl1
    · (try simp only [Vlr_pi_j22 hA, Vlr_pT])
      exact vlr
    · (try simp only [Vsr_pi_j22 hA, Vsr_pT])
      exact vsr
    · (try simp only [Vc_pi_j22 hA, Vc_pT])
      exact vc
    · (try simp only [Tx_pi_j22 hA])
      exact Tx_pT ht tx
  · have y1 : ¬ q < 0 := fun z => bq (Or.inl z)
    have y2 : q < 3 := Classical.byContradiction fun z => bq (Or.inr z)
    have bq2 : (¬ q < 0 ∧ q < 3) = True := eq_true ⟨y1, y2⟩
    rcases q_cases y1 y2 with rfl | rfl | rfl
    · have he := v0.1
      have hm := v0.2
      have hT : mT h (A 27) 0 (A 31) (A 34) = cT h (A 5) (A 8) (A 9) := he.symm
      have he2 := he
      simp only [cT, mT, Prod.mk.injEq] at he2
      obtain ⟨g1, g2, g3, g4, g5, g6, g7⟩ := he2
      replace g1 := g1.symm
      replace g2 := g2.symm
      replace g3 := g3.symm
      replace g4 := g4.symm
      replace g5 := g5.symm
      replace g6 := g6.symm
      replace g7 := g7.symm
      obtain ⟨hmk, har, hl0, hl9⟩ := qA_0 _ hm
      have hark : arok 0 (g_i h (A 5) 3) := fun z => absurd (by decide) z
      have n1 : ¬ A 8 = A 9 := fun z => absurd ((hAe 8 9 (by decide) (by decide)).mp z) (by decide)
      have hq9 := qMm_0 _ hm
      simp only [cT, mkF] at hq9
      simp only [o300_0, o300_1, o300_2, o300_3, o300_6, o300_7, o300_10, o300_16, o300_17, o68_0, o68_1, o68_2, o68_5, o68_6, o68_7, o68_10, o68_11, o68_14, o68_15, o68_18, o68_21, o68_24, o192_0, o192_1, o192_2, o192_5, o192_8, o192_9, o192_12, o192_13, o192_16, o192_19, o192_20, o192_21, o192_22, o192_25, o192_26, o192_27, o192_28, o192_31, o192_32, o192_33, o192_36, o192_39, o192_40, o192_41, o192_44, o192_45, o192_46, o192_49, o192_50, o192_51, o192_54, o192_57, c_X8_isThrown__, c_X8_isQueue, c_queueOf_0, c_X1_setMark (w := A 8) (r := A 9) (sz := 5) (ring := 1), c_X8_settle (x2 := A 25) (x3 := A 26) (a := A 27) (w := A 31) (r := A 34) (sz := 5), c_X0_done (cs := A 18), c_X8_done (cs := A 30), mc_pi, mc_pl, mn_pi, mn_pl, mi_pi, mi_pl, ml_pi, ml_pl, mr_pi, mr_pl, mz_pi, mz_pl, mcs_0, mcs_r, Kn_v, Kn_0, mrf_some, kok_0, true_and, and_true, and_false, not_true_eq_false, not_false_eq_true, false_implies, implies_true, forall_const, if_true, if_false, and_self, Nat.reduceEqDiff, Nat.reduceLeDiff, Nat.reduceSub, Nat.reduceAdd, Nat.zero_le, Nat.le_refl, i10, Int32.reduceLT, cl0, Kc_v, Sum.inl.injEq, Option.some.injEq, Value.int.injEq, exists_eq_left', Nat.reduceLT, hAe, kc0, kc5, kc8, kc9, kc17, kc18, kc22, kc25, kc26, kc27, kc30, kc31, kc34, kc39, kn18, kn25, kn26, kn27, kn30, kr0_2, kr0_9, kr5_0, kr5_1, kr17_0, kr22_2, kr22_3, kr22_4, kr22_8, kr25_0, kr26_0, kz, ki5_2, ki8_2, ki9_2, ki31_1, ki34_1, vq3, g1, g2, g3, g4, g5, g6, g7, hark, Int32.reduceLT, cl0, c_cW, n_cW, r_cW, z_cW, l_cW, c_mW, n_mW, r_mW, z_mW, l_mW, icw0_j18 hA, icw0_j22 hA, imw0_j22 hA, icw0_j30 hA, imw0_j30 hA, icw0_j27 hA, icw0_j31 hA, icw0_j34 hA, icx0_5 hA, imx0_5 hA, mW_5, mT, cT, mkF]
      first | refine ⟨⟨?_, ?_, ?_, ?_, ?_, ?_, ?_, ?_, ?_, ?_, ?_, ?_⟩, rfl⟩ | refine ⟨?_, ?_, ?_, ?_, ?_, ?_, ?_, ?_, ?_, ?_, ?_, ?_⟩
      · (try simp only [K_pi, K_pl, K_cW, K_mW])
        exact vk
      · (try simp only [Cn_pi_j18 hA, Cn_pi_j22 hA, Cn_pi_j30 hA, Cn_pl, Cn_cW0 hA, Cn_mW0 hA])
        exact vcn
      · simp only [Vq0_pi_j30 hA, Vq0_mW hA, cT0_pi_j18 hA, cT0_pi_j22 hA, cT0_pl, cT0_cW hA]
        exact ⟨trivial, hq9⟩
      · (try simp only [Vq1_pi_j18 hA, Vq1_pi_j22 hA, Vq1_pi_j30 hA, Vq1_pl, Vq1_cW0 hA, Vq1_mW0 hA])
        exact v1
      · (try simp only [Vq2_pi_j18 hA, Vq2_pi_j22 hA, Vq2_pi_j30 hA, Vq2_pl, Vq2_cW0 hA, Vq2_mW0 hA])
        exact v2
      · (try simp only [Vp_pi_j18 hA, Vp_pi_j30 hA, Vp_thr hA, Vp_pl, Vp_cW0 hA, Vp_mW0 hA])
        exact vp
      · (try simp only [Vl0_pi_j18 hA, Vl0_pi_j22 hA, Vl0_pi_j30 hA, Vl0_pl, Vl0_cW0 hA, Vl0_mW0 hA])
        exact vl0
      · (try simp only [Vl1_pi_j18 hA, Vl1_pi_j22 hA, Vl1_pi_j30 hA, Vl1_pl, Vl1_cW0 hA, Vl1_mW0 hA])
        exact vl1
      · (try simp only [Vlr_pi_j18 hA, Vlr_pi_j22 hA, Vlr_pi_j30 hA, Vlr_pl_j39 hA, Vlr_cW0 hA, Vlr_mW0 hA])
        exact vlr
      · (try simp only [Vsr_pi_j18 hA, Vsr_pi_j22 hA, Vsr_pi_j30 hA, Vsr_pl_j39 hA, Vsr_cW0 hA, Vsr_mW0 hA])
        exact vsr
      · refine Vc_of (c := 0) vc (by decide) (fun k => ?_) (fun k => ?_) <;> simp only [mi_pi, mi_pl, hAe, Nat.reduceLT, Nat.reduceEqDiff, false_and, true_and, if_false, icw0_j18 hA, imw0_j18 hA, icw0_j30 hA, imw0_j30 hA]
      · (try simp only [Tx_pi_j18 hA, Tx_pi_j22 hA, Tx_pi_j30 hA, Tx_pl, Tx_cW0 hA, Tx_mW0 hA])
        exact tx
    · have he := v1.1
      have hm := v1.2
      have hT : mT h (A 27) 1 (A 32) (A 35) = cT h (A 6) (A 10) (A 11) := he.symm
      have he2 := he
      simp only [cT, mT, Prod.mk.injEq] at he2
      obtain ⟨g1, g2, g3, g4, g5, g6, g7⟩ := he2
      replace g1 := g1.symm
      replace g2 := g2.symm
      replace g3 := g3.symm
      replace g4 := g4.symm
      replace g5 := g5.symm
      replace g6 := g6.symm
      replace g7 := g7.symm
      obtain ⟨hmk, har, hl0, hl9⟩ := qA_1 _ hm
      have hark : arok 1 (g_i h (A 6) 3) := fun z => absurd (by decide) z
      have n1 : ¬ A 10 = A 11 := fun z => absurd ((hAe 10 11 (by decide) (by decide)).mp z) (by decide)
      have hq9 := qMm_1 _ hm
      simp only [cT, mkF] at hq9
      simp only [o300_0, o300_1, o300_2, o300_3, o300_6, o300_7, o300_10, o300_16, o300_17, o68_0, o68_1, o68_2, o68_5, o68_6, o68_7, o68_10, o68_11, o68_14, o68_15, o68_18, o68_21, o68_24, o192_0, o192_1, o192_2, o192_5, o192_8, o192_9, o192_12, o192_13, o192_16, o192_19, o192_20, o192_21, o192_22, o192_25, o192_26, o192_27, o192_28, o192_31, o192_32, o192_33, o192_36, o192_39, o192_40, o192_41, o192_44, o192_45, o192_46, o192_49, o192_50, o192_51, o192_54, o192_57, c_X8_isThrown__, c_X8_isQueue, c_queueOf_1, c_X1_setMark (w := A 10) (r := A 11) (sz := 3) (ring := 1), c_X8_settle (x2 := A 25) (x3 := A 26) (a := A 27) (w := A 32) (r := A 35) (sz := 3), c_X0_done (cs := A 18), c_X8_done (cs := A 30), mc_pi, mc_pl, mn_pi, mn_pl, mi_pi, mi_pl, ml_pi, ml_pl, mr_pi, mr_pl, mz_pi, mz_pl, mcs_0, mcs_r, Kn_v, Kn_0, mrf_some, kok_0, true_and, and_true, and_false, not_true_eq_false, not_false_eq_true, false_implies, implies_true, forall_const, if_true, if_false, and_self, Nat.reduceEqDiff, Nat.reduceLeDiff, Nat.reduceSub, Nat.reduceAdd, Nat.zero_le, Nat.le_refl, i10, Int32.reduceLT, cl1, Kc_v, Sum.inl.injEq, Option.some.injEq, Value.int.injEq, exists_eq_left', Nat.reduceLT, hAe, kc0, kc6, kc10, kc11, kc17, kc18, kc22, kc25, kc26, kc27, kc30, kc32, kc35, kc39, kn18, kn25, kn26, kn27, kn30, kr0_3, kr0_9, kr6_0, kr6_1, kr17_0, kr22_2, kr22_3, kr22_4, kr22_8, kr25_1, kr26_1, kz, ki6_2, ki10_2, ki11_2, ki32_1, ki35_1, vq3, g1, g2, g3, g4, g5, g6, g7, hark, Int32.reduceLT, cl1, c_cW, n_cW, r_cW, z_cW, l_cW, c_mW, n_mW, r_mW, z_mW, l_mW, icw1_j18 hA, icw1_j22 hA, imw1_j22 hA, icw1_j30 hA, imw1_j30 hA, icw1_j27 hA, icw1_j32 hA, icw1_j35 hA, icx1_5 hA, imx1_5 hA, mW_5, mT, cT, mkF]
      first | refine ⟨⟨?_, ?_, ?_, ?_, ?_, ?_, ?_, ?_, ?_, ?_, ?_, ?_⟩, rfl⟩ | refine ⟨?_, ?_, ?_, ?_, ?_, ?_, ?_, ?_, ?_, ?_, ?_, ?_⟩
      · (try simp only [K_pi, K_pl, K_cW, K_mW])
        exact vk
      · (try simp only [Cn_pi_j18 hA, Cn_pi_j22 hA, Cn_pi_j30 hA, Cn_pl, Cn_cW1 hA, Cn_mW1 hA])
        exact vcn
      · (try simp only [Vq0_pi_j18 hA, Vq0_pi_j22 hA, Vq0_pi_j30 hA, Vq0_pl, Vq0_cW1 hA, Vq0_mW1 hA])
        exact v0
      · simp only [Vq1_pi_j30 hA, Vq1_mW hA, cT1_pi_j18 hA, cT1_pi_j22 hA, cT1_pl, cT1_cW hA]
        exact ⟨trivial, hq9⟩
      · (try simp only [Vq2_pi_j18 hA, Vq2_pi_j22 hA, Vq2_pi_j30 hA, Vq2_pl, Vq2_cW1 hA, Vq2_mW1 hA])
        exact v2
      · (try simp only [Vp_pi_j18 hA, Vp_pi_j30 hA, Vp_thr hA, Vp_pl, Vp_cW1 hA, Vp_mW1 hA])
        exact vp
      · (try simp only [Vl0_pi_j18 hA, Vl0_pi_j22 hA, Vl0_pi_j30 hA, Vl0_pl, Vl0_cW1 hA, Vl0_mW1 hA])
        exact vl0
      · (try simp only [Vl1_pi_j18 hA, Vl1_pi_j22 hA, Vl1_pi_j30 hA, Vl1_pl, Vl1_cW1 hA, Vl1_mW1 hA])
        exact vl1
      · (try simp only [Vlr_pi_j18 hA, Vlr_pi_j22 hA, Vlr_pi_j30 hA, Vlr_pl_j39 hA, Vlr_cW1 hA, Vlr_mW1 hA])
        exact vlr
      · (try simp only [Vsr_pi_j18 hA, Vsr_pi_j22 hA, Vsr_pi_j30 hA, Vsr_pl_j39 hA, Vsr_cW1 hA, Vsr_mW1 hA])
        exact vsr
      · refine Vc_of (c := 0) vc (by decide) (fun k => ?_) (fun k => ?_) <;> simp only [mi_pi, mi_pl, hAe, Nat.reduceLT, Nat.reduceEqDiff, false_and, true_and, if_false, icw1_j18 hA, imw1_j18 hA, icw1_j30 hA, imw1_j30 hA]
      · (try simp only [Tx_pi_j18 hA, Tx_pi_j22 hA, Tx_pi_j30 hA, Tx_pl, Tx_cW1 hA, Tx_mW1 hA])
        exact tx
    · have he := v2.1
      have hm := v2.2
      have hT : mT h (A 27) 2 (A 33) (A 36) = cT h (A 7) (A 12) (A 13) := he.symm
      have he2 := he
      simp only [cT, mT, Prod.mk.injEq] at he2
      obtain ⟨g1, g2, g3, g4, g5, g6, g7⟩ := he2
      replace g1 := g1.symm
      replace g2 := g2.symm
      replace g3 := g3.symm
      replace g4 := g4.symm
      replace g5 := g5.symm
      replace g6 := g6.symm
      replace g7 := g7.symm
      obtain ⟨hmk, har, hl0, hl9⟩ := qA_2 _ hm
      have hark : arok 2 (g_i h (A 7) 3) := fun _ => har
      have n1 : ¬ A 12 = A 13 := fun z => absurd ((hAe 12 13 (by decide) (by decide)).mp z) (by decide)
      have hq9 := qMm_2 _ hm
      simp only [cT, mkF] at hq9
      simp only [o300_0, o300_1, o300_2, o300_3, o300_6, o300_7, o300_10, o300_16, o300_17, o68_0, o68_1, o68_2, o68_5, o68_6, o68_7, o68_10, o68_11, o68_14, o68_15, o68_18, o68_21, o68_24, o192_0, o192_1, o192_2, o192_5, o192_8, o192_9, o192_12, o192_13, o192_16, o192_19, o192_20, o192_21, o192_22, o192_25, o192_26, o192_27, o192_28, o192_31, o192_32, o192_33, o192_36, o192_39, o192_40, o192_41, o192_44, o192_45, o192_46, o192_49, o192_50, o192_51, o192_54, o192_57, c_X8_isThrown__, c_X8_isQueue, c_queueOf_2, c_X1_setMark (w := A 12) (r := A 13) (sz := 6) (ring := 0), c_X8_settle (x2 := A 25) (x3 := A 26) (a := A 27) (w := A 33) (r := A 36) (sz := 6), c_X0_done (cs := A 18), c_X8_done (cs := A 30), mc_pi, mc_pl, mn_pi, mn_pl, mi_pi, mi_pl, ml_pi, ml_pl, mr_pi, mr_pl, mz_pi, mz_pl, mcs_0, mcs_r, Kn_v, Kn_0, mrf_some, kok_0, true_and, and_true, and_false, not_true_eq_false, not_false_eq_true, false_implies, implies_true, forall_const, if_true, if_false, and_self, Nat.reduceEqDiff, Nat.reduceLeDiff, Nat.reduceSub, Nat.reduceAdd, Nat.zero_le, Nat.le_refl, i10, Int32.reduceLT, cl2, Kc_v, Sum.inl.injEq, Option.some.injEq, Value.int.injEq, exists_eq_left', Nat.reduceLT, hAe, kc0, kc7, kc12, kc13, kc17, kc18, kc22, kc25, kc26, kc27, kc30, kc33, kc36, kc39, kn18, kn25, kn26, kn27, kn30, kr0_4, kr0_9, kr7_0, kr7_1, kr17_0, kr22_2, kr22_3, kr22_4, kr22_8, kr25_2, kr26_2, kz, ki7_2, ki12_2, ki13_2, ki33_1, ki36_1, vq3, g1, g2, g3, g4, g5, g6, g7, hark, Int32.reduceLT, cl2, c_cW, n_cW, r_cW, z_cW, l_cW, c_mW, n_mW, r_mW, z_mW, l_mW, icw2_j18 hA, icw2_j22 hA, imw2_j22 hA, icw2_j30 hA, imw2_j30 hA, icw2_j27 hA, icw2_j33 hA, icw2_j36 hA, icx2_5 hA, imx2_5 hA, mW_5, mT, cT, mkF]
      first | refine ⟨⟨?_, ?_, ?_, ?_, ?_, ?_, ?_, ?_, ?_, ?_, ?_, ?_⟩, rfl⟩ | refine ⟨?_, ?_, ?_, ?_, ?_, ?_, ?_, ?_, ?_, ?_, ?_, ?_⟩
      · (try simp only [K_pi, K_pl, K_cW, K_mW])
        exact vk
      · (try simp only [Cn_pi_j18 hA, Cn_pi_j22 hA, Cn_pi_j30 hA, Cn_pl, Cn_cW2 hA, Cn_mW2 hA])
        exact vcn
      · (try simp only [Vq0_pi_j18 hA, Vq0_pi_j22 hA, Vq0_pi_j30 hA, Vq0_pl, Vq0_cW2 hA, Vq0_mW2 hA])
        exact v0
      · (try simp only [Vq1_pi_j18 hA, Vq1_pi_j22 hA, Vq1_pi_j30 hA, Vq1_pl, Vq1_cW2 hA, Vq1_mW2 hA])
        exact v1
      · simp only [Vq2_pi_j30 hA, Vq2_mW hA, cT2_pi_j18 hA, cT2_pi_j22 hA, cT2_pl, cT2_cW hA]
        exact ⟨trivial, hq9⟩
      · (try simp only [Vp_pi_j18 hA, Vp_pi_j30 hA, Vp_thr hA, Vp_pl, Vp_cW2 hA, Vp_mW2 hA])
        exact vp
      · (try simp only [Vl0_pi_j18 hA, Vl0_pi_j22 hA, Vl0_pi_j30 hA, Vl0_pl, Vl0_cW2 hA, Vl0_mW2 hA])
        exact vl0
      · (try simp only [Vl1_pi_j18 hA, Vl1_pi_j22 hA, Vl1_pi_j30 hA, Vl1_pl, Vl1_cW2 hA, Vl1_mW2 hA])
        exact vl1
      · (try simp only [Vlr_pi_j18 hA, Vlr_pi_j22 hA, Vlr_pi_j30 hA, Vlr_pl_j39 hA, Vlr_cW2 hA, Vlr_mW2 hA])
        exact vlr
      · (try simp only [Vsr_pi_j18 hA, Vsr_pi_j22 hA, Vsr_pi_j30 hA, Vsr_pl_j39 hA, Vsr_cW2 hA, Vsr_mW2 hA])
        exact vsr
      · refine Vc_of (c := 0) vc (by decide) (fun k => ?_) (fun k => ?_) <;> simp only [mi_pi, mi_pl, hAe, Nat.reduceLT, Nat.reduceEqDiff, false_and, true_and, if_false, icw2_j18 hA, imw2_j18 hA, icw2_j30 hA, imw2_j30 hA]
      · (try simp only [Tx_pi_j18 hA, Tx_pi_j22 hA, Tx_pi_j30 hA, Tx_pl, Tx_cW2 hA, Tx_mW2 hA])
        exact tx

theorem hx_301_1 {l rest : List Value} {bc bs : Nat} {Q : MR → MH → Prop} {h : MH} : Kc Ok 301 3 6 l rest bc bs Q (.inr 1) h ↔ ∀ q : Nat, Ok 301 13 l [.ref q] h bc bs Q := Kc_x (by decide +kernel) (by decide +kernel)
theorem op_back {A : Nat → Nat} {h : MH} (R : Rl A h) {q : Int32} : Ok 301 0 [.ref (A 0), .int q, .ref (A 39), mk0] [] h 1 6 (fun r h1 => ∃ k : Int32, r = .inl (some (.int k)) ∧ g_c h1 (A 22) = 9 ∧ Ok 193 0 [.ref (A 22), .int q, mk0, mk0] [] h1 0 0 (fun r2 h2 => ∃ b : Int32, r2 = .inl (some (.int b)) ∧ Rl A h2 ∧ g_i h2 (A 22) 9 = k ∧ (k = 0 → g_l h2 (A 39) 0 = b.toInt64))) := by
  obtain ⟨vk, vcn, v0, v1, v2, vp, vl0, vl1, vlr, vsr, vc, tx⟩ := R
  have vk0 := vk
  have vcn0 := vcn
  (refine K_el vk0 ?_; intros hA kc0 kc1 kc2 kc3 kc4 kc5 kc6 kc7 kc8 kc9 kc10 kc11 kc12 kc13 kc14 kc15 kc16 kc17 kc18 kc19 kc20 kc21 kc22 kc23 kc24 kc25 kc26 kc27 kc28 kc29 kc30 kc31 kc32 kc33 kc34 kc35 kc36 kc37 kc38 kc39 kz kt kn3 kn4 kn18 kn21 kn23 kn24 kn25 kn26 kn27 kn29 kn30 kr0_0 kr0_1 kr0_2 kr0_3 kr0_4 kr0_5 kr0_7 kr0_8 kr0_9 kr0_10 kr1_0 kr2_0 kr5_0 kr5_1 kr6_0 kr6_1 kr7_0 kr7_1 kr8_0 kr9_0 kr10_0 kr11_0 kr12_0 kr13_0 kr14_0 kr15_0 kr16_0 kr17_0 kr19_0 kr19_1 kr22_0 kr22_1 kr22_2 kr22_3 kr22_4 kr22_5 kr22_7 kr22_8 kr25_0 kr25_1 kr25_2 kr26_0 kr26_1 kr26_2 kr29_0 kr29_1)
  (refine Cn_el vcn0 ?_; intros ki5_2 ki6_2 ki7_2 ki8_1 ki8_2 ki8_3 ki9_1 ki9_2 ki9_3 ki10_1 ki10_2 ki10_3 ki11_1 ki11_2 ki11_3 ki12_1 ki12_2 ki12_3 ki13_1 ki13_2 ki13_3 ki14_1 ki14_2 ki14_3 ki28_0 ki28_1 ki31_0 ki31_1 ki32_0 ki32_1 ki33_0 ki33_1 ki34_0 ki34_1 ki35_0 ki35_1 ki36_0 ki36_1)
  have hAe : ∀ i j, i < 40 → j < 40 → (A i = A j ↔ i = j) := hA
  by_cases bq : q < 0 ∨ ¬ q < 3
  · have bq2 : (¬ q < 0 ∧ q < 3) = False := nrng bq
    simp only [o301_0, o301_1, o301_2, o301_3, o301_13, o301_14, o301_15, o69_0, o69_1, o69_2, o193_0, o193_1, o193_2, o193_5, o193_8, o193_9, o193_12, o193_13, o193_16, o193_19, o193_20, o193_21, o193_22, o193_25, o193_26, hx_301_1, c_X8_isThrown__, c_X8_isQueue, c_queueOf_bad, mc_pi, mc_pT, mn_pi, mn_pT, mi_pi, mi_pT, ml_pi, ml_pT, mr_pi, mr_pT, mz_pT, mcs_0, mcs_r, Kn_v, Kn_x, mrf_some, true_and, and_true, not_true_eq_false, not_false_eq_true, false_implies, forall_const, if_true, if_false, and_self, Nat.reduceLeDiff, Nat.reduceSub, Nat.reduceAdd, Nat.zero_le, Nat.le_refl, i10, Sum.inl.injEq, Option.some.injEq, Value.int.injEq, exists_eq_left', Nat.reduceLT, kc0, kc22, kc26, kn26, kr22_3, kz, bq, bq2]
    intro t ht
    first | refine ⟨⟨?_, ?_, ?_, ?_, ?_, ?_, ?_, ?_, ?_, ?_, ?_, ?_⟩, rfl⟩ | refine ⟨?_, ?_, ?_, ?_, ?_, ?_, ?_, ?_, ?_, ?_, ?_, ?_⟩
    · (try simp only [K_pi])
      exact K_pT ht vk
    · (try simp only [Cn_pi_j22 hA, Cn_pT])
      exact vcn
    · (try simp only [Vq0_pi_j22 hA, Vq0_pT])
      exact v0
    · (try simp only [Vq1_pi_j22 hA, Vq1_pT])
      exact v1
    · (try simp only [Vq2_pi_j22 hA, Vq2_pT])
      exact v2
    · (try simp only [Vp_thr hA, Vp_pT])
      exact vp
    · (try simp only [Vl0_pi_j22 hA, Vl0_pT])
      exact vl0
    · (try simp only [Vl1_pi_j22 hA, Vl1_pT])
      exact vl1
    · (try simp only [Vlr_pi_j22 hA, Vlr_pT])
      exact vlr
    · (try simp only [Vsr_pi_j22 hA, Vsr_pT])
      exact vsr
    · (try simp only [Vc_pi_j22 hA, Vc_pT])
      exact vc
    · (try simp only [Tx_pi_j22 hA])
      exact Tx_pT ht tx
  · have y1 : ¬ q < 0 := fun z => bq (Or.inl z)
    have y2 : q < 3 := Classical.byContradiction fun z => bq (Or.inr z)
    have bq2 : (¬ q < 0 ∧ q < 3) = True := eq_true ⟨y1, y2⟩
    rcases q_cases y1 y2 with rfl | rfl | rfl
    · have he := v0.1
      have hm := v0.2
      have hT : mT h (A 27) 0 (A 31) (A 34) = cT h (A 5) (A 8) (A 9) := he.symm
      have he2 := he
      simp only [cT, mT, Prod.mk.injEq] at he2
      obtain ⟨g1, g2, g3, g4, g5, g6, g7⟩ := he2
      replace g1 := g1.symm
      replace g2 := g2.symm
      replace g3 := g3.symm
      replace g4 := g4.symm
      replace g5 := g5.symm
      replace g6 := g6.symm
      replace g7 := g7.symm
      obtain ⟨hmk, har, hl0, hl9⟩ := qA_0 _ hm
      have hark : arok 0 (g_i h (A 5) 3) := fun z => absurd (by decide) z
      have n1 : ¬ A 8 = A 9 := fun z => absurd ((hAe 8 9 (by decide) (by decide)).mp z) (by decide)
      have hq9 := qMb_0 _ hm
      simp only [cT] at hmk
      rcases hmk with ⟨hm1, hm2⟩ | ⟨hm1, hm2⟩
      · skip
        simp only [o301_0, o301_1, o301_2, o301_3, o301_6, o301_7, o301_10, o301_16, o301_17, o69_0, o69_1, o69_2, o69_5, o69_6, o69_7, o69_10, o69_13, o69_16, o69_17, o69_20, o69_21, o69_24, o69_25, o69_26, o193_0, o193_1, o193_2, o193_5, o193_8, o193_9, o193_12, o193_13, o193_16, o193_19, o193_20, o193_21, o193_22, o193_25, o193_26, o193_27, o193_28, o193_29, o193_32, o193_35, o193_36, o193_37, o193_40, o193_41, o193_42, o193_45, o193_46, o193_49, o193_50, o193_51, o193_52, o193_53, o193_56, o193_59, o193_60, o193_61, c_X8_isThrown__, c_X8_isQueue, c_queueOf_0, c_X3_hasMark, c_ref_3 (cs := A 18), c_X8_no (cs := A 30), mc_pi, mc_pl, mn_pi, mn_pl, mi_pi, mi_pl, ml_pi, ml_pl, mr_pi, mr_pl, mz_pi, mz_pl, mcs_0, mcs_r, Kn_v, mrf_some, kok_0, true_and, and_true, not_true_eq_false, not_false_eq_true, false_implies, implies_true, forall_const, if_true, if_false, and_self, Nat.reduceEqDiff, Nat.reduceLeDiff, Nat.reduceSub, Nat.reduceAdd, Nat.zero_le, Nat.le_refl, i10, lt_le, Int32.reduceLT, Int32.reduceSub, cl0, cl3, Kc_v, Sum.inl.injEq, Option.some.injEq, Value.int.injEq, exists_eq_left', Nat.reduceLT, hAe, kc0, kc5, kc9, kc17, kc18, kc22, kc26, kc30, kc34, kc39, kn18, kn26, kn30, kr0_2, kr0_9, kr5_1, kr17_0, kr22_3, kr22_8, kr26_0, kz, vq3, g4, g6, Int32.reduceLT, cl0, hm2, v18, cl3, m1z]
        first | refine ⟨⟨?_, ?_, ?_, ?_, ?_, ?_, ?_, ?_, ?_, ?_, ?_, ?_⟩, rfl⟩ | refine ⟨?_, ?_, ?_, ?_, ?_, ?_, ?_, ?_, ?_, ?_, ?_, ?_⟩
        · (try simp only [K_pi, K_pl])
          exact vk
        · (try simp only [Cn_pi_j18 hA, Cn_pi_j22 hA, Cn_pi_j30 hA, Cn_pl])
          exact vcn
        · (try simp only [Vq0_pi_j18 hA, Vq0_pi_j22 hA, Vq0_pi_j30 hA, Vq0_pl])
          exact v0
        · (try simp only [Vq1_pi_j18 hA, Vq1_pi_j22 hA, Vq1_pi_j30 hA, Vq1_pl])
          exact v1
        · (try simp only [Vq2_pi_j18 hA, Vq2_pi_j22 hA, Vq2_pi_j30 hA, Vq2_pl])
          exact v2
        · (try simp only [Vp_pi_j18 hA, Vp_pi_j30 hA, Vp_thr hA, Vp_pl])
          exact vp
        · (try simp only [Vl0_pi_j18 hA, Vl0_pi_j22 hA, Vl0_pi_j30 hA, Vl0_pl])
          exact vl0
        · (try simp only [Vl1_pi_j18 hA, Vl1_pi_j22 hA, Vl1_pi_j30 hA, Vl1_pl])
          exact vl1
        · (try simp only [Vlr_pi_j18 hA, Vlr_pi_j22 hA, Vlr_pi_j30 hA, Vlr_pl_j39 hA])
          exact vlr
        · (try simp only [Vsr_pi_j18 hA, Vsr_pi_j22 hA, Vsr_pi_j30 hA, Vsr_pl_j39 hA])
          exact vsr
        · refine Vc_of (c := 3) vc (by decide) (fun k => ?_) (fun k => ?_) <;> simp only [mi_pi, mi_pl, hAe, Nat.reduceLT, Nat.reduceEqDiff, false_and, true_and, if_false]
        · (try simp only [Tx_pi_j18 hA, Tx_pi_j22 hA, Tx_pi_j30 hA, Tx_pl])
          exact tx
      · have hol : olF (g_i h (A 8) 4, g_i h (A 8) 5, g_i h (A 8) 6, g_i h (A 9) 4, g_i h (A 9) 5, g_i h (A 9) 6, g_i h (A 5) 3) = g_i h (A 9) 6 := if_neg hm1
        simp only [cT, bkF, hm2, if_false] at hq9
        simp only [o301_0, o301_1, o301_2, o301_3, o301_6, o301_7, o301_10, o301_16, o301_17, o69_0, o69_1, o69_2, o69_5, o69_6, o69_7, o69_10, o69_13, o69_16, o69_17, o69_20, o69_21, o69_25, o69_26, o69_29, o69_30, o69_31, o69_34, o69_35, o69_38, o69_39, o69_42, o193_0, o193_1, o193_2, o193_5, o193_8, o193_9, o193_12, o193_13, o193_16, o193_19, o193_20, o193_21, o193_22, o193_25, o193_26, o193_27, o193_28, o193_29, o193_32, o193_35, o193_36, o193_37, o193_41, o193_42, o193_45, o193_46, o193_49, o193_50, o193_51, o193_52, o193_53, o193_56, o193_59, o193_60, o193_61, o193_64, o193_65, o193_66, o193_69, c_X8_isThrown__, c_X8_isQueue, c_queueOf_0, c_X1_setBack (w := A 8) (r := A 9) (sz := 5) (ring := 1), c_X8_settle (x2 := A 25) (x3 := A 26) (a := A 27) (w := A 31) (r := A 34) (sz := 5), c_X3_hasMark, c_X1_kept (w := A 8) (r := A 9), c_X0_done (cs := A 18), c_X8_done (cs := A 30), mc_pi, mc_pl, mn_pi, mn_pl, mi_pi, mi_pl, ml_pi, ml_pl, mr_pi, mr_pl, mz_pi, mz_pl, mcs_0, mcs_r, Kn_v, Kn_0, mrf_some, kok_0, true_and, and_true, and_false, not_true_eq_false, not_false_eq_true, false_implies, implies_true, forall_const, if_true, if_false, and_self, Nat.reduceEqDiff, Nat.reduceLeDiff, Nat.reduceSub, Nat.reduceAdd, Nat.zero_le, Nat.le_refl, i10, lt_le, Int32.reduceLT, cl0, Kc_v, Sum.inl.injEq, Option.some.injEq, Value.int.injEq, exists_eq_left', Nat.reduceLT, hAe, kc0, kc5, kc8, kc9, kc17, kc18, kc22, kc25, kc26, kc27, kc30, kc31, kc34, kc39, kn18, kn25, kn26, kn27, kn30, kr0_2, kr0_9, kr5_0, kr5_1, kr17_0, kr22_2, kr22_3, kr22_4, kr22_8, kr25_0, kr26_0, kz, ki5_2, ki8_2, ki9_2, ki31_1, ki34_1, vq3, g1, g2, g3, g4, g5, g6, g7, hark, Int32.reduceLT, cl0, c_cW, n_cW, r_cW, z_cW, l_cW, c_mW, n_mW, r_mW, z_mW, l_mW, icw0_j18 hA, icw0_j22 hA, imw0_j22 hA, icw0_j30 hA, imw0_j30 hA, icw0_j27 hA, icw0_j31 hA, icw0_j34 hA, mW_3, hm1, hm2, hol, mT, cT, bkF]
        first | refine ⟨⟨?_, ?_, ?_, ?_, ?_, ?_, ?_, ?_, ?_, ?_, ?_, ?_⟩, rfl⟩ | refine ⟨?_, ?_, ?_, ?_, ?_, ?_, ?_, ?_, ?_, ?_, ?_, ?_⟩
        · (try simp only [K_pi, K_pl, K_cW, K_mW])
          exact vk
        · (try simp only [Cn_pi_j18 hA, Cn_pi_j22 hA, Cn_pi_j30 hA, Cn_pl, Cn_cW0 hA, Cn_mW0 hA])
          exact vcn
        · simp only [Vq0_pi_j30 hA, Vq0_mW hA, cT0_pi_j18 hA, cT0_pi_j22 hA, cT0_pl, cT0_cW hA]
          exact ⟨trivial, hq9⟩
        · (try simp only [Vq1_pi_j18 hA, Vq1_pi_j22 hA, Vq1_pi_j30 hA, Vq1_pl, Vq1_cW0 hA, Vq1_mW0 hA])
          exact v1
        · (try simp only [Vq2_pi_j18 hA, Vq2_pi_j22 hA, Vq2_pi_j30 hA, Vq2_pl, Vq2_cW0 hA, Vq2_mW0 hA])
          exact v2
        · (try simp only [Vp_pi_j18 hA, Vp_pi_j30 hA, Vp_thr hA, Vp_pl, Vp_cW0 hA, Vp_mW0 hA])
          exact vp
        · (try simp only [Vl0_pi_j18 hA, Vl0_pi_j22 hA, Vl0_pi_j30 hA, Vl0_pl, Vl0_cW0 hA, Vl0_mW0 hA])
          exact vl0
        · (try simp only [Vl1_pi_j18 hA, Vl1_pi_j22 hA, Vl1_pi_j30 hA, Vl1_pl, Vl1_cW0 hA, Vl1_mW0 hA])
          exact vl1
        · (try simp only [Vlr_pi_j18 hA, Vlr_pi_j22 hA, Vlr_pi_j30 hA, Vlr_pl_j39 hA, Vlr_cW0 hA, Vlr_mW0 hA])
          exact vlr
        · (try simp only [Vsr_pi_j18 hA, Vsr_pi_j22 hA, Vsr_pi_j30 hA, Vsr_pl_j39 hA, Vsr_cW0 hA, Vsr_mW0 hA])
          exact vsr
        · refine Vc_of (c := 0) vc (by decide) (fun k => ?_) (fun k => ?_) <;> simp only [mi_pi, mi_pl, hAe, Nat.reduceLT, Nat.reduceEqDiff, false_and, true_and, if_false, icw0_j18 hA, imw0_j18 hA, icw0_j30 hA, imw0_j30 hA]
        · (try simp only [Tx_pi_j18 hA, Tx_pi_j22 hA, Tx_pi_j30 hA, Tx_pl, Tx_cW0 hA, Tx_mW0 hA])
          exact tx
    · have he := v1.1
      have hm := v1.2
      have hT : mT h (A 27) 1 (A 32) (A 35) = cT h (A 6) (A 10) (A 11) := he.symm
      have he2 := he
      simp only [cT, mT, Prod.mk.injEq] at he2
      obtain ⟨g1, g2, g3, g4, g5, g6, g7⟩ := he2
      replace g1 := g1.symm
      replace g2 := g2.symm
      replace g3 := g3.symm
      replace g4 := g4.symm
      replace g5 := g5.symm
      replace g6 := g6.symm
      replace g7 := g7.symm
      obtain ⟨hmk, har, hl0, hl9⟩ := qA_1 _ hm
      have hark : arok 1 (g_i h (A 6) 3) := fun z => absurd (by decide) z
      have n1 : ¬ A 10 = A 11 := fun z => absurd ((hAe 10 11 (by decide) (by decide)).mp z) (by decide)
      have hq9 := qMb_1 _ hm
      simp only [cT] at hmk
      rcases hmk with ⟨hm1, hm2⟩ | ⟨hm1, hm2⟩
      · skip
        simp only [o301_0, o301_1, o301_2, o301_3, o301_6, o301_7, o301_10, o301_16, o301_17, o69_0, o69_1, o69_2, o69_5, o69_6, o69_7, o69_10, o69_13, o69_16, o69_17, o69_20, o69_21, o69_24, o69_25, o69_26, o193_0, o193_1, o193_2, o193_5, o193_8, o193_9, o193_12, o193_13, o193_16, o193_19, o193_20, o193_21, o193_22, o193_25, o193_26, o193_27, o193_28, o193_29, o193_32, o193_35, o193_36, o193_37, o193_40, o193_41, o193_42, o193_45, o193_46, o193_49, o193_50, o193_51, o193_52, o193_53, o193_56, o193_59, o193_60, o193_61, c_X8_isThrown__, c_X8_isQueue, c_queueOf_1, c_X3_hasMark, c_ref_3 (cs := A 18), c_X8_no (cs := A 30), mc_pi, mc_pl, mn_pi, mn_pl, mi_pi, mi_pl, ml_pi, ml_pl, mr_pi, mr_pl, mz_pi, mz_pl, mcs_0, mcs_r, Kn_v, mrf_some, kok_0, true_and, and_true, not_true_eq_false, not_false_eq_true, false_implies, implies_true, forall_const, if_true, if_false, and_self, Nat.reduceEqDiff, Nat.reduceLeDiff, Nat.reduceSub, Nat.reduceAdd, Nat.zero_le, Nat.le_refl, i10, lt_le, Int32.reduceLT, Int32.reduceSub, cl1, cl3, Kc_v, Sum.inl.injEq, Option.some.injEq, Value.int.injEq, exists_eq_left', Nat.reduceLT, hAe, kc0, kc6, kc11, kc17, kc18, kc22, kc26, kc30, kc35, kc39, kn18, kn26, kn30, kr0_3, kr0_9, kr6_1, kr17_0, kr22_3, kr22_8, kr26_1, kz, vq3, g4, g6, Int32.reduceLT, cl1, hm2, v18, cl3, m1z]
        first | refine ⟨⟨?_, ?_, ?_, ?_, ?_, ?_, ?_, ?_, ?_, ?_, ?_, ?_⟩, rfl⟩ | refine ⟨?_, ?_, ?_, ?_, ?_, ?_, ?_, ?_, ?_, ?_, ?_, ?_⟩
        · (try simp only [K_pi, K_pl])
          exact vk
        · (try simp only [Cn_pi_j18 hA, Cn_pi_j22 hA, Cn_pi_j30 hA, Cn_pl])
          exact vcn
        · (try simp only [Vq0_pi_j18 hA, Vq0_pi_j22 hA, Vq0_pi_j30 hA, Vq0_pl])
          exact v0
        · (try simp only [Vq1_pi_j18 hA, Vq1_pi_j22 hA, Vq1_pi_j30 hA, Vq1_pl])
          exact v1
        · (try simp only [Vq2_pi_j18 hA, Vq2_pi_j22 hA, Vq2_pi_j30 hA, Vq2_pl])
          exact v2
        · (try simp only [Vp_pi_j18 hA, Vp_pi_j30 hA, Vp_thr hA, Vp_pl])
          exact vp
        · (try simp only [Vl0_pi_j18 hA, Vl0_pi_j22 hA, Vl0_pi_j30 hA, Vl0_pl])
          exact vl0
        · (try simp only [Vl1_pi_j18 hA, Vl1_pi_j22 hA, Vl1_pi_j30 hA, Vl1_pl])
          exact vl1
        · (try simp only [Vlr_pi_j18 hA, Vlr_pi_j22 hA, Vlr_pi_j30 hA, Vlr_pl_j39 hA])
          exact vlr
        · (try simp only [Vsr_pi_j18 hA, Vsr_pi_j22 hA, Vsr_pi_j30 hA, Vsr_pl_j39 hA])
          exact vsr
        · refine Vc_of (c := 3) vc (by decide) (fun k => ?_) (fun k => ?_) <;> simp only [mi_pi, mi_pl, hAe, Nat.reduceLT, Nat.reduceEqDiff, false_and, true_and, if_false]
        · (try simp only [Tx_pi_j18 hA, Tx_pi_j22 hA, Tx_pi_j30 hA, Tx_pl])
          exact tx
      · have hol : olF (g_i h (A 10) 4, g_i h (A 10) 5, g_i h (A 10) 6, g_i h (A 11) 4, g_i h (A 11) 5, g_i h (A 11) 6, g_i h (A 6) 3) = g_i h (A 11) 6 := if_neg hm1
        simp only [cT, bkF, hm2, if_false] at hq9
        simp only [o301_0, o301_1, o301_2, o301_3, o301_6, o301_7, o301_10, o301_16, o301_17, o69_0, o69_1, o69_2, o69_5, o69_6, o69_7, o69_10, o69_13, o69_16, o69_17, o69_20, o69_21, o69_25, o69_26, o69_29, o69_30, o69_31, o69_34, o69_35, o69_38, o69_39, o69_42, o193_0, o193_1, o193_2, o193_5, o193_8, o193_9, o193_12, o193_13, o193_16, o193_19, o193_20, o193_21, o193_22, o193_25, o193_26, o193_27, o193_28, o193_29, o193_32, o193_35, o193_36, o193_37, o193_41, o193_42, o193_45, o193_46, o193_49, o193_50, o193_51, o193_52, o193_53, o193_56, o193_59, o193_60, o193_61, o193_64, o193_65, o193_66, o193_69, c_X8_isThrown__, c_X8_isQueue, c_queueOf_1, c_X1_setBack (w := A 10) (r := A 11) (sz := 3) (ring := 1), c_X8_settle (x2 := A 25) (x3 := A 26) (a := A 27) (w := A 32) (r := A 35) (sz := 3), c_X3_hasMark, c_X1_kept (w := A 10) (r := A 11), c_X0_done (cs := A 18), c_X8_done (cs := A 30), mc_pi, mc_pl, mn_pi, mn_pl, mi_pi, mi_pl, ml_pi, ml_pl, mr_pi, mr_pl, mz_pi, mz_pl, mcs_0, mcs_r, Kn_v, Kn_0, mrf_some, kok_0, true_and, and_true, and_false, not_true_eq_false, not_false_eq_true, false_implies, implies_true, forall_const, if_true, if_false, and_self, Nat.reduceEqDiff, Nat.reduceLeDiff, Nat.reduceSub, Nat.reduceAdd, Nat.zero_le, Nat.le_refl, i10, lt_le, Int32.reduceLT, cl1, Kc_v, Sum.inl.injEq, Option.some.injEq, Value.int.injEq, exists_eq_left', Nat.reduceLT, hAe, kc0, kc6, kc10, kc11, kc17, kc18, kc22, kc25, kc26, kc27, kc30, kc32, kc35, kc39, kn18, kn25, kn26, kn27, kn30, kr0_3, kr0_9, kr6_0, kr6_1, kr17_0, kr22_2, kr22_3, kr22_4, kr22_8, kr25_1, kr26_1, kz, ki6_2, ki10_2, ki11_2, ki32_1, ki35_1, vq3, g1, g2, g3, g4, g5, g6, g7, hark, Int32.reduceLT, cl1, c_cW, n_cW, r_cW, z_cW, l_cW, c_mW, n_mW, r_mW, z_mW, l_mW, icw1_j18 hA, icw1_j22 hA, imw1_j22 hA, icw1_j30 hA, imw1_j30 hA, icw1_j27 hA, icw1_j32 hA, icw1_j35 hA, mW_3, hm1, hm2, hol, mT, cT, bkF]
        first | refine ⟨⟨?_, ?_, ?_, ?_, ?_, ?_, ?_, ?_, ?_, ?_, ?_, ?_⟩, rfl⟩ | refine ⟨?_, ?_, ?_, ?_, ?_, ?_, ?_, ?_, ?_, ?_, ?_, ?_⟩
        · (try simp only [K_pi, K_pl, K_cW, K_mW])
          exact vk
        · (try simp only [Cn_pi_j18 hA, Cn_pi_j22 hA, Cn_pi_j30 hA, Cn_pl, Cn_cW1 hA, Cn_mW1 hA])
          exact vcn
        · (try simp only [Vq0_pi_j18 hA, Vq0_pi_j22 hA, Vq0_pi_j30 hA, Vq0_pl, Vq0_cW1 hA, Vq0_mW1 hA])
          exact v0
        · simp only [Vq1_pi_j30 hA, Vq1_mW hA, cT1_pi_j18 hA, cT1_pi_j22 hA, cT1_pl, cT1_cW hA]
          exact ⟨trivial, hq9⟩
        · (try simp only [Vq2_pi_j18 hA, Vq2_pi_j22 hA, Vq2_pi_j30 hA, Vq2_pl, Vq2_cW1 hA, Vq2_mW1 hA])
          exact v2
        · (try simp only [Vp_pi_j18 hA, Vp_pi_j30 hA, Vp_thr hA, Vp_pl, Vp_cW1 hA, Vp_mW1 hA])
          exact vp
        · (try simp only [Vl0_pi_j18 hA, Vl0_pi_j22 hA, Vl0_pi_j30 hA, Vl0_pl, Vl0_cW1 hA, Vl0_mW1 hA])
          exact vl0
        · (try simp only [Vl1_pi_j18 hA, Vl1_pi_j22 hA, Vl1_pi_j30 hA, Vl1_pl, Vl1_cW1 hA, Vl1_mW1 hA])
          exact vl1
        · (try simp only [Vlr_pi_j18 hA, Vlr_pi_j22 hA, Vlr_pi_j30 hA, Vlr_pl_j39 hA, Vlr_cW1 hA, Vlr_mW1 hA])
          exact vlr
        · (try simp only [Vsr_pi_j18 hA, Vsr_pi_j22 hA, Vsr_pi_j30 hA, Vsr_pl_j39 hA, Vsr_cW1 hA, Vsr_mW1 hA])
          exact vsr
        · refine Vc_of (c := 0) vc (by decide) (fun k => ?_) (fun k => ?_) <;> simp only [mi_pi, mi_pl, hAe, Nat.reduceLT, Nat.reduceEqDiff, false_and, true_and, if_false, icw1_j18 hA, imw1_j18 hA, icw1_j30 hA, imw1_j30 hA]
        · (try simp only [Tx_pi_j18 hA, Tx_pi_j22 hA, Tx_pi_j30 hA, Tx_pl, Tx_cW1 hA, Tx_mW1 hA])
          exact tx
    · have he := v2.1
      have hm := v2.2
      have hT : mT h (A 27) 2 (A 33) (A 36) = cT h (A 7) (A 12) (A 13) := he.symm
      have he2 := he
      simp only [cT, mT, Prod.mk.injEq] at he2
      obtain ⟨g1, g2, g3, g4, g5, g6, g7⟩ := he2
      replace g1 := g1.symm
      replace g2 := g2.symm
      replace g3 := g3.symm
      replace g4 := g4.symm
      replace g5 := g5.symm
      replace g6 := g6.symm
      replace g7 := g7.symm
      obtain ⟨hmk, har, hl0, hl9⟩ := qA_2 _ hm
      have hark : arok 2 (g_i h (A 7) 3) := fun _ => har
      have n1 : ¬ A 12 = A 13 := fun z => absurd ((hAe 12 13 (by decide) (by decide)).mp z) (by decide)
      have hq9 := qMb_2 _ hm
      simp only [cT] at hmk
      rcases hmk with ⟨hm1, hm2⟩ | ⟨hm1, hm2⟩
      · skip
        simp only [o301_0, o301_1, o301_2, o301_3, o301_6, o301_7, o301_10, o301_16, o301_17, o69_0, o69_1, o69_2, o69_5, o69_6, o69_7, o69_10, o69_13, o69_16, o69_17, o69_20, o69_21, o69_24, o69_25, o69_26, o193_0, o193_1, o193_2, o193_5, o193_8, o193_9, o193_12, o193_13, o193_16, o193_19, o193_20, o193_21, o193_22, o193_25, o193_26, o193_27, o193_28, o193_29, o193_32, o193_35, o193_36, o193_37, o193_40, o193_41, o193_42, o193_45, o193_46, o193_49, o193_50, o193_51, o193_52, o193_53, o193_56, o193_59, o193_60, o193_61, c_X8_isThrown__, c_X8_isQueue, c_queueOf_2, c_X3_hasMark, c_ref_3 (cs := A 18), c_X8_no (cs := A 30), mc_pi, mc_pl, mn_pi, mn_pl, mi_pi, mi_pl, ml_pi, ml_pl, mr_pi, mr_pl, mz_pi, mz_pl, mcs_0, mcs_r, Kn_v, mrf_some, kok_0, true_and, and_true, not_true_eq_false, not_false_eq_true, false_implies, implies_true, forall_const, if_true, if_false, and_self, Nat.reduceEqDiff, Nat.reduceLeDiff, Nat.reduceSub, Nat.reduceAdd, Nat.zero_le, Nat.le_refl, i10, lt_le, Int32.reduceLT, Int32.reduceSub, cl2, cl3, Kc_v, Sum.inl.injEq, Option.some.injEq, Value.int.injEq, exists_eq_left', Nat.reduceLT, hAe, kc0, kc7, kc13, kc17, kc18, kc22, kc26, kc30, kc36, kc39, kn18, kn26, kn30, kr0_4, kr0_9, kr7_1, kr17_0, kr22_3, kr22_8, kr26_2, kz, vq3, g4, g6, Int32.reduceLT, cl2, hm2, v18, cl3, m1z]
        first | refine ⟨⟨?_, ?_, ?_, ?_, ?_, ?_, ?_, ?_, ?_, ?_, ?_, ?_⟩, rfl⟩ | refine ⟨?_, ?_, ?_, ?_, ?_, ?_, ?_, ?_, ?_, ?_, ?_, ?_⟩
        · (try simp only [K_pi, K_pl])
          exact vk
        · (try simp only [Cn_pi_j18 hA, Cn_pi_j22 hA, Cn_pi_j30 hA, Cn_pl])
          exact vcn
        · (try simp only [Vq0_pi_j18 hA, Vq0_pi_j22 hA, Vq0_pi_j30 hA, Vq0_pl])
          exact v0
        · (try simp only [Vq1_pi_j18 hA, Vq1_pi_j22 hA, Vq1_pi_j30 hA, Vq1_pl])
          exact v1
        · (try simp only [Vq2_pi_j18 hA, Vq2_pi_j22 hA, Vq2_pi_j30 hA, Vq2_pl])
          exact v2
        · (try simp only [Vp_pi_j18 hA, Vp_pi_j30 hA, Vp_thr hA, Vp_pl])
          exact vp
        · (try simp only [Vl0_pi_j18 hA, Vl0_pi_j22 hA, Vl0_pi_j30 hA, Vl0_pl])
          exact vl0
        · (try simp only [Vl1_pi_j18 hA, Vl1_pi_j22 hA, Vl1_pi_j30 hA, Vl1_pl])
          exact vl1
        · (try simp only [Vlr_pi_j18 hA, Vlr_pi_j22 hA, Vlr_pi_j30 hA, Vlr_pl_j39 hA])
          exact vlr
        · (try simp only [Vsr_pi_j18 hA, Vsr_pi_j22 hA, Vsr_pi_j30 hA, Vsr_pl_j39 hA])
          exact vsr
        · refine Vc_of (c := 3) vc (by decide) (fun k => ?_) (fun k => ?_) <;> simp only [mi_pi, mi_pl, hAe, Nat.reduceLT, Nat.reduceEqDiff, false_and, true_and, if_false]
        · (try simp only [Tx_pi_j18 hA, Tx_pi_j22 hA, Tx_pi_j30 hA, Tx_pl])
          exact tx
      · have hol : olF (g_i h (A 12) 4, g_i h (A 12) 5, g_i h (A 12) 6, g_i h (A 13) 4, g_i h (A 13) 5, g_i h (A 13) 6, g_i h (A 7) 3) = g_i h (A 13) 6 := if_neg hm1
        simp only [cT, bkF, hm2, if_false] at hq9
        simp only [o301_0, o301_1, o301_2, o301_3, o301_6, o301_7, o301_10, o301_16, o301_17, o69_0, o69_1, o69_2, o69_5, o69_6, o69_7, o69_10, o69_13, o69_16, o69_17, o69_20, o69_21, o69_25, o69_26, o69_29, o69_30, o69_31, o69_34, o69_35, o69_38, o69_39, o69_42, o193_0, o193_1, o193_2, o193_5, o193_8, o193_9, o193_12, o193_13, o193_16, o193_19, o193_20, o193_21, o193_22, o193_25, o193_26, o193_27, o193_28, o193_29, o193_32, o193_35, o193_36, o193_37, o193_41, o193_42, o193_45, o193_46, o193_49, o193_50, o193_51, o193_52, o193_53, o193_56, o193_59, o193_60, o193_61, o193_64, o193_65, o193_66, o193_69, c_X8_isThrown__, c_X8_isQueue, c_queueOf_2, c_X1_setBack (w := A 12) (r := A 13) (sz := 6) (ring := 0), c_X8_settle (x2 := A 25) (x3 := A 26) (a := A 27) (w := A 33) (r := A 36) (sz := 6), c_X3_hasMark, c_X1_kept (w := A 12) (r := A 13), c_X0_done (cs := A 18), c_X8_done (cs := A 30), mc_pi, mc_pl, mn_pi, mn_pl, mi_pi, mi_pl, ml_pi, ml_pl, mr_pi, mr_pl, mz_pi, mz_pl, mcs_0, mcs_r, Kn_v, Kn_0, mrf_some, kok_0, true_and, and_true, and_false, not_true_eq_false, not_false_eq_true, false_implies, implies_true, forall_const, if_true, if_false, and_self, Nat.reduceEqDiff, Nat.reduceLeDiff, Nat.reduceSub, Nat.reduceAdd, Nat.zero_le, Nat.le_refl, i10, lt_le, Int32.reduceLT, cl2, Kc_v, Sum.inl.injEq, Option.some.injEq, Value.int.injEq, exists_eq_left', Nat.reduceLT, hAe, kc0, kc7, kc12, kc13, kc17, kc18, kc22, kc25, kc26, kc27, kc30, kc33, kc36, kc39, kn18, kn25, kn26, kn27, kn30, kr0_4, kr0_9, kr7_0, kr7_1, kr17_0, kr22_2, kr22_3, kr22_4, kr22_8, kr25_2, kr26_2, kz, ki7_2, ki12_2, ki13_2, ki33_1, ki36_1, vq3, g1, g2, g3, g4, g5, g6, g7, hark, Int32.reduceLT, cl2, c_cW, n_cW, r_cW, z_cW, l_cW, c_mW, n_mW, r_mW, z_mW, l_mW, icw2_j18 hA, icw2_j22 hA, imw2_j22 hA, icw2_j30 hA, imw2_j30 hA, icw2_j27 hA, icw2_j33 hA, icw2_j36 hA, mW_3, hm1, hm2, hol, mT, cT, bkF]
        first | refine ⟨⟨?_, ?_, ?_, ?_, ?_, ?_, ?_, ?_, ?_, ?_, ?_, ?_⟩, rfl⟩ | refine ⟨?_, ?_, ?_, ?_, ?_, ?_, ?_, ?_, ?_, ?_, ?_, ?_⟩
        · (try simp only [K_pi, K_pl, K_cW, K_mW])
          exact vk
        · (try simp only [Cn_pi_j18 hA, Cn_pi_j22 hA, Cn_pi_j30 hA, Cn_pl, Cn_cW2 hA, Cn_mW2 hA])
          exact vcn
        · (try simp only [Vq0_pi_j18 hA, Vq0_pi_j22 hA, Vq0_pi_j30 hA, Vq0_pl, Vq0_cW2 hA, Vq0_mW2 hA])
          exact v0
        · (try simp only [Vq1_pi_j18 hA, Vq1_pi_j22 hA, Vq1_pi_j30 hA, Vq1_pl, Vq1_cW2 hA, Vq1_mW2 hA])
          exact v1
        · simp only [Vq2_pi_j30 hA, Vq2_mW hA, cT2_pi_j18 hA, cT2_pi_j22 hA, cT2_pl, cT2_cW hA]
          exact ⟨trivial, hq9⟩
        · (try simp only [Vp_pi_j18 hA, Vp_pi_j30 hA, Vp_thr hA, Vp_pl, Vp_cW2 hA, Vp_mW2 hA])
          exact vp
        · (try simp only [Vl0_pi_j18 hA, Vl0_pi_j22 hA, Vl0_pi_j30 hA, Vl0_pl, Vl0_cW2 hA, Vl0_mW2 hA])
          exact vl0
        · (try simp only [Vl1_pi_j18 hA, Vl1_pi_j22 hA, Vl1_pi_j30 hA, Vl1_pl, Vl1_cW2 hA, Vl1_mW2 hA])
          exact vl1
        · (try simp only [Vlr_pi_j18 hA, Vlr_pi_j22 hA, Vlr_pi_j30 hA, Vlr_pl_j39 hA, Vlr_cW2 hA, Vlr_mW2 hA])
          exact vlr
        · (try simp only [Vsr_pi_j18 hA, Vsr_pi_j22 hA, Vsr_pi_j30 hA, Vsr_pl_j39 hA, Vsr_cW2 hA, Vsr_mW2 hA])
          exact vsr
        · refine Vc_of (c := 0) vc (by decide) (fun k => ?_) (fun k => ?_) <;> simp only [mi_pi, mi_pl, hAe, Nat.reduceLT, Nat.reduceEqDiff, false_and, true_and, if_false, icw2_j18 hA, imw2_j18 hA, icw2_j30 hA, imw2_j30 hA]
        · (try simp only [Tx_pi_j18 hA, Tx_pi_j22 hA, Tx_pi_j30 hA, Tx_pl, Tx_cW2 hA, Tx_mW2 hA])
          exact tx

theorem hx_302_1 {l rest : List Value} {bc bs : Nat} {Q : MR → MH → Prop} {h : MH} : Kc Ok 302 3 6 l rest bc bs Q (.inr 1) h ↔ ∀ q : Nat, Ok 302 13 l [.ref q] h bc bs Q := Kc_x (by decide +kernel) (by decide +kernel)
theorem op_forget {A : Nat → Nat} {h : MH} (R : Rl A h) {q : Int32} : Ok 302 0 [.ref (A 0), .int q, .ref (A 39), mk0] [] h 1 6 (fun r h1 => ∃ k : Int32, r = .inl (some (.int k)) ∧ g_c h1 (A 22) = 9 ∧ Ok 194 0 [.ref (A 22), .int q, mk0, mk0] [] h1 0 0 (fun r2 h2 => ∃ b : Int32, r2 = .inl (some (.int b)) ∧ Rl A h2 ∧ g_i h2 (A 22) 9 = k ∧ (k = 0 → g_l h2 (A 39) 0 = b.toInt64))) := by
  obtain ⟨vk, vcn, v0, v1, v2, vp, vl0, vl1, vlr, vsr, vc, tx⟩ := R
  have vk0 := vk
  have vcn0 := vcn
  (refine K_el vk0 ?_; intros hA kc0 kc1 kc2 kc3 kc4 kc5 kc6 kc7 kc8 kc9 kc10 kc11 kc12 kc13 kc14 kc15 kc16 kc17 kc18 kc19 kc20 kc21 kc22 kc23 kc24 kc25 kc26 kc27 kc28 kc29 kc30 kc31 kc32 kc33 kc34 kc35 kc36 kc37 kc38 kc39 kz kt kn3 kn4 kn18 kn21 kn23 kn24 kn25 kn26 kn27 kn29 kn30 kr0_0 kr0_1 kr0_2 kr0_3 kr0_4 kr0_5 kr0_7 kr0_8 kr0_9 kr0_10 kr1_0 kr2_0 kr5_0 kr5_1 kr6_0 kr6_1 kr7_0 kr7_1 kr8_0 kr9_0 kr10_0 kr11_0 kr12_0 kr13_0 kr14_0 kr15_0 kr16_0 kr17_0 kr19_0 kr19_1 kr22_0 kr22_1 kr22_2 kr22_3 kr22_4 kr22_5 kr22_7 kr22_8 kr25_0 kr25_1 kr25_2 kr26_0 kr26_1 kr26_2 kr29_0 kr29_1)
  (refine Cn_el vcn0 ?_; intros ki5_2 ki6_2 ki7_2 ki8_1 ki8_2 ki8_3 ki9_1 ki9_2 ki9_3 ki10_1 ki10_2 ki10_3 ki11_1 ki11_2 ki11_3 ki12_1 ki12_2 ki12_3 ki13_1 ki13_2 ki13_3 ki14_1 ki14_2 ki14_3 ki28_0 ki28_1 ki31_0 ki31_1 ki32_0 ki32_1 ki33_0 ki33_1 ki34_0 ki34_1 ki35_0 ki35_1 ki36_0 ki36_1)
  have hAe : ∀ i j, i < 40 → j < 40 → (A i = A j ↔ i = j) := hA
  by_cases bq : q < 0 ∨ ¬ q < 3
  · have bq2 : (¬ q < 0 ∧ q < 3) = False := nrng bq
    simp only [o302_0, o302_1, o302_2, o302_3, o302_13, o302_14, o302_15, o70_0, o70_1, o70_2, o194_0, o194_1, o194_2, o194_5, o194_8, o194_9, o194_12, o194_13, o194_16, o194_19, o194_20, o194_21, o194_22, o194_25, o194_26, hx_302_1, c_X8_isThrown__, c_X8_isQueue, c_queueOf_bad, mc_pi, mc_pT, mn_pi, mn_pT, mi_pi, mi_pT, ml_pi, ml_pT, mr_pi, mr_pT, mz_pT, mcs_0, mcs_r, Kn_v, Kn_x, mrf_some, true_and, and_true, not_true_eq_false, not_false_eq_true, false_implies, forall_const, if_true, if_false, and_self, Nat.reduceLeDiff, Nat.reduceSub, Nat.reduceAdd, Nat.zero_le, Nat.le_refl, i10, Sum.inl.injEq, Option.some.injEq, Value.int.injEq, exists_eq_left', Nat.reduceLT, kc0, kc22, kc26, kn26, kr22_3, kz, bq, bq2]
    intro t ht
    first | refine ⟨⟨?_, ?_, ?_, ?_, ?_, ?_, ?_, ?_, ?_, ?_, ?_, ?_⟩, rfl⟩ | refine ⟨?_, ?_, ?_, ?_, ?_, ?_, ?_, ?_, ?_, ?_, ?_, ?_⟩
    · (try simp only [K_pi])
      exact K_pT ht vk
    · (try simp only [Cn_pi_j22 hA, Cn_pT])
      exact vcn
    · (try simp only [Vq0_pi_j22 hA, Vq0_pT])
      exact v0
    · (try simp only [Vq1_pi_j22 hA, Vq1_pT])
      exact v1
    · (try simp only [Vq2_pi_j22 hA, Vq2_pT])
      exact v2
    · (try simp only [Vp_thr hA, Vp_pT])
      exact vp
    · (try simp only [Vl0_pi_j22 hA, Vl0_pT])
      exact vl0
    · (try simp only [Vl1_pi_j22 hA, Vl1_pT])
      exact vl1
    · (try simp only [Vlr_pi_j22 hA, Vlr_pT])
      exact vlr
    · (try simp only [Vsr_pi_j22 hA, Vsr_pT])
      exact vsr
    · (try simp only [Vc_pi_j22 hA, Vc_pT])
      exact vc
    · (try simp only [Tx_pi_j22 hA])
      exact Tx_pT ht tx
  · have y1 : ¬ q < 0 := fun z => bq (Or.inl z)
    have y2 : q < 3 := Classical.byContradiction fun z => bq (Or.inr z)
    have bq2 : (¬ q < 0 ∧ q < 3) = True := eq_true ⟨y1, y2⟩
    rcases q_cases y1 y2 with rfl | rfl | rfl
    · have he := v0.1
      have hm := v0.2
      have hT : mT h (A 27) 0 (A 31) (A 34) = cT h (A 5) (A 8) (A 9) := he.symm
      have he2 := he
      simp only [cT, mT, Prod.mk.injEq] at he2
      obtain ⟨g1, g2, g3, g4, g5, g6, g7⟩ := he2
      replace g1 := g1.symm
      replace g2 := g2.symm
      replace g3 := g3.symm
      replace g4 := g4.symm
      replace g5 := g5.symm
      replace g6 := g6.symm
      replace g7 := g7.symm
      obtain ⟨hmk, har, hl0, hl9⟩ := qA_0 _ hm
      have hark : arok 0 (g_i h (A 5) 3) := fun z => absurd (by decide) z
      have n1 : ¬ A 8 = A 9 := fun z => absurd ((hAe 8 9 (by decide) (by decide)).mp z) (by decide)
      have hq9 := qMl_0 _ hm
      simp only [cT] at hmk
      rcases hmk with ⟨hm1, hm2⟩ | ⟨hm1, hm2⟩
      · skip
        simp only [o302_0, o302_1, o302_2, o302_3, o302_6, o302_7, o302_10, o302_16, o302_17, o70_0, o70_1, o70_2, o70_5, o70_6, o70_7, o70_10, o70_13, o70_16, o70_17, o70_20, o70_21, o70_24, o70_25, o70_26, o194_0, o194_1, o194_2, o194_5, o194_8, o194_9, o194_12, o194_13, o194_16, o194_19, o194_20, o194_21, o194_22, o194_25, o194_26, o194_27, o194_28, o194_29, o194_32, o194_35, o194_36, o194_37, o194_40, o194_41, o194_42, o194_45, o194_46, o194_49, o194_50, o194_51, o194_52, o194_53, o194_56, o194_57, o194_58, c_X8_isThrown__, c_X8_isQueue, c_queueOf_0, c_X3_hasMark, c_ref_3 (cs := A 18), c_X8_no (cs := A 30), mc_pi, mc_pl, mn_pi, mn_pl, mi_pi, mi_pl, ml_pi, ml_pl, mr_pi, mr_pl, mz_pi, mz_pl, mcs_0, mcs_r, Kn_v, mrf_some, kok_0, true_and, and_true, not_true_eq_false, not_false_eq_true, false_implies, implies_true, forall_const, if_true, if_false, and_self, Nat.reduceEqDiff, Nat.reduceLeDiff, Nat.reduceSub, Nat.reduceAdd, Nat.zero_le, Nat.le_refl, i10, lt_le, Int32.reduceLT, Int32.reduceSub, cl0, cl3, Kc_v, Sum.inl.injEq, Option.some.injEq, Value.int.injEq, exists_eq_left', Nat.reduceLT, hAe, kc0, kc5, kc9, kc17, kc18, kc22, kc26, kc30, kc34, kc39, kn18, kn26, kn30, kr0_2, kr0_9, kr5_1, kr17_0, kr22_3, kr22_8, kr26_0, kz, vq3, g4, g6, Int32.reduceLT, cl0, hm2, v18, cl3, m1z]
        first | refine ⟨⟨?_, ?_, ?_, ?_, ?_, ?_, ?_, ?_, ?_, ?_, ?_, ?_⟩, rfl⟩ | refine ⟨?_, ?_, ?_, ?_, ?_, ?_, ?_, ?_, ?_, ?_, ?_, ?_⟩
        · (try simp only [K_pi, K_pl])
          exact vk
        · (try simp only [Cn_pi_j18 hA, Cn_pi_j22 hA, Cn_pi_j30 hA, Cn_pl])
          exact vcn
        · (try simp only [Vq0_pi_j18 hA, Vq0_pi_j22 hA, Vq0_pi_j30 hA, Vq0_pl])
          exact v0
        · (try simp only [Vq1_pi_j18 hA, Vq1_pi_j22 hA, Vq1_pi_j30 hA, Vq1_pl])
          exact v1
        · (try simp only [Vq2_pi_j18 hA, Vq2_pi_j22 hA, Vq2_pi_j30 hA, Vq2_pl])
          exact v2
        · (try simp only [Vp_pi_j18 hA, Vp_pi_j30 hA, Vp_thr hA, Vp_pl])
          exact vp
        · (try simp only [Vl0_pi_j18 hA, Vl0_pi_j22 hA, Vl0_pi_j30 hA, Vl0_pl])
          exact vl0
        · (try simp only [Vl1_pi_j18 hA, Vl1_pi_j22 hA, Vl1_pi_j30 hA, Vl1_pl])
          exact vl1
        · (try simp only [Vlr_pi_j18 hA, Vlr_pi_j22 hA, Vlr_pi_j30 hA, Vlr_pl_j39 hA])
          exact vlr
        · (try simp only [Vsr_pi_j18 hA, Vsr_pi_j22 hA, Vsr_pi_j30 hA, Vsr_pl_j39 hA])
          exact vsr
        · refine Vc_of (c := 3) vc (by decide) (fun k => ?_) (fun k => ?_) <;> simp only [mi_pi, mi_pl, hAe, Nat.reduceLT, Nat.reduceEqDiff, false_and, true_and, if_false]
        · (try simp only [Tx_pi_j18 hA, Tx_pi_j22 hA, Tx_pi_j30 hA, Tx_pl])
          exact tx
      · have hol : olF (g_i h (A 8) 4, g_i h (A 8) 5, g_i h (A 8) 6, g_i h (A 9) 4, g_i h (A 9) 5, g_i h (A 9) 6, g_i h (A 5) 3) = g_i h (A 9) 6 := if_neg hm1
        simp only [cT, lmF] at hq9
        simp only [o302_0, o302_1, o302_2, o302_3, o302_6, o302_7, o302_10, o302_16, o302_17, o70_0, o70_1, o70_2, o70_5, o70_6, o70_7, o70_10, o70_13, o70_16, o70_17, o70_20, o70_21, o70_25, o70_26, o70_29, o70_30, o70_31, o70_34, o70_35, o70_38, o70_39, o70_42, o194_0, o194_1, o194_2, o194_5, o194_8, o194_9, o194_12, o194_13, o194_16, o194_19, o194_20, o194_21, o194_22, o194_25, o194_26, o194_27, o194_28, o194_29, o194_32, o194_35, o194_36, o194_37, o194_41, o194_42, o194_45, o194_46, o194_49, o194_50, o194_51, o194_52, o194_53, o194_56, o194_57, o194_58, o194_61, o194_62, o194_63, o194_66, c_X8_isThrown__, c_X8_isQueue, c_queueOf_0, c_X1_loseMark (w := A 8) (r := A 9) (sz := 5) (ring := 1), c_X8_settle (x2 := A 25) (x3 := A 26) (a := A 27) (w := A 31) (r := A 34) (sz := 5), c_X3_hasMark, c_X1_kept (w := A 8) (r := A 9), c_X0_done (cs := A 18), c_X8_done (cs := A 30), mc_pi, mc_pl, mn_pi, mn_pl, mi_pi, mi_pl, ml_pi, ml_pl, mr_pi, mr_pl, mz_pi, mz_pl, mcs_0, mcs_r, Kn_v, Kn_0, mrf_some, kok_0, true_and, and_true, and_false, not_true_eq_false, not_false_eq_true, false_implies, implies_true, forall_const, if_true, if_false, and_self, Nat.reduceEqDiff, Nat.reduceLeDiff, Nat.reduceSub, Nat.reduceAdd, Nat.zero_le, Nat.le_refl, i10, lt_le, Int32.reduceLT, cl0, Kc_v, Sum.inl.injEq, Option.some.injEq, Value.int.injEq, exists_eq_left', Nat.reduceLT, hAe, kc0, kc5, kc8, kc9, kc17, kc18, kc22, kc25, kc26, kc27, kc30, kc31, kc34, kc39, kn18, kn25, kn26, kn27, kn30, kr0_2, kr0_9, kr5_0, kr5_1, kr17_0, kr22_2, kr22_3, kr22_4, kr22_8, kr25_0, kr26_0, kz, ki5_2, ki8_2, ki9_2, ki31_1, ki34_1, vq3, g1, g2, g3, g4, g5, g6, g7, hark, Int32.reduceLT, cl0, c_cW, n_cW, r_cW, z_cW, l_cW, c_mW, n_mW, r_mW, z_mW, l_mW, icw0_j18 hA, icw0_j22 hA, imw0_j22 hA, icw0_j30 hA, imw0_j30 hA, icw0_j27 hA, icw0_j31 hA, icw0_j34 hA, mW_5, hm1, hm2, hol, mT, cT, lmF]
        first | refine ⟨⟨?_, ?_, ?_, ?_, ?_, ?_, ?_, ?_, ?_, ?_, ?_, ?_⟩, rfl⟩ | refine ⟨?_, ?_, ?_, ?_, ?_, ?_, ?_, ?_, ?_, ?_, ?_, ?_⟩
        · (try simp only [K_pi, K_pl, K_cW, K_mW])
          exact vk
        · (try simp only [Cn_pi_j18 hA, Cn_pi_j22 hA, Cn_pi_j30 hA, Cn_pl, Cn_cW0 hA, Cn_mW0 hA])
          exact vcn
        · simp only [Vq0_pi_j30 hA, Vq0_mW hA, cT0_pi_j18 hA, cT0_pi_j22 hA, cT0_pl, cT0_cW hA]
          exact ⟨trivial, hq9⟩
        · (try simp only [Vq1_pi_j18 hA, Vq1_pi_j22 hA, Vq1_pi_j30 hA, Vq1_pl, Vq1_cW0 hA, Vq1_mW0 hA])
          exact v1
        · (try simp only [Vq2_pi_j18 hA, Vq2_pi_j22 hA, Vq2_pi_j30 hA, Vq2_pl, Vq2_cW0 hA, Vq2_mW0 hA])
          exact v2
        · (try simp only [Vp_pi_j18 hA, Vp_pi_j30 hA, Vp_thr hA, Vp_pl, Vp_cW0 hA, Vp_mW0 hA])
          exact vp
        · (try simp only [Vl0_pi_j18 hA, Vl0_pi_j22 hA, Vl0_pi_j30 hA, Vl0_pl, Vl0_cW0 hA, Vl0_mW0 hA])
          exact vl0
        · (try simp only [Vl1_pi_j18 hA, Vl1_pi_j22 hA, Vl1_pi_j30 hA, Vl1_pl, Vl1_cW0 hA, Vl1_mW0 hA])
          exact vl1
        · (try simp only [Vlr_pi_j18 hA, Vlr_pi_j22 hA, Vlr_pi_j30 hA, Vlr_pl_j39 hA, Vlr_cW0 hA, Vlr_mW0 hA])
          exact vlr
        · (try simp only [Vsr_pi_j18 hA, Vsr_pi_j22 hA, Vsr_pi_j30 hA, Vsr_pl_j39 hA, Vsr_cW0 hA, Vsr_mW0 hA])
          exact vsr
        · refine Vc_of (c := 0) vc (by decide) (fun k => ?_) (fun k => ?_) <;> simp only [mi_pi, mi_pl, hAe, Nat.reduceLT, Nat.reduceEqDiff, false_and, true_and, if_false, icw0_j18 hA, imw0_j18 hA, icw0_j30 hA, imw0_j30 hA]
        · (try simp only [Tx_pi_j18 hA, Tx_pi_j22 hA, Tx_pi_j30 hA, Tx_pl, Tx_cW0 hA, Tx_mW0 hA])
          exact tx
    · have he := v1.1
      have hm := v1.2
      have hT : mT h (A 27) 1 (A 32) (A 35) = cT h (A 6) (A 10) (A 11) := he.symm
      have he2 := he
      simp only [cT, mT, Prod.mk.injEq] at he2
      obtain ⟨g1, g2, g3, g4, g5, g6, g7⟩ := he2
      replace g1 := g1.symm
      replace g2 := g2.symm
      replace g3 := g3.symm
      replace g4 := g4.symm
      replace g5 := g5.symm
      replace g6 := g6.symm
      replace g7 := g7.symm
      obtain ⟨hmk, har, hl0, hl9⟩ := qA_1 _ hm
      have hark : arok 1 (g_i h (A 6) 3) := fun z => absurd (by decide) z
      have n1 : ¬ A 10 = A 11 := fun z => absurd ((hAe 10 11 (by decide) (by decide)).mp z) (by decide)
      have hq9 := qMl_1 _ hm
      simp only [cT] at hmk
      rcases hmk with ⟨hm1, hm2⟩ | ⟨hm1, hm2⟩
      · skip
        simp only [o302_0, o302_1, o302_2, o302_3, o302_6, o302_7, o302_10, o302_16, o302_17, o70_0, o70_1, o70_2, o70_5, o70_6, o70_7, o70_10, o70_13, o70_16, o70_17, o70_20, o70_21, o70_24, o70_25, o70_26, o194_0, o194_1, o194_2, o194_5, o194_8, o194_9, o194_12, o194_13, o194_16, o194_19, o194_20, o194_21, o194_22, o194_25, o194_26, o194_27, o194_28, o194_29, o194_32, o194_35, o194_36, o194_37, o194_40, o194_41, o194_42, o194_45, o194_46, o194_49, o194_50, o194_51, o194_52, o194_53, o194_56, o194_57, o194_58, c_X8_isThrown__, c_X8_isQueue, c_queueOf_1, c_X3_hasMark, c_ref_3 (cs := A 18), c_X8_no (cs := A 30), mc_pi, mc_pl, mn_pi, mn_pl, mi_pi, mi_pl, ml_pi, ml_pl, mr_pi, mr_pl, mz_pi, mz_pl, mcs_0, mcs_r, Kn_v, mrf_some, kok_0, true_and, and_true, not_true_eq_false, not_false_eq_true, false_implies, implies_true, forall_const, if_true, if_false, and_self, Nat.reduceEqDiff, Nat.reduceLeDiff, Nat.reduceSub, Nat.reduceAdd, Nat.zero_le, Nat.le_refl, i10, lt_le, Int32.reduceLT, Int32.reduceSub, cl1, cl3, Kc_v, Sum.inl.injEq, Option.some.injEq, Value.int.injEq, exists_eq_left', Nat.reduceLT, hAe, kc0, kc6, kc11, kc17, kc18, kc22, kc26, kc30, kc35, kc39, kn18, kn26, kn30, kr0_3, kr0_9, kr6_1, kr17_0, kr22_3, kr22_8, kr26_1, kz, vq3, g4, g6, Int32.reduceLT, cl1, hm2, v18, cl3, m1z]
        first | refine ⟨⟨?_, ?_, ?_, ?_, ?_, ?_, ?_, ?_, ?_, ?_, ?_, ?_⟩, rfl⟩ | refine ⟨?_, ?_, ?_, ?_, ?_, ?_, ?_, ?_, ?_, ?_, ?_, ?_⟩
        · (try simp only [K_pi, K_pl])
          exact vk
        · (try simp only [Cn_pi_j18 hA, Cn_pi_j22 hA, Cn_pi_j30 hA, Cn_pl])
          exact vcn
        · (try simp only [Vq0_pi_j18 hA, Vq0_pi_j22 hA, Vq0_pi_j30 hA, Vq0_pl])
          exact v0
        · (try simp only [Vq1_pi_j18 hA, Vq1_pi_j22 hA, Vq1_pi_j30 hA, Vq1_pl])
          exact v1
        · (try simp only [Vq2_pi_j18 hA, Vq2_pi_j22 hA, Vq2_pi_j30 hA, Vq2_pl])
          exact v2
        · (try simp only [Vp_pi_j18 hA, Vp_pi_j30 hA, Vp_thr hA, Vp_pl])
          exact vp
        · (try simp only [Vl0_pi_j18 hA, Vl0_pi_j22 hA, Vl0_pi_j30 hA, Vl0_pl])
          exact vl0
        · (try simp only [Vl1_pi_j18 hA, Vl1_pi_j22 hA, Vl1_pi_j30 hA, Vl1_pl])
          exact vl1
        · (try simp only [Vlr_pi_j18 hA, Vlr_pi_j22 hA, Vlr_pi_j30 hA, Vlr_pl_j39 hA])
          exact vlr
        · (try simp only [Vsr_pi_j18 hA, Vsr_pi_j22 hA, Vsr_pi_j30 hA, Vsr_pl_j39 hA])
          exact vsr
        · refine Vc_of (c := 3) vc (by decide) (fun k => ?_) (fun k => ?_) <;> simp only [mi_pi, mi_pl, hAe, Nat.reduceLT, Nat.reduceEqDiff, false_and, true_and, if_false]
        · (try simp only [Tx_pi_j18 hA, Tx_pi_j22 hA, Tx_pi_j30 hA, Tx_pl])
          exact tx
      · have hol : olF (g_i h (A 10) 4, g_i h (A 10) 5, g_i h (A 10) 6, g_i h (A 11) 4, g_i h (A 11) 5, g_i h (A 11) 6, g_i h (A 6) 3) = g_i h (A 11) 6 := if_neg hm1
        simp only [cT, lmF] at hq9
        simp only [o302_0, o302_1, o302_2, o302_3, o302_6, o302_7, o302_10, o302_16, o302_17, o70_0, o70_1, o70_2, o70_5, o70_6, o70_7, o70_10, o70_13, o70_16, o70_17, o70_20, o70_21, o70_25, o70_26, o70_29, o70_30, o70_31, o70_34, o70_35, o70_38, o70_39, o70_42, o194_0, o194_1, o194_2, o194_5, o194_8, o194_9, o194_12, o194_13, o194_16, o194_19, o194_20, o194_21, o194_22, o194_25, o194_26, o194_27, o194_28, o194_29, o194_32, o194_35, o194_36, o194_37, o194_41, o194_42, o194_45, o194_46, o194_49, o194_50, o194_51, o194_52, o194_53, o194_56, o194_57, o194_58, o194_61, o194_62, o194_63, o194_66, c_X8_isThrown__, c_X8_isQueue, c_queueOf_1, c_X1_loseMark (w := A 10) (r := A 11) (sz := 3) (ring := 1), c_X8_settle (x2 := A 25) (x3 := A 26) (a := A 27) (w := A 32) (r := A 35) (sz := 3), c_X3_hasMark, c_X1_kept (w := A 10) (r := A 11), c_X0_done (cs := A 18), c_X8_done (cs := A 30), mc_pi, mc_pl, mn_pi, mn_pl, mi_pi, mi_pl, ml_pi, ml_pl, mr_pi, mr_pl, mz_pi, mz_pl, mcs_0, mcs_r, Kn_v, Kn_0, mrf_some, kok_0, true_and, and_true, and_false, not_true_eq_false, not_false_eq_true, false_implies, implies_true, forall_const, if_true, if_false, and_self, Nat.reduceEqDiff, Nat.reduceLeDiff, Nat.reduceSub, Nat.reduceAdd, Nat.zero_le, Nat.le_refl, i10, lt_le, Int32.reduceLT, cl1, Kc_v, Sum.inl.injEq, Option.some.injEq, Value.int.injEq, exists_eq_left', Nat.reduceLT, hAe, kc0, kc6, kc10, kc11, kc17, kc18, kc22, kc25, kc26, kc27, kc30, kc32, kc35, kc39, kn18, kn25, kn26, kn27, kn30, kr0_3, kr0_9, kr6_0, kr6_1, kr17_0, kr22_2, kr22_3, kr22_4, kr22_8, kr25_1, kr26_1, kz, ki6_2, ki10_2, ki11_2, ki32_1, ki35_1, vq3, g1, g2, g3, g4, g5, g6, g7, hark, Int32.reduceLT, cl1, c_cW, n_cW, r_cW, z_cW, l_cW, c_mW, n_mW, r_mW, z_mW, l_mW, icw1_j18 hA, icw1_j22 hA, imw1_j22 hA, icw1_j30 hA, imw1_j30 hA, icw1_j27 hA, icw1_j32 hA, icw1_j35 hA, mW_5, hm1, hm2, hol, mT, cT, lmF]
        first | refine ⟨⟨?_, ?_, ?_, ?_, ?_, ?_, ?_, ?_, ?_, ?_, ?_, ?_⟩, rfl⟩ | refine ⟨?_, ?_, ?_, ?_, ?_, ?_, ?_, ?_, ?_, ?_, ?_, ?_⟩
        · (try simp only [K_pi, K_pl, K_cW, K_mW])
          exact vk
        · (try simp only [Cn_pi_j18 hA, Cn_pi_j22 hA, Cn_pi_j30 hA, Cn_pl, Cn_cW1 hA, Cn_mW1 hA])
          exact vcn
        · (try simp only [Vq0_pi_j18 hA, Vq0_pi_j22 hA, Vq0_pi_j30 hA, Vq0_pl, Vq0_cW1 hA, Vq0_mW1 hA])
          exact v0
        · simp only [Vq1_pi_j30 hA, Vq1_mW hA, cT1_pi_j18 hA, cT1_pi_j22 hA, cT1_pl, cT1_cW hA]
          exact ⟨trivial, hq9⟩
        · (try simp only [Vq2_pi_j18 hA, Vq2_pi_j22 hA, Vq2_pi_j30 hA, Vq2_pl, Vq2_cW1 hA, Vq2_mW1 hA])
          exact v2
        · (try simp only [Vp_pi_j18 hA, Vp_pi_j30 hA, Vp_thr hA, Vp_pl, Vp_cW1 hA, Vp_mW1 hA])
          exact vp
        · (try simp only [Vl0_pi_j18 hA, Vl0_pi_j22 hA, Vl0_pi_j30 hA, Vl0_pl, Vl0_cW1 hA, Vl0_mW1 hA])
          exact vl0
        · (try simp only [Vl1_pi_j18 hA, Vl1_pi_j22 hA, Vl1_pi_j30 hA, Vl1_pl, Vl1_cW1 hA, Vl1_mW1 hA])
          exact vl1
        · (try simp only [Vlr_pi_j18 hA, Vlr_pi_j22 hA, Vlr_pi_j30 hA, Vlr_pl_j39 hA, Vlr_cW1 hA, Vlr_mW1 hA])
          exact vlr
        · (try simp only [Vsr_pi_j18 hA, Vsr_pi_j22 hA, Vsr_pi_j30 hA, Vsr_pl_j39 hA, Vsr_cW1 hA, Vsr_mW1 hA])
          exact vsr
        · refine Vc_of (c := 0) vc (by decide) (fun k => ?_) (fun k => ?_) <;> simp only [mi_pi, mi_pl, hAe, Nat.reduceLT, Nat.reduceEqDiff, false_and, true_and, if_false, icw1_j18 hA, imw1_j18 hA, icw1_j30 hA, imw1_j30 hA]
        · (try simp only [Tx_pi_j18 hA, Tx_pi_j22 hA, Tx_pi_j30 hA, Tx_pl, Tx_cW1 hA, Tx_mW1 hA])
          exact tx
    · have he := v2.1
      have hm := v2.2
      have hT : mT h (A 27) 2 (A 33) (A 36) = cT h (A 7) (A 12) (A 13) := he.symm
      have he2 := he
      simp only [cT, mT, Prod.mk.injEq] at he2
      obtain ⟨g1, g2, g3, g4, g5, g6, g7⟩ := he2
      replace g1 := g1.symm
      replace g2 := g2.symm
      replace g3 := g3.symm
      replace g4 := g4.symm
      replace g5 := g5.symm
      replace g6 := g6.symm
      replace g7 := g7.symm
      obtain ⟨hmk, har, hl0, hl9⟩ := qA_2 _ hm
      have hark : arok 2 (g_i h (A 7) 3) := fun _ => har
      have n1 : ¬ A 12 = A 13 := fun z => absurd ((hAe 12 13 (by decide) (by decide)).mp z) (by decide)
      have hq9 := qMl_2 _ hm
      simp only [cT] at hmk
      rcases hmk with ⟨hm1, hm2⟩ | ⟨hm1, hm2⟩
      · skip
        simp only [o302_0, o302_1, o302_2, o302_3, o302_6, o302_7, o302_10, o302_16, o302_17, o70_0, o70_1, o70_2, o70_5, o70_6, o70_7, o70_10, o70_13, o70_16, o70_17, o70_20, o70_21, o70_24, o70_25, o70_26, o194_0, o194_1, o194_2, o194_5, o194_8, o194_9, o194_12, o194_13, o194_16, o194_19, o194_20, o194_21, o194_22, o194_25, o194_26, o194_27, o194_28, o194_29, o194_32, o194_35, o194_36, o194_37, o194_40, o194_41, o194_42, o194_45, o194_46, o194_49, o194_50, o194_51, o194_52, o194_53, o194_56, o194_57, o194_58, c_X8_isThrown__, c_X8_isQueue, c_queueOf_2, c_X3_hasMark, c_ref_3 (cs := A 18), c_X8_no (cs := A 30), mc_pi, mc_pl, mn_pi, mn_pl, mi_pi, mi_pl, ml_pi, ml_pl, mr_pi, mr_pl, mz_pi, mz_pl, mcs_0, mcs_r, Kn_v, mrf_some, kok_0, true_and, and_true, not_true_eq_false, not_false_eq_true, false_implies, implies_true, forall_const, if_true, if_false, and_self, Nat.reduceEqDiff, Nat.reduceLeDiff, Nat.reduceSub, Nat.reduceAdd, Nat.zero_le, Nat.le_refl, i10, lt_le, Int32.reduceLT, Int32.reduceSub, cl2, cl3, Kc_v, Sum.inl.injEq, Option.some.injEq, Value.int.injEq, exists_eq_left', Nat.reduceLT, hAe, kc0, kc7, kc13, kc17, kc18, kc22, kc26, kc30, kc36, kc39, kn18, kn26, kn30, kr0_4, kr0_9, kr7_1, kr17_0, kr22_3, kr22_8, kr26_2, kz, vq3, g4, g6, Int32.reduceLT, cl2, hm2, v18, cl3, m1z]
        first | refine ⟨⟨?_, ?_, ?_, ?_, ?_, ?_, ?_, ?_, ?_, ?_, ?_, ?_⟩, rfl⟩ | refine ⟨?_, ?_, ?_, ?_, ?_, ?_, ?_, ?_, ?_, ?_, ?_, ?_⟩
        · (try simp only [K_pi, K_pl])
          exact vk
        · (try simp only [Cn_pi_j18 hA, Cn_pi_j22 hA, Cn_pi_j30 hA, Cn_pl])
          exact vcn
        · (try simp only [Vq0_pi_j18 hA, Vq0_pi_j22 hA, Vq0_pi_j30 hA, Vq0_pl])
          exact v0
        · (try simp only [Vq1_pi_j18 hA, Vq1_pi_j22 hA, Vq1_pi_j30 hA, Vq1_pl])
          exact v1
        · (try simp only [Vq2_pi_j18 hA, Vq2_pi_j22 hA, Vq2_pi_j30 hA, Vq2_pl])
          exact v2
        · (try simp only [Vp_pi_j18 hA, Vp_pi_j30 hA, Vp_thr hA, Vp_pl])
          exact vp
        · (try simp only [Vl0_pi_j18 hA, Vl0_pi_j22 hA, Vl0_pi_j30 hA, Vl0_pl])
          exact vl0
        · (try simp only [Vl1_pi_j18 hA, Vl1_pi_j22 hA, Vl1_pi_j30 hA, Vl1_pl])
          exact vl1
        · (try simp only [Vlr_pi_j18 hA, Vlr_pi_j22 hA, Vlr_pi_j30 hA, Vlr_pl_j39 hA])
          exact vlr
        · (try simp only [Vsr_pi_j18 hA, Vsr_pi_j22 hA, Vsr_pi_j30 hA, Vsr_pl_j39 hA])
          exact vsr
        · refine Vc_of (c := 3) vc (by decide) (fun k => ?_) (fun k => ?_) <;> simp only [mi_pi, mi_pl, hAe, Nat.reduceLT, Nat.reduceEqDiff, false_and, true_and, if_false]
        · (try simp only [Tx_pi_j18 hA, Tx_pi_j22 hA, Tx_pi_j30 hA, Tx_pl])
          exact tx
      · have hol : olF (g_i h (A 12) 4, g_i h (A 12) 5, g_i h (A 12) 6, g_i h (A 13) 4, g_i h (A 13) 5, g_i h (A 13) 6, g_i h (A 7) 3) = g_i h (A 13) 6 := if_neg hm1
        simp only [cT, lmF] at hq9
        simp only [o302_0, o302_1, o302_2, o302_3, o302_6, o302_7, o302_10, o302_16, o302_17, o70_0, o70_1, o70_2, o70_5, o70_6, o70_7, o70_10, o70_13, o70_16, o70_17, o70_20, o70_21, o70_25, o70_26, o70_29, o70_30, o70_31, o70_34, o70_35, o70_38, o70_39, o70_42, o194_0, o194_1, o194_2, o194_5, o194_8, o194_9, o194_12, o194_13, o194_16, o194_19, o194_20, o194_21, o194_22, o194_25, o194_26, o194_27, o194_28, o194_29, o194_32, o194_35, o194_36, o194_37, o194_41, o194_42, o194_45, o194_46, o194_49, o194_50, o194_51, o194_52, o194_53, o194_56, o194_57, o194_58, o194_61, o194_62, o194_63, o194_66, c_X8_isThrown__, c_X8_isQueue, c_queueOf_2, c_X1_loseMark (w := A 12) (r := A 13) (sz := 6) (ring := 0), c_X8_settle (x2 := A 25) (x3 := A 26) (a := A 27) (w := A 33) (r := A 36) (sz := 6), c_X3_hasMark, c_X1_kept (w := A 12) (r := A 13), c_X0_done (cs := A 18), c_X8_done (cs := A 30), mc_pi, mc_pl, mn_pi, mn_pl, mi_pi, mi_pl, ml_pi, ml_pl, mr_pi, mr_pl, mz_pi, mz_pl, mcs_0, mcs_r, Kn_v, Kn_0, mrf_some, kok_0, true_and, and_true, and_false, not_true_eq_false, not_false_eq_true, false_implies, implies_true, forall_const, if_true, if_false, and_self, Nat.reduceEqDiff, Nat.reduceLeDiff, Nat.reduceSub, Nat.reduceAdd, Nat.zero_le, Nat.le_refl, i10, lt_le, Int32.reduceLT, cl2, Kc_v, Sum.inl.injEq, Option.some.injEq, Value.int.injEq, exists_eq_left', Nat.reduceLT, hAe, kc0, kc7, kc12, kc13, kc17, kc18, kc22, kc25, kc26, kc27, kc30, kc33, kc36, kc39, kn18, kn25, kn26, kn27, kn30, kr0_4, kr0_9, kr7_0, kr7_1, kr17_0, kr22_2, kr22_3, kr22_4, kr22_8, kr25_2, kr26_2, kz, ki7_2, ki12_2, ki13_2, ki33_1, ki36_1, vq3, g1, g2, g3, g4, g5, g6, g7, hark, Int32.reduceLT, cl2, c_cW, n_cW, r_cW, z_cW, l_cW, c_mW, n_mW, r_mW, z_mW, l_mW, icw2_j18 hA, icw2_j22 hA, imw2_j22 hA, icw2_j30 hA, imw2_j30 hA, icw2_j27 hA, icw2_j33 hA, icw2_j36 hA, mW_5, hm1, hm2, hol, mT, cT, lmF]
        first | refine ⟨⟨?_, ?_, ?_, ?_, ?_, ?_, ?_, ?_, ?_, ?_, ?_, ?_⟩, rfl⟩ | refine ⟨?_, ?_, ?_, ?_, ?_, ?_, ?_, ?_, ?_, ?_, ?_, ?_⟩
        · (try simp only [K_pi, K_pl, K_cW, K_mW])
          exact vk
        · (try simp only [Cn_pi_j18 hA, Cn_pi_j22 hA, Cn_pi_j30 hA, Cn_pl, Cn_cW2 hA, Cn_mW2 hA])
          exact vcn
        · (try simp only [Vq0_pi_j18 hA, Vq0_pi_j22 hA, Vq0_pi_j30 hA, Vq0_pl, Vq0_cW2 hA, Vq0_mW2 hA])
          exact v0
        · (try simp only [Vq1_pi_j18 hA, Vq1_pi_j22 hA, Vq1_pi_j30 hA, Vq1_pl, Vq1_cW2 hA, Vq1_mW2 hA])
          exact v1
        · simp only [Vq2_pi_j30 hA, Vq2_mW hA, cT2_pi_j18 hA, cT2_pi_j22 hA, cT2_pl, cT2_cW hA]
          exact ⟨trivial, hq9⟩
        · (try simp only [Vp_pi_j18 hA, Vp_pi_j30 hA, Vp_thr hA, Vp_pl, Vp_cW2 hA, Vp_mW2 hA])
          exact vp
        · (try simp only [Vl0_pi_j18 hA, Vl0_pi_j22 hA, Vl0_pi_j30 hA, Vl0_pl, Vl0_cW2 hA, Vl0_mW2 hA])
          exact vl0
        · (try simp only [Vl1_pi_j18 hA, Vl1_pi_j22 hA, Vl1_pi_j30 hA, Vl1_pl, Vl1_cW2 hA, Vl1_mW2 hA])
          exact vl1
        · (try simp only [Vlr_pi_j18 hA, Vlr_pi_j22 hA, Vlr_pi_j30 hA, Vlr_pl_j39 hA, Vlr_cW2 hA, Vlr_mW2 hA])
          exact vlr
        · (try simp only [Vsr_pi_j18 hA, Vsr_pi_j22 hA, Vsr_pi_j30 hA, Vsr_pl_j39 hA, Vsr_cW2 hA, Vsr_mW2 hA])
          exact vsr
        · refine Vc_of (c := 0) vc (by decide) (fun k => ?_) (fun k => ?_) <;> simp only [mi_pi, mi_pl, hAe, Nat.reduceLT, Nat.reduceEqDiff, false_and, true_and, if_false, icw2_j18 hA, imw2_j18 hA, icw2_j30 hA, imw2_j30 hA]
        · (try simp only [Tx_pi_j18 hA, Tx_pi_j22 hA, Tx_pi_j30 hA, Tx_pl, Tx_cW2 hA, Tx_mW2 hA])
          exact tx


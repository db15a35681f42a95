section
theorem m1z : ((-1 : Int32) < 0) = True := by decide
theorem i64_0 : (0 : Int32).toInt64 = 0 := id rfl
theorem i64_1 : (1 : Int32).toInt64 = 1 := id rfl
theorem h_in {x : Int32} (h1 : ¬ x < 0) (h2 : ¬ 7 < x) : vp_in x 8 := by
  rw [Int32.lt_iff_toInt_lt] at h1 h2
  have e1 : (0 : Int32).toInt = 0 := rfl
  have e2 : (7 : Int32).toInt = 7 := rfl
  unfold vp_in
  rintro (z | z)
  · exact h1 (by rw [Int32.lt_iff_toInt_lt] at z; exact z)
  · have : x.toNatClampNeg = x.toInt.toNat := rfl
    omega
theorem h_lt {n : Nat} {x : Int32} (h : vp_in x n) : x.toNatClampNeg < n := by unfold vp_in at h; omega
/-! THE OPS of the queues, second part -/
theorem hx_299_1 {l rest : List Value} {bc bs : Nat} {Q : MR → MH → Prop} {h : MH} : Kc Ok 299 3 6 l rest bc bs Q (.inr 1) h ↔ ∀ q : Nat, Ok 299 13 l [.ref q] h bc bs Q := Kc_x (by decide +kernel) (by decide +kernel)
theorem op_mark {A : Nat → Nat} {h : MH} (R : Rl A h) {q : Int32} : Ok 299 0 [.ref (A 0), .int q, .ref (A 39), mk0] [] h 1 6 (fun r h1 => ∃ k : Int32, r = .inl (some (.int k)) ∧ g_c h1 (A 22) = 9 ∧ Ok 191 0 [.ref (A 22), .int q] [] h1 0 0 (fun r2 h2 => ∃ b : Int32, r2 = .inl (some (.int b)) ∧ Rl A h2 ∧ g_i h2 (A 22) 9 = k ∧ (k = 0 → g_l h2 (A 39) 0 = b.toInt64))) := by
  obtain ⟨vk, vcn, v0, v1, v2, vp, vl0, vl1, vlr, vsr, vc, tx⟩ := R
  have vk0 := vk
  have vcn0 := vcn
  (refine K_el vk0 ?_; intros hA kc0 kc1 kc2 kc3 kc4 kc5 kc6 kc7 kc8 kc9 kc10 kc11 kc12 kc13 kc14 kc15 kc16 kc17 kc18 kc19 kc20 kc21 kc22 kc23 kc24 kc25 kc26 kc27 kc28 kc29 kc30 kc31 kc32 kc33 kc34 kc35 kc36 kc37 kc38 kc39 kz kt kn3 kn4 kn18 kn21 kn23 kn24 kn25 kn26 kn27 kn29 kn30 kr0_0 kr0_1 kr0_2 kr0_3 kr0_4 kr0_5 kr0_7 kr0_8 kr0_9 kr0_10 kr1_0 kr2_0 kr5_0 kr5_1 kr6_0 kr6_1 kr7_0 kr7_1 kr8_0 kr9_0 kr10_0 kr11_0 kr12_0 kr13_0 kr14_0 kr15_0 kr16_0 kr17_0 kr19_0 kr19_1 kr22_0 kr22_1 kr22_2 kr22_3 kr22_4 kr22_5 kr22_7 kr22_8 kr25_0 kr25_1 kr25_2 kr26_0 kr26_1 kr26_2 kr29_0 kr29_1)
  (refine Cn_el vcn0 ?_; intros ki5_2 ki6_2 ki7_2 ki8_1 ki8_2 ki8_3 ki9_1 ki9_2 ki9_3 ki10_1 ki10_2 ki10_3 ki11_1 ki11_2 ki11_3 ki12_1 ki12_2 ki12_3 ki13_1 ki13_2 ki13_3 ki14_1 ki14_2 ki14_3 ki28_0 ki28_1 ki31_0 ki31_1 ki32_0 ki32_1 ki33_0 ki33_1 ki34_0 ki34_1 ki35_0 ki35_1 ki36_0 ki36_1)
  have hAe : ∀ i j, i < 40 → j < 40 → (A i = A j ↔ i = j) := hA
  by_cases bq : q < 0 ∨ ¬ q < 3
  · have bq2 : (¬ q < 0 ∧ q < 3) = False := nrng bq
    simp only [o299_0, o299_1, o299_2, o299_3, o299_13, o299_14, o299_15, o68_0, o68_1, o68_2, o191_0, o191_1, o191_2, o191_5, o191_8, o191_9, o191_12, o191_13, o191_16, o191_19, o191_20, o191_21, o191_22, o191_25, o191_26, o191_27, o191_28, o191_31, o191_32, hx_299_1, c_X8_isThrown__, c_X8_isQueue, c_queueOf_bad, mc_pi, mc_pT, mn_pi, mn_pT, mi_pi, mi_pT, ml_pi, ml_pT, mr_pi, mr_pT, mz_pT, mcs_0, mcs_r, Kn_v, Kn_x, mrf_some, true_and, and_true, not_true_eq_false, not_false_eq_true, false_implies, forall_const, if_true, if_false, and_self, Nat.reduceLeDiff, Nat.reduceSub, Nat.reduceAdd, Nat.zero_le, Nat.le_refl, i10, Sum.inl.injEq, Option.some.injEq, Value.int.injEq, exists_eq_left', Nat.reduceLT, kc0, kc22, kc26, kn26, kr22_3, kz, bq, bq2]
    intro t ht
    first | refine ⟨⟨?_, ?_, ?_, ?_, ?_, ?_, ?_, ?_, ?_, ?_, ?_, ?_⟩, rfl⟩ | refine ⟨?_, ?_, ?_, ?_, ?_, ?_, ?_, ?_, ?_, ?_, ?_, ?_⟩
    · (try simp only [K_pi])
      exact K_pT ht vk
    · (try simp only [Cn_pi_j22 hA, Cn_pT])
      exact vcn
    · (try simp only [Vq0_pi_j22 hA, Vq0_pT])
      exact v0
    · (try simp only [Vq1_pi_j22 hA, Vq1_pT])
      exact v1
    · (try simp only [Vq2_pi_j22 hA, Vq2_pT])
      exact v2
    · (try simp only [Vp_thr hA, Vp_pT])
      exact vp
    · (try simp only [Vl0_pi_j22 hA, Vl0_pT])
      exact vl0
    · (try simp only [Vl1_pi_j22 hA, Vl1_pT])
      exact vl1
    · (try simp only [Vlr_pi_j22 hA, Vlr_pT])
      exact vlr
    · (try simp only [Vsr_pi_j22 hA, Vsr_pT])
      exact vsr
    · (try simp only [Vc_pi_j22 hA, Vc_pT])
      exact vc
    · (try simp only [Tx_pi_j22 hA])
      exact Tx_pT ht tx
  · have y1 : ¬ q < 0 := fun z => bq (Or.inl z)
    have y2 : q < 3 := Classical.byContradiction fun z => bq (Or.inr z)
    have bq2 : (¬ q < 0 ∧ q < 3) = True := eq_true ⟨y1, y2⟩
    rcases q_cases y1 y2 with rfl | rfl | rfl
    · have he := v0.1
      have hm := v0.2
      have hT : mT h (A 27) 0 (A 31) (A 34) = cT h (A 5) (A 8) (A 9) := he.symm
      have he2 := he
      simp only [cT, mT, Prod.mk.injEq] at he2
      obtain ⟨g1, g2, g3, g4, g5, g6, g7⟩ := he2
      replace g1 := g1.symm
      replace g2 := g2.symm
      replace g3 := g3.symm
      replace g4 := g4.symm
      replace g5 := g5.symm
      replace g6 := g6.symm
      replace g7 := g7.symm
      obtain ⟨hmk, har, hl0, hl9⟩ := qA_0 _ hm
      have hark : arok 0 (g_i h (A 5) 3) := fun z => absurd (by decide) z
      have n1 : ¬ A 8 = A 9 := fun z => absurd ((hAe 8 9 (by decide) (by decide)).mp z) (by decide)
      have hq9 := qMm_0 _ hm
      simp only [cT, mkF] at hq9
      simp only [o299_0, o299_1, o299_2, o299_3, o299_6, o299_7, o299_10, o299_16, o299_17, o68_0, o68_1, o68_2, o68_5, o68_6, o68_7, o68_10, o68_11, o68_14, o68_15, o68_18, o68_21, o68_24, o191_0, o191_1, o191_2, o191_5, o191_8, o191_9, o191_12, o191_13, o191_16, o191_19, o191_20, o191_21, o191_22, o191_25, o191_26, o191_27, o191_28, o191_31, o191_32, o191_33, o191_36, o191_39, o191_40, o191_41, o191_44, o191_45, o191_46, o191_49, o191_50, o191_51, o191_54, o191_57, c_X8_isThrown__, c_X8_isQueue, c_queueOf_0, c_X1_setMark (w := A 8) (r := A 9) (sz := 5) (ring := 1), c_X8_settle (x2 := A 25) (x3 := A 26) (a := A 27) (w := A 31) (r := A 34) (sz := 5), c_X0_done (cs := A 18), c_X8_done (cs := A 30), mc_pi, mc_pl, mn_pi, mn_pl, mi_pi, mi_pl, ml_pi, ml_pl, mr_pi, mr_pl, mz_pi, mz_pl, mcs_0, mcs_r, Kn_v, Kn_0, mrf_some, kok_0, true_and, and_true, and_false, not_true_eq_false, not_false_eq_true, false_implies, implies_true, forall_const, if_true, if_false, and_self, Nat.reduceEqDiff, Nat.reduceLeDiff, Nat.reduceSub, Nat.reduceAdd, Nat.zero_le, Nat.le_refl, i10, Int32.reduceLT, cl0, Kc_v, Sum.inl.injEq, Option.some.injEq, Value.int.injEq, exists_eq_left', Nat.reduceLT, hAe, kc0, kc5, kc8, kc9, kc17, kc18, kc22, kc25, kc26, kc27, kc30, kc31, kc34, kc39, kn18, kn25, kn26, kn27, kn30, kr0_2, kr0_9, kr5_0, kr5_1, kr17_0, kr22_2, kr22_3, kr22_4, kr22_8, kr25_0, kr26_0, kz, ki5_2, ki8_2, ki9_2, ki31_1, ki34_1, vq3, g1, g2, g3, g4, g5, g6, g7, hark, Int32.reduceLT, cl0, c_cW, n_cW, r_cW, z_cW, l_cW, c_mW, n_mW, r_mW, z_mW, l_mW, icw0_j18 hA, icw0_j22 hA, imw0_j22 hA, icw0_j30 hA, imw0_j30 hA, icw0_j27 hA, icw0_j31 hA, icw0_j34 hA, icx0_5 hA, imx0_5 hA, mW_5, mT, cT, mkF]
      first | refine ⟨⟨?_, ?_, ?_, ?_, ?_, ?_, ?_, ?_, ?_, ?_, ?_, ?_⟩, rfl⟩ | refine ⟨?_, ?_, ?_, ?_, ?_, ?_, ?_, ?_, ?_, ?_, ?_, ?_⟩
      · (try simp only [K_pi, K_pl, K_cW, K_mW])
        exact vk
      · (try simp only [Cn_pi_j18 hA, Cn_pi_j22 hA, Cn_pi_j30 hA, Cn_pl, Cn_cW0 hA, Cn_mW0 hA])
        exact vcn
      · simp only [Vq0_pi_j30 hA, Vq0_mW hA, cT0_pi_j18 hA, cT0_pi_j22 hA, cT0_pl, cT0_cW hA]
        exact ⟨trivial, hq9⟩
      · (try simp only [Vq1_pi_j18 hA, Vq1_pi_j22 hA, Vq1_pi_j30 hA, Vq1_pl, Vq1_cW0 hA, Vq1_mW0 hA])
        exact v1
      · (try simp only [Vq2_pi_j18 hA, Vq2_pi_j22 hA, Vq2_pi_j30 hA, Vq2_pl, Vq2_cW0 hA, Vq2_mW0 hA])
        exact v2
      · (try simp only [Vp_pi_j18 hA, Vp_pi_j30 hA, Vp_thr hA, Vp_pl, Vp_cW0 hA, Vp_mW0 hA])
        exact vp
      · (try simp only [Vl0_pi_j18 hA, Vl0_pi_j22 hA, Vl0_pi_j30 hA, Vl0_pl, Vl0_cW0 hA, Vl0_mW0 hA])
        exact vl0
      · (try simp only [Vl1_pi_j18 hA, Vl1_pi_j22 hA, Vl1_pi_j30 hA, Vl1_pl, Vl1_cW0 hA, Vl1_mW0 hA])
        exact vl1
      · (try simp only [Vlr_pi_j18 hA, Vlr_pi_j22 hA, Vlr_pi_j30 hA, Vlr_pl_j39 hA, Vlr_cW0 hA, Vlr_mW0 hA])
        exact vlr
      · (try simp only [Vsr_pi_j18 hA, Vsr_pi_j22 hA, Vsr_pi_j30 hA, Vsr_pl_j39 hA, Vsr_cW0 hA, Vsr_mW0 hA])
        exact vsr
      · refine Vc_of (c := 0) vc (by decide) (fun k => ?_) (fun k => ?_) <;> simp only [mi_pi, mi_pl, hAe, Nat.reduceLT, Nat.reduceEqDiff, false_and, true_and, if_false, icw0_j18 hA, imw0_j18 hA, icw0_j30 hA, imw0_j30 hA]
      · (try simp only [Tx_pi_j18 hA, Tx_pi_j22 hA, Tx_pi_j30 hA, Tx_pl, Tx_cW0 hA, Tx_mW0 hA])
        exact tx
    · have he := v1.1
      have hm := v1.2
      have hT : mT h (A 27) 1 (A 32) (A 35) = cT h (A 6) (A 10) (A 11) := he.symm
      have he2 := he
      simp only [cT, mT, Prod.mk.injEq] at he2
      obtain ⟨g1, g2, g3, g4, g5, g6, g7⟩ := he2
      replace g1 := g1.symm
      replace g2 := g2.symm
      replace g3 := g3.symm
      replace g4 := g4.symm
      replace g5 := g5.symm
      replace g6 := g6.symm
      replace g7 := g7.symm
      obtain ⟨hmk, har, hl0, hl9⟩ := qA_1 _ hm
      have hark : arok 1 (g_i h (A 6) 3) := fun z => absurd (by decide) z
      have n1 : ¬ A 10 = A 11 := fun z => absurd ((hAe 10 11 (by decide) (by decide)).mp z) (by decide)
      have hq9 := qMm_1 _ hm
      simp only [cT, mkF] at hq9
      simp only [o299_0, o299_1, o299_2, o299_3, o299_6, o299_7, o299_10, o299_16, o299_17, o68_0, o68_1, o68_2, o68_5, o68_6, o68_7, o68_10, o68_11, o68_14, o68_15, o68_18, o68_21, o68_24, o191_0, o191_1, o191_2, o191_5, o191_8, o191_9, o191_12, o191_13, o191_16, o191_19, o191_20, o191_21, o191_22, o191_25, o191_26, o191_27, o191_28, o191_31, o191_32, o191_33, o191_36, o191_39, o191_40, o191_41, o191_44, o191_45, o191_46, o191_49, o191_50, o191_51, o191_54, o191_57, c_X8_isThrown__, c_X8_isQueue, c_queueOf_1, c_X1_setMark (w := A 10) (r := A 11) (sz := 3) (ring := 1), c_X8_settle (x2 := A 25) (x3 := A 26) (a := A 27) (w := A 32) (r := A 35) (sz := 3), c_X0_done (cs := A 18), c_X8_done (cs := A 30), mc_pi, mc_pl, mn_pi, mn_pl, mi_pi, mi_pl, ml_pi, ml_pl, mr_pi, mr_pl, mz_pi, mz_pl, mcs_0, mcs_r, Kn_v, Kn_0, mrf_some, kok_0, true_and, and_true, and_false, not_true_eq_false, not_false_eq_true, false_implies, implies_true, forall_const, if_true, if_false, and_self, Nat.reduceEqDiff, Nat.reduceLeDiff, Nat.reduceSub, Nat.reduceAdd, Nat.zero_le, Nat.le_refl, i10, Int32.reduceLT, cl1, Kc_v, Sum.inl.injEq, Option.some.injEq, Value.int.injEq, exists_eq_left', Nat.reduceLT, hAe, kc0, kc6, kc10, kc11, kc17, kc18, kc22, kc25, kc26, kc27, kc30, kc32, kc35, kc39, kn18, kn25, kn26, kn27, kn30, kr0_3, kr0_9, kr6_0, kr6_1, kr17_0, kr22_2, kr22_3, kr22_4, kr22_8, kr25_1, kr26_1, kz, ki6_2, ki10_2, ki11_2, ki32_1, ki35_1, vq3, g1, g2, g3, g4, g5, g6, g7, hark, Int32.reduceLT, cl1, c_cW, n_cW, r_cW, z_cW, l_cW, c_mW, n_mW, r_mW, z_mW, l_mW, icw1_j18 hA, icw1_j22 hA, imw1_j22 hA, icw1_j30 hA, imw1_j30 hA, icw1_j27 hA, icw1_j32 hA, icw1_j35 hA, icx1_5 hA, imx1_5 hA, mW_5, mT, cT, mkF]
      first | refine ⟨⟨?_, ?_, ?_, ?_, ?_, ?_, ?_, ?_, ?_, ?_, ?_, ?_⟩, rfl⟩ | refine ⟨?_, ?_, ?_, ?_, ?_, ?_, ?_, ?_, ?_, ?_, ?_, ?_⟩
      · (try simp only [K_pi, K_pl, K_cW, K_mW])
        exact vk
      · (try simp only [Cn_pi_j18 hA, Cn_pi_j22 hA, Cn_pi_j30 hA, Cn_pl, Cn_cW1 hA, Cn_mW1 hA])
        exact vcn
      · (try simp only [Vq0_pi_j18 hA, Vq0_pi_j22 hA, Vq0_pi_j30 hA, Vq0_pl, Vq0_cW1 hA, Vq0_mW1 hA])
        exact v0
      · simp only [Vq1_pi_j30 hA, Vq1_mW hA, cT1_pi_j18 hA, cT1_pi_j22 hA, cT1_pl, cT1_cW hA]
        exact ⟨trivial, hq9⟩
      · (try simp only [Vq2_pi_j18 hA, Vq2_pi_j22 hA, Vq2_pi_j30 hA, Vq2_pl, Vq2_cW1 hA, Vq2_mW1 hA])
        exact v2
      · (try simp only [Vp_pi_j18 hA, Vp_pi_j30 hA, Vp_thr hA, Vp_pl, Vp_cW1 hA, Vp_mW1 hA])
        exact vp
      · (try simp only [Vl0_pi_j18 hA, Vl0_pi_j22 hA, Vl0_pi_j30 hA, Vl0_pl, Vl0_cW1 hA, Vl0_mW1 hA])
        exact vl0
      · (try simp only [Vl1_pi_j18 hA, Vl1_pi_j22 hA, Vl1_pi_j30 hA, Vl1_pl, Vl1_cW1 hA, Vl1_mW1 hA])
        exact vl1
      · (try simp only [Vlr_pi_j18 hA, Vlr_pi_j22 hA, Vlr_pi_j30 hA, Vlr_pl_j39 hA, Vlr_cW1 hA, Vlr_mW1 hA])
        exact vlr
      · (try simp only [Vsr_pi_j18 hA, Vsr_pi_j22 hA, Vsr_pi_j30 hA, Vsr_pl_j39 hA, Vsr_cW1 hA, Vsr_mW1 hA])
        exact vsr
      · refine Vc_of (c := 0) vc (by decide) (fun k => ?_) (fun k => ?_) <;> simp only [mi_pi, mi_pl, hAe, Nat.reduceLT, Nat.reduceEqDiff, false_and, true_and, if_false, icw1_j18 hA, imw1_j18 hA, icw1_j30 hA, imw1_j30 hA]
      · (try simp only [Tx_pi_j18 hA, Tx_pi_j22 hA, Tx_pi_j30 hA, Tx_pl, Tx_cW1 hA, Tx_mW1 hA])
        exact tx
    · have he := v2.1
      have hm := v2.2
      have hT : mT h (A 27) 2 (A 33) (A 36) = cT h (A 7) (A 12) (A 13) := he.symm
      have he2 := he
      simp only [cT, mT, Prod.mk.injEq] at he2
      obtain ⟨g1, g2, g3, g4, g5, g6, g7⟩ := he2
      replace g1 := g1.symm
      replace g2 := g2.symm
      replace g3 := g3.symm
      replace g4 := g4.symm
      replace g5 := g5.symm
      replace g6 := g6.symm
      replace g7 := g7.symm
      obtain ⟨hmk, har, hl0, hl9⟩ := qA_2 _ hm
      have hark : arok 2 (g_i h (A 7) 3) := fun _ => har
      have n1 : ¬ A 12 = A 13 := fun z => absurd ((hAe 12 13 (by decide) (by decide)).mp z) (by decide)
      have hq9 := qMm_2 _ hm
      simp only [cT, mkF] at hq9
      simp only [o299_0, o299_1, o299_2, o299_3, o299_6, o299_7, o299_10, o299_16, o299_17, o68_0, o68_1, o68_2, o68_5, o68_6, o68_7, o68_10, o68_11, o68_14, o68_15, o68_18, o68_21, o68_24, o191_0, o191_1, o191_2, o191_5, o191_8, o191_9, o191_12, o191_13, o191_16, o191_19, o191_20, o191_21, o191_22, o191_25, o191_26, o191_27, o191_28, o191_31, o191_32, o191_33, o191_36, o191_39, o191_40, o191_41, o191_44, o191_45, o191_46, o191_49, o191_50, o191_51, o191_54, o191_57, c_X8_isThrown__, c_X8_isQueue, c_queueOf_2, c_X1_setMark (w := A 12) (r := A 13) (sz := 6) (ring := 0), c_X8_settle (x2 := A 25) (x3 := A 26) (a := A 27) (w := A 33) (r := A 36) (sz := 6), c_X0_done (cs := A 18), c_X8_done (cs := A 30), mc_pi, mc_pl, mn_pi, mn_pl, mi_pi, mi_pl, ml_pi, ml_pl, mr_pi, mr_pl, mz_pi, mz_pl, mcs_0, mcs_r, Kn_v, Kn_0, mrf_some, kok_0, true_and, and_true, and_false, not_true_eq_false, not_false_eq_true, false_implies, implies_true, forall_const, if_true, if_false, and_self, Nat.reduceEqDiff, Nat.reduceLeDiff, Nat.reduceSub, Nat.reduceAdd, Nat.zero_le, Nat.le_refl, i10, Int32.reduceLT, cl2, Kc_v, Sum.inl.injEq, Option.some.injEq, Value.int.injEq, exists_eq_left', Nat.reduceLT, hAe, kc0, kc7, kc12, kc13, kc17, kc18, kc22, kc25, kc26, kc27, kc30, kc33, kc36, kc39, kn18, kn25, kn26, kn27, kn30, kr0_4, kr0_9, kr7_0, kr7_1, kr17_0, kr22_2, kr22_3, kr22_4, kr22_8, kr25_2, kr26_2, kz, ki7_2, ki12_2, ki13_2, ki33_1, ki36_1, vq3, g1, g2, g3, g4, g5, g6, g7, hark, Int32.reduceLT, cl2, c_cW, n_cW, r_cW, z_cW, l_cW, c_mW, n_mW, r_mW, z_mW, l_mW, icw2_j18 hA, icw2_j22 hA, imw2_j22 hA, icw2_j30 hA, imw2_j30 hA, icw2_j27 hA, icw2_j33 hA, icw2_j36 hA, icx2_5 hA, imx2_5 hA, mW_5, mT, cT, mkF]
      first | refine ⟨⟨?_, ?_, ?_, ?_, ?_, ?_, ?_, ?_, ?_, ?_, ?_, ?_⟩, rfl⟩ | refine ⟨?_, ?_, ?_, ?_, ?_, ?_, ?_, ?_, ?_, ?_, ?_, ?_⟩
      · (try simp only [K_pi, K_pl, K_cW, K_mW])
        exact vk
      · (try simp only [Cn_pi_j18 hA, Cn_pi_j22 hA, Cn_pi_j30 hA, Cn_pl, Cn_cW2 hA, Cn_mW2 hA])
        exact vcn
      · (try simp only [Vq0_pi_j18 hA, Vq0_pi_j22 hA, Vq0_pi_j30 hA, Vq0_pl, Vq0_cW2 hA, Vq0_mW2 hA])
        exact v0
      · (try simp only [Vq1_pi_j18 hA, Vq1_pi_j22 hA, Vq1_pi_j30 hA, Vq1_pl, Vq1_cW2 hA, Vq1_mW2 hA])
        exact v1
      · simp only [Vq2_pi_j30 hA, Vq2_mW hA, cT2_pi_j18 hA, cT2_pi_j22 hA, cT2_pl, cT2_cW hA]
        exact ⟨trivial, hq9⟩
      · (try simp only [Vp_pi_j18 hA, Vp_pi_j30 hA, Vp_thr hA, Vp_pl, Vp_cW2 hA, Vp_mW2 hA])
        exact vp
      · (try simp only [Vl0_pi_j18 hA, Vl0_pi_j22 hA, Vl0_pi_j30 hA, Vl0_pl, Vl0_cW2 hA, Vl0_mW2 hA])
        exact vl0
      · (try simp only [Vl1_pi_j18 hA, Vl1_pi_j22 hA, Vl1_pi_j30 hA, Vl1_pl, Vl1_cW2 hA, Vl1_mW2 hA])
        exact vl1
      · (try simp only [Vlr_pi_j18 hA, Vlr_pi_j22 hA, Vlr_pi_j30 hA, Vlr_pl_j39 hA, Vlr_cW2 hA, Vlr_mW2 hA])
        exact vlr
      · (try simp only [Vsr_pi_j18 hA, Vsr_pi_j22 hA, Vsr_pi_j30 hA, Vsr_pl_j39 hA, Vsr_cW2 hA, Vsr_mW2 hA])
        exact vsr
      · refine Vc_of (c := 0) vc (by decide) (fun k => ?_) (fun k => ?_) <;> simp only [mi_pi, mi_pl, hAe, Nat.reduceLT, Nat.reduceEqDiff, false_and, true_and, if_false, icw2_j18 hA, imw2_j18 hA, icw2_j30 hA, imw2_j30 hA]
      · (try simp only [Tx_pi_j18 hA, Tx_pi_j22 hA, Tx_pi_j30 hA, Tx_pl, Tx_cW2 hA, Tx_mW2 hA])
        exact tx

theorem hx_300_1 {l rest : List Value} {bc bs : Nat} {Q : MR → MH → Prop} {h : MH} : Kc Ok 300 3 6 l rest bc bs Q (.inr 1) h ↔ ∀ q : Nat, Ok 300 13 l [.ref q] h bc bs Q := Kc_x (by decide +kernel) (by decide +kernel)
theorem op_back {A : Nat → Nat} {h : MH} (R : Rl A h) {q : Int32} : Ok 300 0 [.ref (A 0), .int q, .ref (A 39), mk0] [] h 1 6 (fun r h1 => ∃ k : Int32, r = .inl (some (.int k)) ∧ g_c h1 (A 22) = 9 ∧ Ok 192 0 [.ref (A 22), .int q, mk0, mk0] [] h1 0 0 (fun r2 h2 => ∃ b : Int32, r2 = .inl (some (.int b)) ∧ Rl A h2 ∧ g_i h2 (A 22) 9 = k ∧ (k = 0 → g_l h2 (A 39) 0 = b.toInt64))) := by
  obtain ⟨vk, vcn, v0, v1, v2, vp, vl0, vl1, vlr, vsr, vc, tx⟩ := R
  have vk0 := vk
  have vcn0 := vcn
  (refine K_el vk0 ?_; intros hA kc0 kc1 kc2 kc3 kc4 kc5 kc6 kc7 kc8 kc9 kc10 kc11 kc12 kc13 kc14 kc15 kc16 kc17 kc18 kc19 kc20 kc21 kc22 kc23 kc24 kc25 kc26 kc27 kc28 kc29 kc30 kc31 kc32 kc33 kc34 kc35 kc36 kc37 kc38 kc39 kz kt kn3 kn4 kn18 kn21 kn23 kn24 kn25 kn26 kn27 kn29 kn30 kr0_0 kr0_1 kr0_2 kr0_3 kr0_4 kr0_5 kr0_7 kr0_8 kr0_9 kr0_10 kr1_0 kr2_0 kr5_0 kr5_1 kr6_0 kr6_1 kr7_0 kr7_1 kr8_0 kr9_0 kr10_0 kr11_0 kr12_0 kr13_0 kr14_0 kr15_0 kr16_0 kr17_0 kr19_0 kr19_1 kr22_0 kr22_1 kr22_2 kr22_3 kr22_4 kr22_5 kr22_7 kr22_8 kr25_0 kr25_1 kr25_2 kr26_0 kr26_1 kr26_2 kr29_0 kr29_1)
  (refine Cn_el vcn0 ?_; intros ki5_2 ki6_2 ki7_2 ki8_1 ki8_2 ki8_3 ki9_1 ki9_2 ki9_3 ki10_1 ki10_2 ki10_3 ki11_1 ki11_2 ki11_3 ki12_1 ki12_2 ki12_3 ki13_1 ki13_2 ki13_3 ki14_1 ki14_2 ki14_3 ki28_0 ki28_1 ki31_0 ki31_1 ki32_0 ki32_1 ki33_0 ki33_1 ki34_0 ki34_1 ki35_0 ki35_1 ki36_0 ki36_1)
  have hAe : ∀ i j, i < 40 → j < 40 → (A i = A j ↔ i = j) := hA
  by_cases bq : q < 0 ∨ ¬ q < 3
  · have bq2 : (¬ q < 0 ∧ q < 3) = False := nrng bq
    simp only [o300_0, o300_1, o300_2, o300_3, o300_13, o300_14, o300_15, o69_0, o69_1, o69_2, o192_0, o192_1, o192_2, o192_5, o192_8, o192_9, o192_12, o192_13, o192_16, o192_19, o192_20, o192_21, o192_22, o192_25, o192_26, hx_300_1, c_X8_isThrown__, c_X8_isQueue, c_queueOf_bad, mc_pi, mc_pT, mn_pi, mn_pT, mi_pi, mi_pT, ml_pi, ml_pT, mr_pi, mr_pT, mz_pT, mcs_0, mcs_r, Kn_v, Kn_x, mrf_some, true_and, and_true, not_true_eq_false, not_false_eq_true, false_implies, forall_const, if_true, if_false, and_self, Nat.reduceLeDiff, Nat.reduceSub, Nat.reduceAdd, Nat.zero_le, Nat.le_refl, i10, Sum.inl.injEq, Option.some.injEq, Value.int.injEq, exists_eq_left', Nat.reduceLT, kc0, kc22, kc26, kn26, kr22_3, kz, bq, bq2]
    intro t ht
    first | refine ⟨⟨?_, ?_, ?_, ?_, ?_, ?_, ?_, ?_, ?_, ?_, ?_, ?_⟩, rfl⟩ | refine ⟨?_, ?_, ?_, ?_, ?_, ?_, ?_, ?_, ?_, ?_, ?_, ?_⟩
    · (try simp only [K_pi])
      exact K_pT ht vk
    · (try simp only [Cn_pi_j22 hA, Cn_pT])
      exact vcn
    · (try simp only [Vq0_pi_j22 hA, Vq0_pT])
      exact v0
    · (try simp only [Vq1_pi_j22 hA, Vq1_pT])
      exact v1
    · (try simp only [Vq2_pi_j22 hA, Vq2_pT])
      exact v2
    · (try simp only [Vp_thr hA, Vp_pT])
      exact vp
    · (try simp only [Vl0_pi_j22 hA, Vl0_pT])
      exact vl0
    · (try simp only [Vl1_pi_j22 hA, Vl1_pT])
      exact vl1
    · (try simp only [Vlr_pi_j22 hA, Vlr_pT])
      exact vlr
    · (try simp only [Vsr_pi_j22 hA, Vsr_pT])
      exact vsr
    · (try simp only [Vc_pi_j22 hA, Vc_pT])
      exact vc
    · (try simp only [Tx_pi_j22 hA])
      exact Tx_pT ht tx
  · have y1 : ¬ q < 0 := fun z => bq (Or.inl z)
    have y2 : q < 3 := Classical.byContradiction fun z => bq (Or.inr z)
    have bq2 : (¬ q < 0 ∧ q < 3) = True := eq_true ⟨y1, y2⟩
    rcases q_cases y1 y2 with rfl | rfl | rfl
    · have he := v0.1
      have hm := v0.2
      have hT : mT h (A 27) 0 (A 31) (A 34) = cT h (A 5) (A 8) (A 9) := he.symm
      have he2 := he
      simp only [cT, mT, Prod.mk.injEq] at he2
      obtain ⟨g1, g2, g3, g4, g5, g6, g7⟩ := he2
      replace g1 := g1.symm
      replace g2 := g2.symm
      replace g3 := g3.symm
      replace g4 := g4.symm
      replace g5 := g5.symm
      replace g6 := g6.symm
      replace g7 := g7.symm
      obtain ⟨hmk, har, hl0, hl9⟩ := qA_0 _ hm
      have hark : arok 0 (g_i h (A 5) 3) := fun z => absurd (by decide) z
      have n1 : ¬ A 8 = A 9 := fun z => absurd ((hAe 8 9 (by decide) (by decide)).mp z) (by decide)
      have hq9 := qMb_0 _ hm
      simp only [cT] at hmk
      rcases hmk with ⟨hm1, hm2⟩ | ⟨hm1, hm2⟩
      · skip
        simp only [o300_0, o300_1, o300_2, o300_3, o300_6, o300_7, o300_10, o300_16, o300_17, o69_0, o69_1, o69_2, o69_5, o69_6, o69_7, o69_10, o69_13, o69_16, o69_17, o69_20, o69_21, o69_24, o69_25, o69_26, o192_0, o192_1, o192_2, o192_5, o192_8, o192_9, o192_12, o192_13, o192_16, o192_19, o192_20, o192_21, o192_22, o192_25, o192_26, o192_27, o192_28, o192_29, o192_32, o192_35, o192_36, o192_37, o192_40, o192_41, o192_42, o192_45, o192_46, o192_49, o192_50, o192_51, o192_52, o192_53, o192_56, o192_59, o192_60, o192_61, c_X8_isThrown__, c_X8_isQueue, c_queueOf_0, c_X3_hasMark, c_ref_3 (cs := A 18), c_X8_no (cs := A 30), mc_pi, mc_pl, mn_pi, mn_pl, mi_pi, mi_pl, ml_pi, ml_pl, mr_pi, mr_pl, mz_pi, mz_pl, mcs_0, mcs_r, Kn_v, mrf_some, kok_0, true_and, and_true, not_true_eq_false, not_false_eq_true, false_implies, implies_true, forall_const, if_true, if_false, and_self, Nat.reduceEqDiff, Nat.reduceLeDiff, Nat.reduceSub, Nat.reduceAdd, Nat.zero_le, Nat.le_refl, i10, lt_le, Int32.reduceLT, Int32.reduceSub, cl0, cl3, Kc_v, Sum.inl.injEq, Option.some.injEq, Value.int.injEq, exists_eq_left', Nat.reduceLT, hAe, kc0, kc5, kc9, kc17, kc18, kc22, kc26, kc30, kc34, kc39, kn18, kn26, kn30, kr0_2, kr0_9, kr5_1, kr17_0, kr22_3, kr22_8, kr26_0, kz, vq3, g4, g6, Int32.reduceLT, cl0, hm2, v18, cl3, m1z]
        first | refine ⟨⟨?_, ?_, ?_, ?_, ?_, ?_, ?_, ?_, ?_, ?_, ?_, ?_⟩, rfl⟩ | refine ⟨?_, ?_, ?_, ?_, ?_, ?_, ?_, ?_, ?_, ?_, ?_, ?_⟩
        · (try simp only [K_pi, K_pl])
          exact vk
        · (try simp only [Cn_pi_j18 hA, Cn_pi_j22 hA, Cn_pi_j30 hA, Cn_pl])
          exact vcn
        · (try simp only [Vq0_pi_j18 hA, Vq0_pi_j22 hA, Vq0_pi_j30 hA, Vq0_pl])
          exact v0
        · (try simp only [Vq1_pi_j18 hA, Vq1_pi_j22 hA, Vq1_pi_j30 hA, Vq1_pl])
          exact v1
        · (try simp only [Vq2_pi_j18 hA, Vq2_pi_j22 hA, Vq2_pi_j30 hA, Vq2_pl])
          exact v2
        · (try simp only [Vp_pi_j18 hA, Vp_pi_j30 hA, Vp_thr hA, Vp_pl])
          exact vp
        · (try simp only [Vl0_pi_j18 hA, Vl0_pi_j22 hA, Vl0_pi_j30 hA, Vl0_pl])
          exact vl0
        · (try simp only [Vl1_pi_j18 hA, Vl1_pi_j22 hA, Vl1_pi_j30 hA, Vl1_pl])
          exact vl1
        · (try simp only [Vlr_pi_j18 hA, Vlr_pi_j22 hA, Vlr_pi_j30 hA, Vlr_pl_j39 hA])
          exact vlr
        · (try simp only [Vsr_pi_j18 hA, Vsr_pi_j22 hA, Vsr_pi_j30 hA, Vsr_pl_j39 hA])
          exact vsr
        · refine Vc_of (c := 3) vc (by decide) (fun k => ?_) (fun k => ?_) <;> simp only [mi_pi, mi_pl, hAe, Nat.reduceLT, Nat.reduceEqDiff, false_and, true_and, if_false]
        · (try simp only [Tx_pi_j18 hA, Tx_pi_j22 hA, Tx_pi_j30 hA, Tx_pl])
          exact tx
      · have hol : olF (g_i h (A 8) 4, g_i h (A 8) 5, g_i h (A 8) 6, g_i h (A 9) 4, g_i h (A 9) 5, g_i h (A 9) 6, g_i h (A 5) 3) = g_i h (A 9) 6 := if_neg hm1
        simp only [cT, bkF, hm2, if_false] at hq9
        simp only [o300_0, o300_1, o300_2, o300_3, o300_6, o300_7, o300_10, o300_16, o300_17, o69_0, o69_1, o69_2, o69_5, o69_6, o69_7, o69_10, o69_13, o69_16, o69_17, o69_20, o69_21, o69_25, o69_26, o69_29, o69_30, o69_31, o69_34, o69_35, o69_38, o69_39, o69_42, o192_0, o192_1, o192_2, o192_5, o192_8, o192_9, o192_12, o192_13, o192_16, o192_19, o192_20, o192_21, o192_22, o192_25, o192_26, o192_27, o192_28, o192_29, o192_32, o192_35, o192_36, o192_37, o192_41, o192_42, o192_45, o192_46, o192_49, o192_50, o192_51, o192_52, o192_53, o192_56, o192_59, o192_60, o192_61, o192_64, o192_65, o192_66, o192_69, c_X8_isThrown__, c_X8_isQueue, c_queueOf_0, c_X1_setBack (w := A 8) (r := A 9) (sz := 5) (ring := 1), c_X8_settle (x2 := A 25) (x3 := A 26) (a := A 27) (w := A 31) (r := A 34) (sz := 5), c_X3_hasMark, c_X1_kept (w := A 8) (r := A 9), c_X0_done (cs := A 18), c_X8_done (cs := A 30), mc_pi, mc_pl, mn_pi, mn_pl, mi_pi, mi_pl, ml_pi, ml_pl, mr_pi, mr_pl, mz_pi, mz_pl, mcs_0, mcs_r, Kn_v, Kn_0, mrf_some, kok_0, true_and, and_true, and_false, not_true_eq_false, not_false_eq_true, false_implies, implies_true, forall_const, if_true, if_false, and_self, Nat.reduceEqDiff, Nat.reduceLeDiff, Nat.reduceSub, Nat.reduceAdd, Nat.zero_le, Nat.le_refl, i10, lt_le, Int32.reduceLT, cl0, Kc_v, Sum.inl.injEq, Option.some.injEq, Value.int.injEq, exists_eq_left', Nat.reduceLT, hAe, kc0, kc5, kc8, kc9, kc17, kc18, kc22, kc25, kc26, kc27, kc30, kc31, kc34, kc39, kn18, kn25, kn26, kn27, kn30, kr0_2, kr0_9, kr5_0, kr5_1, kr17_0, kr22_2, kr22_3, kr22_4, kr22_8, kr25_0, kr26_0, kz, ki5_2, ki8_2, ki9_2, ki31_1, ki34_1, vq3, g1, g2, g3, g4, g5, g6, g7, hark, Int32.reduceLT, cl0, c_cW, n_cW, r_cW, z_cW, l_cW, c_mW, n_mW, r_mW, z_mW, l_mW, icw0_j18 hA, icw0_j22 hA, imw0_j22 hA, icw0_j30 hA, imw0_j30 hA, icw0_j27 hA, icw0_j31 hA, icw0_j34 hA, mW_3, hm1, hm2, hol, mT, cT, bkF]
        first | refine ⟨⟨?_, ?_, ?_, ?_, ?_, ?_, ?_, ?_, ?_, ?_, ?_, ?_⟩, rfl⟩ | refine ⟨?_, ?_, ?_, ?_, ?_, ?_, ?_, ?_, ?_, ?_, ?_, ?_⟩
        · (try simp only [K_pi, K_pl, K_cW, K_mW])
          exact vk
        · (try simp only [Cn_pi_j18 hA, Cn_pi_j22 hA, Cn_pi_j30 hA, Cn_pl, Cn_cW0 hA, Cn_mW0 hA])
          exact vcn
        · simp only [Vq0_pi_j30 hA, Vq0_mW hA, cT0_pi_j18 hA, cT0_pi_j22 hA, cT0_pl, cT0_cW hA]
          exact ⟨trivial, hq9⟩
        · (try simp only [Vq1_pi_j18 hA, Vq1_pi_j22 hA, Vq1_pi_j30 hA, Vq1_pl, Vq1_cW0 hA, Vq1_mW0 hA])
          exact v1
        · (try simp only [Vq2_pi_j18 hA, Vq2_pi_j22 hA, Vq2_pi_j30 hA, Vq2_pl, Vq2_cW0 hA, Vq2_mW0 hA])
          exact v2
        · (try simp only [Vp_pi_j18 hA, Vp_pi_j30 hA, Vp_thr hA, Vp_pl, Vp_cW0 hA, Vp_mW0 hA])
          exact vp
        · (try simp only [Vl0_pi_j18 hA, Vl0_pi_j22 hA, Vl0_pi_j30 hA, Vl0_pl, Vl0_cW0 hA, Vl0_mW0 hA])
          exact vl0
        · (try simp only [Vl1_pi_j18 hA, Vl1_pi_j22 hA, Vl1_pi_j30 hA, Vl1_pl, Vl1_cW0 hA, Vl1_mW0 hA])
          exact vl1
        · (try simp only [Vlr_pi_j18 hA, Vlr_pi_j22 hA, Vlr_pi_j30 hA, Vlr_pl_j39 hA, Vlr_cW0 hA, Vlr_mW0 hA])
          exact vlr
        · (try simp only [Vsr_pi_j18 hA, Vsr_pi_j22 hA, Vsr_pi_j30 hA, Vsr_pl_j39 hA, Vsr_cW0 hA, Vsr_mW0 hA])
          exact vsr
        · refine Vc_of (c := 0) vc (by decide) (fun k => ?_) (fun k => ?_) <;> simp only [mi_pi, mi_pl, hAe, Nat.reduceLT, Nat.reduceEqDiff, false_and, true_and, if_false, icw0_j18 hA, imw0_j18 hA, icw0_j30 hA, imw0_j30 hA]
        · (try simp only [Tx_pi_j18 hA, Tx_pi_j22 hA, Tx_pi_j30 hA, Tx_pl, Tx_cW0 hA, Tx_mW0 hA])
          exact tx
    · have he := v1.1
      have hm := v1.2
      have hT : mT h (A 27) 1 (A 32) (A 35) = cT h (A 6) (A 10) (A 11) := he.symm
      have he2 := he
      simp only [cT, mT, Prod.mk.injEq] at he2
      obtain ⟨g1, g2, g3, g4, g5, g6, g7⟩ := he2
      replace g1 := g1.symm
      replace g2 := g2.symm
      replace g3 := g3.symm
      replace g4 := g4.symm
      replace g5 := g5.symm
      replace g6 := g6.symm
      replace g7 := g7.symm
      obtain ⟨hmk, har, hl0, hl9⟩ := qA_1 _ hm
      have hark : arok 1 (g_i h (A 6) 3) := fun z => absurd (by decide) z
      have n1 : ¬ A 10 = A 11 := fun z => absurd ((hAe 10 11 (by decide) (by decide)).mp z) (by decide)
      have hq9 := qMb_1 _ hm
      simp only [cT] at hmk
      rcases hmk with ⟨hm1, hm2⟩ | ⟨hm1, hm2⟩
      · skip
        simp only [o300_0, o300_1, o300_2, o300_3, o300_6, o300_7, o300_10, o300_16, o300_17, o69_0, o69_1, o69_2, o69_5, o69_6, o69_7, o69_10, o69_13, o69_16, o69_17, o69_20, o69_21, o69_24, o69_25, o69_26, o192_0, o192_1, o192_2, o192_5, o192_8, o192_9, o192_12, o192_13, o192_16, o192_19, o192_20, o192_21, o192_22, o192_25, o192_26, o192_27, o192_28, o192_29, o192_32, o192_35, o192_36, o192_37, o192_40, o192_41, o192_42, o192_45, o192_46, o192_49, o192_50, o192_51, o192_52, o192_53, o192_56, o192_59, o192_60, o192_61, c_X8_isThrown__, c_X8_isQueue, c_queueOf_1, c_X3_hasMark, c_ref_3 (cs := A 18), c_X8_no (cs := A 30), mc_pi, mc_pl, mn_pi, mn_pl, mi_pi, mi_pl, ml_pi, ml_pl, mr_pi, mr_pl, mz_pi, mz_pl, mcs_0, mcs_r, Kn_v, mrf_some, kok_0, true_and, and_true, not_true_eq_false, not_false_eq_true, false_implies, implies_true, forall_const, if_true, if_false, and_self, Nat.reduceEqDiff, Nat.reduceLeDiff, Nat.reduceSub, Nat.reduceAdd, Nat.zero_le, Nat.le_refl, i10, lt_le, Int32.reduceLT, Int32.reduceSub, cl1, cl3, Kc_v, Sum.inl.injEq, Option.some.injEq, Value.int.injEq, exists_eq_left', Nat.reduceLT, hAe, kc0, kc6, kc11, kc17, kc18, kc22, kc26, kc30, kc35, kc39, kn18, kn26, kn30, kr0_3, kr0_9, kr6_1, kr17_0, kr22_3, kr22_8, kr26_1, kz, vq3, g4, g6, Int32.reduceLT, cl1, hm2, v18, cl3, m1z]
        first | refine ⟨⟨?_, ?_, ?_, ?_, ?_, ?_, ?_, ?_, ?_, ?_, ?_, ?_⟩, rfl⟩ | refine ⟨?_, ?_, ?_, ?_, ?_, ?_, ?_, ?_, ?_, ?_, ?_, ?_⟩
        · (try simp only [K_pi, K_pl])
          exact vk
        · (try simp only [Cn_pi_j18 hA, Cn_pi_j22 hA, Cn_pi_j30 hA, Cn_pl])
          exact vcn
        · (try simp only [Vq0_pi_j18 hA, Vq0_pi_j22 hA, Vq0_pi_j30 hA, Vq0_pl])
          exact v0
        · (try simp only [Vq1_pi_j18 hA, Vq1_pi_j22 hA, Vq1_pi_j30 hA, Vq1_pl])
          exact v1
        · (try simp only [Vq2_pi_j18 hA, Vq2_pi_j22 hA, Vq2_pi_j30 hA, Vq2_pl])
          exact v2
        · (try simp only [Vp_pi_j18 hA, Vp_pi_j30 hA, Vp_thr hA, Vp_pl])
          exact vp
        · (try simp only [Vl0_pi_j18 hA, Vl0_pi_j22 hA, Vl0_pi_j30 hA, Vl0_pl])
          exact vl0
        · (try simp only [Vl1_pi_j18 hA, Vl1_pi_j22 hA, Vl1_pi_j30 hA, Vl1_pl])
          exact vl1
        · (try simp only [Vlr_pi_j18 hA, Vlr_pi_j22 hA, Vlr_pi_j30 hA, Vlr_pl_j39 hA])
          exact vlr
        · (try simp only [Vsr_pi_j18 hA, Vsr_pi_j22 hA, Vsr_pi_j30 hA, Vsr_pl_j39 hA])
          exact vsr
        · refine Vc_of (c := 3) vc (by decide) (fun k => ?_) (fun k => ?_) <;> simp only [mi_pi, mi_pl, hAe, Nat.reduceLT, Nat.reduceEqDiff, false_and, true_and, if_false]
        · (try simp only [Tx_pi_j18 hA, Tx_pi_j22 hA, Tx_pi_j30 hA, Tx_pl])
          exact tx
      · have hol : olF (g_i h (A 10) 4, g_i h (A 10) 5, g_i h (A 10) 6, g_i h (A 11) 4, g_i h (A 11) 5, g_i h (A 11) 6, g_i h (A 6) 3) = g_i h (A 11) 6 := if_neg hm1
        simp only [cT, bkF, hm2, if_false] at hq9
        simp only [o300_0, o300_1, o300_2, o300_3, o300_6, o300_7, o300_10, o300_16, o300_17, o69_0, o69_1, o69_2, o69_5, o69_6, o69_7, o69_10, o69_13, o69_16, o69_17, o69_20, o69_21, o69_25, o69_26, o69_29, o69_30, o69_31, o69_34, o69_35, o69_38, o69_39, o69_42, o192_0, o192_1, o192_2, o192_5, o192_8, o192_9, o192_12, o192_13, o192_16, o192_19, o192_20, o192_21, o192_22, o192_25, o192_26, o192_27, o192_28, o192_29, o192_32, o192_35, o192_36, o192_37, o192_41, o192_42, o192_45, o192_46, o192_49, o192_50, o192_51, o192_52, o192_53, o192_56, o192_59, o192_60, o192_61, o192_64, o192_65, o192_66, o192_69, c_X8_isThrown__, c_X8_isQueue, c_queueOf_1, c_X1_setBack (w := A 10) (r := A 11) (sz := 3) (ring := 1), c_X8_settle (x2 := A 25) (x3 := A 26) (a := A 27) (w := A 32) (r := A 35) (sz := 3), c_X3_hasMark, c_X1_kept (w := A 10) (r := A 11), c_X0_done (cs := A 18), c_X8_done (cs := A 30), mc_pi, mc_pl, mn_pi, mn_pl, mi_pi, mi_pl, ml_pi, ml_pl, mr_pi, mr_pl, mz_pi, mz_pl, mcs_0, mcs_r, Kn_v, Kn_0, mrf_some, kok_0, true_and, and_true, and_false, not_true_eq_false, not_false_eq_true, false_implies, implies_true, forall_const, if_true, if_false, and_self, Nat.reduceEqDiff, Nat.reduceLeDiff, Nat.reduceSub, Nat.reduceAdd, Nat.zero_le, Nat.le_refl, i10, lt_le, Int32.reduceLT, cl1, Kc_v, Sum.inl.injEq, Option.some.injEq, Value.int.injEq, exists_eq_left', Nat.reduceLT, hAe, kc0, kc6, kc10, kc11, kc17, kc18, kc22, kc25, kc26, kc27, kc30, kc32, kc35, kc39, kn18, kn25, kn26, kn27, kn30, kr0_3, kr0_9, kr6_0, kr6_1, kr17_0, kr22_2, kr22_3, kr22_4, kr22_8, kr25_1, kr26_1, kz, ki6_2, ki10_2, ki11_2, ki32_1, ki35_1, vq3, g1, g2, g3, g4, g5, g6, g7, hark, Int32.reduceLT, cl1, c_cW, n_cW, r_cW, z_cW, l_cW, c_mW, n_mW, r_mW, z_mW, l_mW, icw1_j18 hA, icw1_j22 hA, imw1_j22 hA, icw1_j30 hA, imw1_j30 hA, icw1_j27 hA, icw1_j32 hA, icw1_j35 hA, mW_3, hm1, hm2, hol, mT, cT, bkF]
        first | refine ⟨⟨?_, ?_, ?_, ?_, ?_, ?_, ?_, ?_, ?_, ?_, ?_, ?_⟩, rfl⟩ | refine ⟨?_, ?_, ?_, ?_, ?_, ?_, ?_, ?_, ?_, ?_, ?_, ?_⟩
        · (try simp only [K_pi, K_pl, K_cW, K_mW])
          exact vk
        · (try simp only [Cn_pi_j18 hA, Cn_pi_j22 hA, Cn_pi_j30 hA, Cn_pl, Cn_cW1 hA, Cn_mW1 hA])
          exact vcn
        · (try simp only [Vq0_pi_j18 hA, Vq0_pi_j22 hA, Vq0_pi_j30 hA, Vq0_pl, Vq0_cW1 hA, Vq0_mW1 hA])
          exact v0
        · simp only [Vq1_pi_j30 hA, Vq1_mW hA, cT1_pi_j18 hA, cT1_pi_j22 hA, cT1_pl, cT1_cW hA]
          exact ⟨trivial, hq9⟩
        · (try simp only [Vq2_pi_j18 hA, Vq2_pi_j22 hA, Vq2_pi_j30 hA, Vq2_pl, Vq2_cW1 hA, Vq2_mW1 hA])
          exact v2
        · (try simp only [Vp_pi_j18 hA, Vp_pi_j30 hA, Vp_thr hA, Vp_pl, Vp_cW1 hA, Vp_mW1 hA])
          exact vp
        · (try simp only [Vl0_pi_j18 hA, Vl0_pi_j22 hA, Vl0_pi_j30 hA, Vl0_pl, Vl0_cW1 hA, Vl0_mW1 hA])
          exact vl0
        · (try simp only [Vl1_pi_j18 hA, Vl1_pi_j22 hA, Vl1_pi_j30 hA, Vl1_pl, Vl1_cW1 hA, Vl1_mW1 hA])
          exact vl1
        · (try simp only [Vlr_pi_j18 hA, Vlr_pi_j22 hA, Vlr_pi_j30 hA, Vlr_pl_j39 hA, Vlr_cW1 hA, Vlr_mW1 hA])
          exact vlr
        · (try simp only [Vsr_pi_j18 hA, Vsr_pi_j22 hA, Vsr_pi_j30 hA, Vsr_pl_j39 hA, Vsr_cW1 hA, Vsr_mW1 hA])
          exact vsr
        · refine Vc_of (c := 0) vc (by decide) (fun k => ?_) (fun k => ?_) <;> simp only [mi_pi, mi_pl, hAe, Nat.reduceLT, Nat.reduceEqDiff, false_and, true_and, if_false, icw1_j18 hA, imw1_j18 hA, icw1_j30 hA, imw1_j30 hA]
        · (try simp only [Tx_pi_j18 hA, Tx_pi_j22 hA, Tx_pi_j30 hA, Tx_pl, Tx_cW1 hA, Tx_mW1 hA])
          exact tx
    · have he := v2.1
      have hm := v2.2
      have hT : mT h (A 27) 2 (A 33) (A 36) = cT h (A 7) (A 12) (A 13) := he.symm
      have he2 := he
      simp only [cT, mT, Prod.mk.injEq] at he2
      obtain ⟨g1, g2, g3, g4, g5, g6, g7⟩ := he2
      replace g1 := g1.symm
      replace g2 := g2.symm
      replace g3 := g3.symm
      replace g4 := g4.symm
      replace g5 := g5.symm
      replace g6 := g6.symm
      replace g7 := g7.symm
      obtain ⟨hmk, har, hl0, hl9⟩ := qA_2 _ hm
      have hark : arok 2 (g_i h (A 7) 3) := fun _ => har
      have n1 : ¬ A 12 = A 13 := fun z => absurd ((hAe 12 13 (by decide) (by decide)).mp z) (by decide)
      have hq9 := qMb_2 _ hm
      simp only [cT] at hmk
      rcases hmk with ⟨hm1, hm2⟩ | ⟨hm1, hm2⟩
      · skip
        simp only [o300_0, o300_1, o300_2, o300_3, o300_6, o300_7, o300_10, o300_16, o300_17, o69_0, o69_1, o69_2, o69_5, o69_6, o69_7, o69_10, o69_13, o69_16, o69_17, o69_20, o69_21, o69_24, o69_25, o69_26, o192_0, o192_1, o192_2, o192_5, o192_8, o192_9, o192_12, o192_13, o192_16, o192_19, o192_20, o192_21, o192_22, o192_25, o192_26, o192_27, o192_28, o192_29, o192_32, o192_35, o192_36, o192_37, o192_40, o192_41, o192_42, o192_45, o192_46, o192_49, o192_50, o192_51, o192_52, o192_53, o192_56, o192_59, o192_60, o192_61, c_X8_isThrown__, c_X8_isQueue, c_queueOf_2, c_X3_hasMark, c_ref_3 (cs := A 18), c_X8_no (cs := A 30), mc_pi, mc_pl, mn_pi, mn_pl, mi_pi, mi_pl, ml_pi, ml_pl, mr_pi, mr_pl, mz_pi, mz_pl, mcs_0, mcs_r, Kn_v, mrf_some, kok_0, true_and, and_true, not_true_eq_false, not_false_eq_true, false_implies, implies_true, forall_const, if_true, if_false, and_self, Nat.reduceEqDiff, Nat.reduceLeDiff, Nat.reduceSub, Nat.reduceAdd, Nat.zero_le, Nat.le_refl, i10, lt_le, Int32.reduceLT, Int32.reduceSub, cl2, cl3, Kc_v, Sum.inl.injEq, Option.some.injEq, Value.int.injEq, exists_eq_left', Nat.reduceLT, hAe, kc0, kc7, kc13, kc17, kc18, kc22, kc26, kc30, kc36, kc39, kn18, kn26, kn30, kr0_4, kr0_9, kr7_1, kr17_0, kr22_3, kr22_8, kr26_2, kz, vq3, g4, g6, Int32.reduceLT, cl2, hm2, v18, cl3, m1z]
        first | refine ⟨⟨?_, ?_, ?_, ?_, ?_, ?_, ?_, ?_, ?_, ?_, ?_, ?_⟩, rfl⟩ | refine ⟨?_, ?_, ?_, ?_, ?_, ?_, ?_, ?_, ?_, ?_, ?_, ?_⟩
        · (try simp only [K_pi, K_pl])
          exact vk
        · (try simp only [Cn_pi_j18 hA, Cn_pi_j22 hA, Cn_pi_j30 hA, Cn_pl])
          exact vcn
        · (try simp only [Vq0_pi_j18 hA, Vq0_pi_j22 hA, Vq0_pi_j30 hA, Vq0_pl])
          exact v0
        · (try simp only [Vq1_pi_j18 hA, Vq1_pi_j22 hA, Vq1_pi_j30 hA, Vq1_pl])
          exact v1
        · (try simp only [Vq2_pi_j18 hA, Vq2_pi_j22 hA, Vq2_pi_j30 hA, Vq2_pl])
          exact v2
        · (try simp only [Vp_pi_j18 hA, Vp_pi_j30 hA, Vp_thr hA, Vp_pl])
          exact vp
        · (try simp only [Vl0_pi_j18 hA, Vl0_pi_j22 hA, Vl0_pi_j30 hA, Vl0_pl])
          exact vl0
        · (try simp only [Vl1_pi_j18 hA, Vl1_pi_j22 hA, Vl1_pi_j30 hA, Vl1_pl])
          exact vl1
        · (try simp only [Vlr_pi_j18 hA, Vlr_pi_j22 hA, Vlr_pi_j30 hA, Vlr_pl_j39 hA])
          exact vlr
        · (try simp only [Vsr_pi_j18 hA, Vsr_pi_j22 hA, Vsr_pi_j30 hA, Vsr_pl_j39 hA])
          exact vsr
        · refine Vc_of (c := 3) vc (by decide) (fun k => ?_) (fun k => ?_) <;> simp only [mi_pi, mi_pl, hAe, Nat.reduceLT, Nat.reduceEqDiff, false_and, true_and, if_false]
        · (try simp only [Tx_pi_j18 hA, Tx_pi_j22 hA, Tx_pi_j30 hA, Tx_pl])
          exact tx
      · have hol : olF (g_i h (A 12) 4, g_i h (A 12) 5, g_i h (A 12) 6, g_i h (A 13) 4, g_i h (A 13) 5, g_i h (A 13) 6, g_i h (A 7) 3) = g_i h (A 13) 6 := if_neg hm1
        simp only [cT, bkF, hm2, if_false] at hq9
        simp only [o300_0, o300_1, o300_2, o300_3, o300_6, o300_7, o300_10, o300_16, o300_17, o69_0, o69_1, o69_2, o69_5, o69_6, o69_7, o69_10, o69_13, o69_16, o69_17, o69_20, o69_21, o69_25, o69_26, o69_29, o69_30, o69_31, o69_34, o69_35, o69_38, o69_39, o69_42, o192_0, o192_1, o192_2, o192_5, o192_8, o192_9, o192_12, o192_13, o192_16, o192_19, o192_20, o192_21, o192_22, o192_25, o192_26, o192_27, o192_28, o192_29, o192_32, o192_35, o192_36, o192_37, o192_41, o192_42, o192_45, o192_46, o192_49, o192_50, o192_51, o192_52, o192_53, o192_56, o192_59, o192_60, o192_61, o192_64, o192_65, o192_66, o192_69, c_X8_isThrown__, c_X8_isQueue, c_queueOf_2, c_X1_setBack (w := A 12) (r := A 13) (sz := 6) (ring := 0), c_X8_settle (x2 := A 25) (x3 := A 26) (a := A 27) (w := A 33) (r := A 36) (sz := 6), c_X3_hasMark, c_X1_kept (w := A 12) (r := A 13), c_X0_done (cs := A 18), c_X8_done (cs := A 30), mc_pi, mc_pl, mn_pi, mn_pl, mi_pi, mi_pl, ml_pi, ml_pl, mr_pi, mr_pl, mz_pi, mz_pl, mcs_0, mcs_r, Kn_v, Kn_0, mrf_some, kok_0, true_and, and_true, and_false, not_true_eq_false, not_false_eq_true, false_implies, implies_true, forall_const, if_true, if_false, and_self, Nat.reduceEqDiff, Nat.reduceLeDiff, Nat.reduceSub, Nat.reduceAdd, Nat.zero_le, Nat.le_refl, i10, lt_le, Int32.reduceLT, cl2, Kc_v, Sum.inl.injEq, Option.some.injEq, Value.int.injEq, exists_eq_left', Nat.reduceLT, hAe, kc0, kc7, kc12, kc13, kc17, kc18, kc22, kc25, kc26, kc27, kc30, kc33, kc36, kc39, kn18, kn25, kn26, kn27, kn30, kr0_4, kr0_9, kr7_0, kr7_1, kr17_0, kr22_2, kr22_3, kr22_4, kr22_8, kr25_2, kr26_2, kz, ki7_2, ki12_2, ki13_2, ki33_1, ki36_1, vq3, g1, g2, g3, g4, g5, g6, g7, hark, Int32.reduceLT, cl2, c_cW, n_cW, r_cW, z_cW, l_cW, c_mW, n_mW, r_mW, z_mW, l_mW, icw2_j18 hA, icw2_j22 hA, imw2_j22 hA, icw2_j30 hA, imw2_j30 hA, icw2_j27 hA, icw2_j33 hA, icw2_j36 hA, mW_3, hm1, hm2, hol, mT, cT, bkF]
        first | refine ⟨⟨?_, ?_, ?_, ?_, ?_, ?_, ?_, ?_, ?_, ?_, ?_, ?_⟩, rfl⟩ | refine ⟨?_, ?_, ?_, ?_, ?_, ?_, ?_, ?_, ?_, ?_, ?_, ?_⟩
        · (try simp only [K_pi, K_pl, K_cW, K_mW])
          exact vk
        · (try simp only [Cn_pi_j18 hA, Cn_pi_j22 hA, Cn_pi_j30 hA, Cn_pl, Cn_cW2 hA, Cn_mW2 hA])
          exact vcn
        · (try simp only [Vq0_pi_j18 hA, Vq0_pi_j22 hA, Vq0_pi_j30 hA, Vq0_pl, Vq0_cW2 hA, Vq0_mW2 hA])
          exact v0
        · (try simp only [Vq1_pi_j18 hA, Vq1_pi_j22 hA, Vq1_pi_j30 hA, Vq1_pl, Vq1_cW2 hA, Vq1_mW2 hA])
          exact v1
        · simp only [Vq2_pi_j30 hA, Vq2_mW hA, cT2_pi_j18 hA, cT2_pi_j22 hA, cT2_pl, cT2_cW hA]
          exact ⟨trivial, hq9⟩
        · (try simp only [Vp_pi_j18 hA, Vp_pi_j30 hA, Vp_thr hA, Vp_pl, Vp_cW2 hA, Vp_mW2 hA])
          exact vp
        · (try simp only [Vl0_pi_j18 hA, Vl0_pi_j22 hA, Vl0_pi_j30 hA, Vl0_pl, Vl0_cW2 hA, Vl0_mW2 hA])
          exact vl0
        · (try simp only [Vl1_pi_j18 hA, Vl1_pi_j22 hA, Vl1_pi_j30 hA, Vl1_pl, Vl1_cW2 hA, Vl1_mW2 hA])
          exact vl1
        · (try simp only [Vlr_pi_j18 hA, Vlr_pi_j22 hA, Vlr_pi_j30 hA, Vlr_pl_j39 hA, Vlr_cW2 hA, Vlr_mW2 hA])
          exact vlr
        · (try simp only [Vsr_pi_j18 hA, Vsr_pi_j22 hA, Vsr_pi_j30 hA, Vsr_pl_j39 hA, Vsr_cW2 hA, Vsr_mW2 hA])
          exact vsr
        · refine Vc_of (c := 0) vc (by decide) (fun k => ?_) (fun k => ?_) <;> simp only [mi_pi, mi_pl, hAe, Nat.reduceLT, Nat.reduceEqDiff, false_and, true_and, if_false, icw2_j18 hA, imw2_j18 hA, icw2_j30 hA, imw2_j30 hA]
        · (try simp only [Tx_pi_j18 hA, Tx_pi_j22 hA, Tx_pi_j30 hA, Tx_pl, Tx_cW2 hA, Tx_mW2 hA])
          exact tx

theorem hx_301_1 {l rest : List Value} {bc bs : Nat} {Q : MR → MH → Prop} {h : MH} : Kc Ok 301 3 6 l rest bc bs Q (.inr 1) h ↔ ∀ q : Nat, Ok 301 13 l [.ref q] h bc bs Q := Kc_x (by decide +kernel) (by decide +kernel)
theorem op_forget {A : Nat → Nat} {h : MH} (R : Rl A h) {q : Int32} : Ok 301 0 [.ref (A 0), .int q, .ref (A 39), mk0] [] h 1 6 (fun r h1 => ∃ k : Int32, r = .inl (some (.int k)) ∧ g_c h1 (A 22) = 9 ∧ Ok 193 0 [.ref (A 22), .int q, mk0, mk0] [] h1 0 0 (fun r2 h2 => ∃ b : Int32, r2 = .inl (some (.int b)) ∧ Rl A h2 ∧ g_i h2 (A 22) 9 = k ∧ (k = 0 → g_l h2 (A 39) 0 = b.toInt64))) := by
  obtain ⟨vk, vcn, v0, v1, v2, vp, vl0, vl1, vlr, vsr, vc, tx⟩ := R
  have vk0 := vk
  have vcn0 := vcn
  (refine K_el vk0 ?_; intros hA kc0 kc1 kc2 kc3 kc4 kc5 kc6 kc7 kc8 kc9 kc10 kc11 kc12 kc13 kc14 kc15 kc16 kc17 kc18 kc19 kc20 kc21 kc22 kc23 kc24 kc25 kc26 kc27 kc28 kc29 kc30 kc31 kc32 kc33 kc34 kc35 kc36 kc37 kc38 kc39 kz kt kn3 kn4 kn18 kn21 kn23 kn24 kn25 kn26 kn27 kn29 kn30 kr0_0 kr0_1 kr0_2 kr0_3 kr0_4 kr0_5 kr0_7 kr0_8 kr0_9 kr0_10 kr1_0 kr2_0 kr5_0 kr5_1 kr6_0 kr6_1 kr7_0 kr7_1 kr8_0 kr9_0 kr10_0 kr11_0 kr12_0 kr13_0 kr14_0 kr15_0 kr16_0 kr17_0 kr19_0 kr19_1 kr22_0 kr22_1 kr22_2 kr22_3 kr22_4 kr22_5 kr22_7 kr22_8 kr25_0 kr25_1 kr25_2 kr26_0 kr26_1 kr26_2 kr29_0 kr29_1)
  (refine Cn_el vcn0 ?_; intros ki5_2 ki6_2 ki7_2 ki8_1 ki8_2 ki8_3 ki9_1 ki9_2 ki9_3 ki10_1 ki10_2 ki10_3 ki11_1 ki11_2 ki11_3 ki12_1 ki12_2 ki12_3 ki13_1 ki13_2 ki13_3 ki14_1 ki14_2 ki14_3 ki28_0 ki28_1 ki31_0 ki31_1 ki32_0 ki32_1 ki33_0 ki33_1 ki34_0 ki34_1 ki35_0 ki35_1 ki36_0 ki36_1)
  have hAe : ∀ i j, i < 40 → j < 40 → (A i = A j ↔ i = j) := hA
  by_cases bq : q < 0 ∨ ¬ q < 3
  · have bq2 : (¬ q < 0 ∧ q < 3) = False := nrng bq
    simp only [o301_0, o301_1, o301_2, o301_3, o301_13, o301_14, o301_15, o70_0, o70_1, o70_2, o193_0, o193_1, o193_2, o193_5, o193_8, o193_9, o193_12, o193_13, o193_16, o193_19, o193_20, o193_21, o193_22, o193_25, o193_26, hx_301_1, c_X8_isThrown__, c_X8_isQueue, c_queueOf_bad, mc_pi, mc_pT, mn_pi, mn_pT, mi_pi, mi_pT, ml_pi, ml_pT, mr_pi, mr_pT, mz_pT, mcs_0, mcs_r, Kn_v, Kn_x, mrf_some, true_and, and_true, not_true_eq_false, not_false_eq_true, false_implies, forall_const, if_true, if_false, and_self, Nat.reduceLeDiff, Nat.reduceSub, Nat.reduceAdd, Nat.zero_le, Nat.le_refl, i10, Sum.inl.injEq, Option.some.injEq, Value.int.injEq, exists_eq_left', Nat.reduceLT, kc0, kc22, kc26, kn26, kr22_3, kz, bq, bq2]
    intro t ht
    first | refine ⟨⟨?_, ?_, ?_, ?_, ?_, ?_, ?_, ?_, ?_, ?_, ?_, ?_⟩, rfl⟩ | refine ⟨?_, ?_, ?_, ?_, ?_, ?_, ?_, ?_, ?_, ?_, ?_, ?_⟩
    · (try simp only [K_pi])
      exact K_pT ht vk
    · (try simp only [Cn_pi_j22 hA, Cn_pT])
      exact vcn
    · (try simp only [Vq0_pi_j22 hA, Vq0_pT])
      exact v0
    · (try simp only [Vq1_pi_j22 hA, Vq1_pT])
      exact v1
    · (try simp only [Vq2_pi_j22 hA, Vq2_pT])
      exact v2
    · (try simp only [Vp_thr hA, Vp_pT])
      exact vp
    · (try simp only [Vl0_pi_j22 hA, Vl0_pT])
      exact vl0
    · (try simp only [Vl1_pi_j22 hA, Vl1_pT])
      exact vl1
    · (try simp only [Vlr_pi_j22 hA, Vlr_pT])
      exact vlr
    · (try simp only [Vsr_pi_j22 hA, Vsr_pT])
      exact vsr
    · (try simp only [Vc_pi_j22 hA, Vc_pT])
      exact vc
    · (try simp only [Tx_pi_j22 hA])
      exact Tx_pT ht tx
  · have y1 : ¬ q < 0 := fun z => bq (Or.inl z)
    have y2 : q < 3 := Classical.byContradiction fun z => bq (Or.inr z)
    have bq2 : (¬ q < 0 ∧ q < 3) = True := eq_true ⟨y1, y2⟩
    rcases q_cases y1 y2 with rfl | rfl | rfl
    · have he := v0.1
      have hm := v0.2
      have hT : mT h (A 27) 0 (A 31) (A 34) = cT h (A 5) (A 8) (A 9) := he.symm
      have he2 := he
      simp only [cT, mT, Prod.mk.injEq] at he2
      obtain ⟨g1, g2, g3, g4, g5, g6, g7⟩ := he2
      replace g1 := g1.symm
      replace g2 := g2.symm
      replace g3 := g3.symm
      replace g4 := g4.symm
      replace g5 := g5.symm
      replace g6 := g6.symm
      replace g7 := g7.symm
      obtain ⟨hmk, har, hl0, hl9⟩ := qA_0 _ hm
      have hark : arok 0 (g_i h (A 5) 3) := fun z => absurd (by decide) z
      have n1 : ¬ A 8 = A 9 := fun z => absurd ((hAe 8 9 (by decide) (by decide)).mp z) (by decide)
      have hq9 := qMl_0 _ hm
      simp only [cT] at hmk
      rcases hmk with ⟨hm1, hm2⟩ | ⟨hm1, hm2⟩
      · skip
        simp only [o301_0, o301_1, o301_2, o301_3, o301_6, o301_7, o301_10, o301_16, o301_17, o70_0, o70_1, o70_2, o70_5, o70_6, o70_7, o70_10, o70_13, o70_16, o70_17, o70_20, o70_21, o70_24, o70_25, o70_26, o193_0, o193_1, o193_2, o193_5, o193_8, o193_9, o193_12, o193_13, o193_16, o193_19, o193_20, o193_21, o193_22, o193_25, o193_26, o193_27, o193_28, o193_29, o193_32, o193_35, o193_36, o193_37, o193_40, o193_41, o193_42, o193_45, o193_46, o193_49, o193_50, o193_51, o193_52, o193_53, o193_56, o193_57, o193_58, c_X8_isThrown__, c_X8_isQueue, c_queueOf_0, c_X3_hasMark, c_ref_3 (cs := A 18), c_X8_no (cs := A 30), mc_pi, mc_pl, mn_pi, mn_pl, mi_pi, mi_pl, ml_pi, ml_pl, mr_pi, mr_pl, mz_pi, mz_pl, mcs_0, mcs_r, Kn_v, mrf_some, kok_0, true_and, and_true, not_true_eq_false, not_false_eq_true, false_implies, implies_true, forall_const, if_true, if_false, and_self, Nat.reduceEqDiff, Nat.reduceLeDiff, Nat.reduceSub, Nat.reduceAdd, Nat.zero_le, Nat.le_refl, i10, lt_le, Int32.reduceLT, Int32.reduceSub, cl0, cl3, Kc_v, Sum.inl.injEq, Option.some.injEq, Value.int.injEq, exists_eq_left', Nat.reduceLT, hAe, kc0, kc5, kc9, kc17, kc18, kc22, kc26, kc30, kc34, kc39, kn18, kn26, kn30, kr0_2, kr0_9, kr5_1, kr17_0, kr22_3, kr22_8, kr26_0, kz, vq3, g4, g6, Int32.reduceLT, cl0, hm2, v18, cl3, m1z]
        first | refine ⟨⟨?_, ?_, ?_, ?_, ?_, ?_, ?_, ?_, ?_, ?_, ?_, ?_⟩, rfl⟩ | refine ⟨?_, ?_, ?_, ?_, ?_, ?_, ?_, ?_, ?_, ?_, ?_, ?_⟩
        · (try simp only [K_pi, K_pl])
          exact vk
        · (try simp only [Cn_pi_j18 hA, Cn_pi_j22 hA, Cn_pi_j30 hA, Cn_pl])
          exact vcn
        · (try simp only [Vq0_pi_j18 hA, Vq0_pi_j22 hA, Vq0_pi_j30 hA, Vq0_pl])
          exact v0
        · (try simp only [Vq1_pi_j18 hA, Vq1_pi_j22 hA, Vq1_pi_j30 hA, Vq1_pl])
          exact v1
        · (try simp only [Vq2_pi_j18 hA, Vq2_pi_j22 hA, Vq2_pi_j30 hA, Vq2_pl])
          exact v2
        · (try simp only [Vp_pi_j18 hA, Vp_pi_j30 hA, Vp_thr hA, Vp_pl])
          exact vp
        · (try simp only [Vl0_pi_j18 hA, Vl0_pi_j22 hA, Vl0_pi_j30 hA, Vl0_pl])
          exact vl0
        · (try simp only [Vl1_pi_j18 hA, Vl1_pi_j22 hA, Vl1_pi_j30 hA, Vl1_pl])
          exact vl1
        · (try simp only [Vlr_pi_j18 hA, Vlr_pi_j22 hA, Vlr_pi_j30 hA, Vlr_pl_j39 hA])
          exact vlr
        · (try simp only [Vsr_pi_j18 hA, Vsr_pi_j22 hA, Vsr_pi_j30 hA, Vsr_pl_j39 hA])
          exact vsr
        · refine Vc_of (c := 3) vc (by decide) (fun k => ?_) (fun k => ?_) <;> simp only [mi_pi, mi_pl, hAe, Nat.reduceLT, Nat.reduceEqDiff, false_and, true_and, if_false]
        · (try simp only [Tx_pi_j18 hA, Tx_pi_j22 hA, Tx_pi_j30 hA, Tx_pl])
          exact tx
      · have hol : olF (g_i h (A 8) 4, g_i h (A 8) 5, g_i h (A 8) 6, g_i h (A 9) 4, g_i h (A 9) 5, g_i h (A 9) 6, g_i h (A 5) 3) = g_i h (A 9) 6 := if_neg hm1
        simp only [cT, lmF] at hq9
        simp only [o301_0, o301_1, o301_2, o301_3, o301_6, o301_7, o301_10, o301_16, o301_17, o70_0, o70_1, o70_2, o70_5, o70_6, o70_7, o70_10, o70_13, o70_16, o70_17, o70_20, o70_21, o70_25, o70_26, o70_29, o70_30, o70_31, o70_34, o70_35, o70_38, o70_39, o70_42, o193_0, o193_1, o193_2, o193_5, o193_8, o193_9, o193_12, o193_13, o193_16, o193_19, o193_20, o193_21, o193_22, o193_25, o193_26, o193_27, o193_28, o193_29, o193_32, o193_35, o193_36, o193_37, o193_41, o193_42, o193_45, o193_46, o193_49, o193_50, o193_51, o193_52, o193_53, o193_56, o193_57, o193_58, o193_61, o193_62, o193_63, o193_66, c_X8_isThrown__, c_X8_isQueue, c_queueOf_0, c_X1_loseMark (w := A 8) (r := A 9) (sz := 5) (ring := 1), c_X8_settle (x2 := A 25) (x3 := A 26) (a := A 27) (w := A 31) (r := A 34) (sz := 5), c_X3_hasMark, c_X1_kept (w := A 8) (r := A 9), c_X0_done (cs := A 18), c_X8_done (cs := A 30), mc_pi, mc_pl, mn_pi, mn_pl, mi_pi, mi_pl, ml_pi, ml_pl, mr_pi, mr_pl, mz_pi, mz_pl, mcs_0, mcs_r, Kn_v, Kn_0, mrf_some, kok_0, true_and, and_true, and_false, not_true_eq_false, not_false_eq_true, false_implies, implies_true, forall_const, if_true, if_false, and_self, Nat.reduceEqDiff, Nat.reduceLeDiff, Nat.reduceSub, Nat.reduceAdd, Nat.zero_le, Nat.le_refl, i10, lt_le, Int32.reduceLT, cl0, Kc_v, Sum.inl.injEq, Option.some.injEq, Value.int.injEq, exists_eq_left', Nat.reduceLT, hAe, kc0, kc5, kc8, kc9, kc17, kc18, kc22, kc25, kc26, kc27, kc30, kc31, kc34, kc39, kn18, kn25, kn26, kn27, kn30, kr0_2, kr0_9, kr5_0, kr5_1, kr17_0, kr22_2, kr22_3, kr22_4, kr22_8, kr25_0, kr26_0, kz, ki5_2, ki8_2, ki9_2, ki31_1, ki34_1, vq3, g1, g2, g3, g4, g5, g6, g7, hark, Int32.reduceLT, cl0, c_cW, n_cW, r_cW, z_cW, l_cW, c_mW, n_mW, r_mW, z_mW, l_mW, icw0_j18 hA, icw0_j22 hA, imw0_j22 hA, icw0_j30 hA, imw0_j30 hA, icw0_j27 hA, icw0_j31 hA, icw0_j34 hA, mW_5, hm1, hm2, hol, mT, cT, lmF]
        first | refine ⟨⟨?_, ?_, ?_, ?_, ?_, ?_, ?_, ?_, ?_, ?_, ?_, ?_⟩, rfl⟩ | refine ⟨?_, ?_, ?_, ?_, ?_, ?_, ?_, ?_, ?_, ?_, ?_, ?_⟩
        · (try simp only [K_pi, K_pl, K_cW, K_mW])
          exact vk
        · (try simp only [Cn_pi_j18 hA, Cn_pi_j22 hA, Cn_pi_j30 hA, Cn_pl, Cn_cW0 hA, Cn_mW0 hA])
          exact vcn
        · simp only [Vq0_pi_j30 hA, Vq0_mW hA, cT0_pi_j18 hA, cT0_pi_j22 hA, cT0_pl, cT0_cW hA]
          exact ⟨trivial, hq9⟩
        · (try simp only [Vq1_pi_j18 hA, Vq1_pi_j22 hA, Vq1_pi_j30 hA, Vq1_pl, Vq1_cW0 hA, Vq1_mW0 hA])
          exact v1
        · (try simp only [Vq2_pi_j18 hA, Vq2_pi_j22 hA, Vq2_pi_j30 hA, Vq2_pl, Vq2_cW0 hA, Vq2_mW0 hA])
          exact v2
        · (try simp only [Vp_pi_j18 hA, Vp_pi_j30 hA, Vp_thr hA, Vp_pl, Vp_cW0 hA, Vp_mW0 hA])
          exact vp
        · (try simp only [Vl0_pi_j18 hA, Vl0_pi_j22 hA, Vl0_pi_j30 hA, Vl0_pl, Vl0_cW0 hA, Vl0_mW0 hA])
          exact vl0
        · (try simp only [Vl1_pi_j18 hA, Vl1_pi_j22 hA, Vl1_pi_j30 hA, Vl1_pl, Vl1_cW0 hA, Vl1_mW0 hA])
          exact vl1
        · (try simp only [Vlr_pi_j18 hA, Vlr_pi_j22 hA, Vlr_pi_j30 hA, Vlr_pl_j39 hA, Vlr_cW0 hA, Vlr_mW0 hA])
          exact vlr
        · (try simp only [Vsr_pi_j18 hA, Vsr_pi_j22 hA, Vsr_pi_j30 hA, Vsr_pl_j39 hA, Vsr_cW0 hA, Vsr_mW0 hA])
          exact vsr
        · refine Vc_of (c := 0) vc (by decide) (fun k => ?_) (fun k => ?_) <;> simp only [mi_pi, mi_pl, hAe, Nat.reduceLT, Nat.reduceEqDiff, false_and, true_and, if_false, icw0_j18 hA, imw0_j18 hA, icw0_j30 hA, imw0_j30 hA]
        · (try simp only [Tx_pi_j18 hA, Tx_pi_j22 hA, Tx_pi_j30 hA, Tx_pl, Tx_cW0 hA, Tx_mW0 hA])
          exact tx
    · have he := v1.1
      have hm := v1.2
      have hT : mT h (A 27) 1 (A 32) (A 35) = cT h (A 6) (A 10) (A 11) := he.symm
      have he2 := he
      simp only [cT, mT, Prod.mk.injEq] at he2
      obtain ⟨g1, g2, g3, g4, g5, g6, g7⟩ := he2
      replace g1 := g1.symm
      replace g2 := g2.symm
      replace g3 := g3.symm
      replace g4 := g4.symm
      replace g5 := g5.symm
      replace g6 := g6.symm
      replace g7 := g7.symm
      obtain ⟨hmk, har, hl0, hl9⟩ := qA_1 _ hm
      have hark : arok 1 (g_i h (A 6) 3) := fun z => absurd (by decide) z
      have n1 : ¬ A 10 = A 11 := fun z => absurd ((hAe 10 11 (by decide) (by decide)).mp z) (by decide)
      have hq9 := qMl_1 _ hm
      simp only [cT] at hmk
      rcases hmk with ⟨hm1, hm2⟩ | ⟨hm1, hm2⟩
      · skip
        simp only [o301_0, o301_1, o301_2, o301_3, o301_6, o301_7, o301_10, o301_16, o301_17, o70_0, o70_1, o70_2, o70_5, o70_6, o70_7, o70_10, o70_13, o70_16, o70_17, o70_20, o70_21, o70_24, o70_25, o70_26, o193_0, o193_1, o193_2, o193_5, o193_8, o193_9, o193_12, o193_13, o193_16, o193_19, o193_20, o193_21, o193_22, o193_25, o193_26, o193_27, o193_28, o193_29, o193_32, o193_35, o193_36, o193_37, o193_40, o193_41, o193_42, o193_45, o193_46, o193_49, o193_50, o193_51, o193_52, o193_53, o193_56, o193_57, o193_58, c_X8_isThrown__, c_X8_isQueue, c_queueOf_1, c_X3_hasMark, c_ref_3 (cs := A 18), c_X8_no (cs := A 30), mc_pi, mc_pl, mn_pi, mn_pl, mi_pi, mi_pl, ml_pi, ml_pl, mr_pi, mr_pl, mz_pi, mz_pl, mcs_0, mcs_r, Kn_v, mrf_some, kok_0, true_and, and_true, not_true_eq_false, not_false_eq_true, false_implies, implies_true, forall_const, if_true, if_false, and_self, Nat.reduceEqDiff, Nat.reduceLeDiff, Nat.reduceSub, Nat.reduceAdd, Nat.zero_le, Nat.le_refl, i10, lt_le, Int32.reduceLT, Int32.reduceSub, cl1, cl3, Kc_v, Sum.inl.injEq, Option.some.injEq, Value.int.injEq, exists_eq_left', Nat.reduceLT, hAe, kc0, kc6, kc11, kc17, kc18, kc22, kc26, kc30, kc35, kc39, kn18, kn26, kn30, kr0_3, kr0_9, kr6_1, kr17_0, kr22_3, kr22_8, kr26_1, kz, vq3, g4, g6, Int32.reduceLT, cl1, hm2, v18, cl3, m1z]
        first | refine ⟨⟨?_, ?_, ?_, ?_, ?_, ?_, ?_, ?_, ?_, ?_, ?_, ?_⟩, rfl⟩ | refine ⟨?_, ?_, ?_, ?_, ?_, ?_, ?_, ?_, ?_, ?_, ?_, ?_⟩
        · (try simp only [K_pi, K_pl])
          exact vk
        · (try simp only [Cn_pi_j18 hA, Cn_pi_j22 hA, Cn_pi_j30 hA, Cn_pl])
          exact vcn
        · (try simp only [Vq0_pi_j18 hA, Vq0_pi_j22 hA, Vq0_pi_j30 hA, Vq0_pl])
          exact v0
        · (try simp only [Vq1_pi_j18 hA, Vq1_pi_j22 hA, Vq1_pi_j30 hA, Vq1_pl])
          exact v1
        · (try simp only [Vq2_pi_j18 hA, Vq2_pi_j22 hA, Vq2_pi_j30 hA, Vq2_pl])
          exact v2
        · (try simp only [Vp_pi_j18 hA, Vp_pi_j30 hA, Vp_thr hA, Vp_pl])
          exact vp
        · (try simp only [Vl0_pi_j18 hA, Vl0_pi_j22 hA, Vl0_pi_j30 hA, Vl0_pl])
          exact vl0
        · (try simp only [Vl1_pi_j18 hA, Vl1_pi_j22 hA, Vl1_pi_j30 hA, Vl1_pl])
          exact vl1
        · (try simp only [Vlr_pi_j18 hA, Vlr_pi_j22 hA, Vlr_pi_j30 hA, Vlr_pl_j39 hA])
          exact vlr
        · (try simp only [Vsr_pi_j18 hA, Vsr_pi_j22 hA, Vsr_pi_j30 hA, Vsr_pl_j39 hA])
          exact vsr
        · refine Vc_of (c := 3) vc (by decide) (fun k => ?_) (fun k => ?_) <;> simp only [mi_pi, mi_pl, hAe, Nat.reduceLT, Nat.reduceEqDiff, false_and, true_and, if_false]
        · (try simp only [Tx_pi_j18 hA, Tx_pi_j22 hA, Tx_pi_j30 hA, Tx_pl])
          exact tx
      · have hol : olF (g_i h (A 10) 4, g_i h (A 10) 5, g_i h (A 10) 6, g_i h (A 11) 4, g_i h (A 11) 5, g_i h (A 11) 6, g_i h (A 6) 3) = g_i h (A 11) 6 := if_neg hm1
        simp only [cT, lmF] at hq9
        simp only [o301_0, o301_1, o301_2, o301_3, o301_6, o301_7, o301_10, o301_16, o301_17, o70_0, o70_1, o70_2, o70_5, o70_6, o70_7, o70_10, o70_13, o70_16, o70_17, o70_20, o70_21, o70_25, o70_26, o70_29, o70_30, o70_31, o70_34, o70_35, o70_38, o70_39, o70_42, o193_0, o193_1, o193_2, o193_5, o193_8, o193_9, o193_12, o193_13, o193_16, o193_19, o193_20, o193_21, o193_22, o193_25, o193_26, o193_27, o193_28, o193_29, o193_32, o193_35, o193_36, o193_37, o193_41, o193_42, o193_45, o193_46, o193_49, o193_50, o193_51, o193_52, o193_53, o193_56, o193_57, o193_58, o193_61, o193_62, o193_63, o193_66, c_X8_isThrown__, c_X8_isQueue, c_queueOf_1, c_X1_loseMark (w := A 10) (r := A 11) (sz := 3) (ring := 1), c_X8_settle (x2 := A 25) (x3 := A 26) (a := A 27) (w := A 32) (r := A 35) (sz := 3), c_X3_hasMark, c_X1_kept (w := A 10) (r := A 11), c_X0_done (cs := A 18), c_X8_done (cs := A 30), mc_pi, mc_pl, mn_pi, mn_pl, mi_pi, mi_pl, ml_pi, ml_pl, mr_pi, mr_pl, mz_pi, mz_pl, mcs_0, mcs_r, Kn_v, Kn_0, mrf_some, kok_0, true_and, and_true, and_false, not_true_eq_false, not_false_eq_true, false_implies, implies_true, forall_const, if_true, if_false, and_self, Nat.reduceEqDiff, Nat.reduceLeDiff, Nat.reduceSub, Nat.reduceAdd, Nat.zero_le, Nat.le_refl, i10, lt_le, Int32.reduceLT, cl1, Kc_v, Sum.inl.injEq, Option.some.injEq, Value.int.injEq, exists_eq_left', Nat.reduceLT, hAe, kc0, kc6, kc10, kc11, kc17, kc18, kc22, kc25, kc26, kc27, kc30, kc32, kc35, kc39, kn18, kn25, kn26, kn27, kn30, kr0_3, kr0_9, kr6_0, kr6_1, kr17_0, kr22_2, kr22_3, kr22_4, kr22_8, kr25_1, kr26_1, kz, ki6_2, ki10_2, ki11_2, ki32_1, ki35_1, vq3, g1, g2, g3, g4, g5, g6, g7, hark, Int32.reduceLT, cl1, c_cW, n_cW, r_cW, z_cW, l_cW, c_mW, n_mW, r_mW, z_mW, l_mW, icw1_j18 hA, icw1_j22 hA, imw1_j22 hA, icw1_j30 hA, imw1_j30 hA, icw1_j27 hA, icw1_j32 hA, icw1_j35 hA, mW_5, hm1, hm2, hol, mT, cT, lmF]
        first | refine ⟨⟨?_, ?_, ?_, ?_, ?_, ?_, ?_, ?_, ?_, ?_, ?_, ?_⟩, rfl⟩ | refine ⟨?_, ?_, ?_, ?_, ?_, ?_, ?_, ?_, ?_, ?_, ?_, ?_⟩
        · (try simp only [K_pi, K_pl, K_cW, K_mW])
          exact vk
        · (try simp only [Cn_pi_j18 hA, Cn_pi_j22 hA, Cn_pi_j30 hA, Cn_pl, Cn_cW1 hA, Cn_mW1 hA])
          exact vcn
        · (try simp only [Vq0_pi_j18 hA, Vq0_pi_j22 hA, Vq0_pi_j30 hA, Vq0_pl, Vq0_cW1 hA, Vq0_mW1 hA])
          exact v0
        · simp only [Vq1_pi_j30 hA, Vq1_mW hA, cT1_pi_j18 hA, cT1_pi_j22 hA, cT1_pl, cT1_cW hA]
          exact ⟨trivial, hq9⟩
        · (try simp only [Vq2_pi_j18 hA, Vq2_pi_j22 hA, Vq2_pi_j30 hA, Vq2_pl, Vq2_cW1 hA, Vq2_mW1 hA])
          exact v2
        · (try simp only [Vp_pi_j18 hA, Vp_pi_j30 hA, Vp_thr hA, Vp_pl, Vp_cW1 hA, Vp_mW1 hA])
          exact vp
        · (try simp only [Vl0_pi_j18 hA, Vl0_pi_j22 hA, Vl0_pi_j30 hA, Vl0_pl, Vl0_cW1 hA, Vl0_mW1 hA])
          exact vl0
        · (try simp only [Vl1_pi_j18 hA, Vl1_pi_j22 hA, Vl1_pi_j30 hA, Vl1_pl, Vl1_cW1 hA, Vl1_mW1 hA])
          exact vl1
        · (try simp only [Vlr_pi_j18 hA, Vlr_pi_j22 hA, Vlr_pi_j30 hA, Vlr_pl_j39 hA, Vlr_cW1 hA, Vlr_mW1 hA])
          exact vlr
        · (try simp only [Vsr_pi_j18 hA, Vsr_pi_j22 hA, Vsr_pi_j30 hA, Vsr_pl_j39 hA, Vsr_cW1 hA, Vsr_mW1 hA])
          exact vsr
        · refine Vc_of (c := 0) vc (by decide) (fun k => ?_) (fun k => ?_) <;> simp only [mi_pi, mi_pl, hAe, Nat.reduceLT, Nat.reduceEqDiff, false_and, true_and, if_false, icw1_j18 hA, imw1_j18 hA, icw1_j30 hA, imw1_j30 hA]
        · (try simp only [Tx_pi_j18 hA, Tx_pi_j22 hA, Tx_pi_j30 hA, Tx_pl, Tx_cW1 hA, Tx_mW1 hA])
          exact tx
    · have he := v2.1
      have hm := v2.2
      have hT : mT h (A 27) 2 (A 33) (A 36) = cT h (A 7) (A 12) (A 13) := he.symm
      have he2 := he
      simp only [cT, mT, Prod.mk.injEq] at he2
      obtain ⟨g1, g2, g3, g4, g5, g6, g7⟩ := he2
      replace g1 := g1.symm
      replace g2 := g2.symm
      replace g3 := g3.symm
      replace g4 := g4.symm
      replace g5 := g5.symm
      replace g6 := g6.symm
      replace g7 := g7.symm
      obtain ⟨hmk, har, hl0, hl9⟩ := qA_2 _ hm
      have hark : arok 2 (g_i h (A 7) 3) := fun _ => har
      have n1 : ¬ A 12 = A 13 := fun z => absurd ((hAe 12 13 (by decide) (by decide)).mp z) (by decide)
      have hq9 := qMl_2 _ hm
      simp only [cT] at hmk
      rcases hmk with ⟨hm1, hm2⟩ | ⟨hm1, hm2⟩
      · skip
        simp only [o301_0, o301_1, o301_2, o301_3, o301_6, o301_7, o301_10, o301_16, o301_17, o70_0, o70_1, o70_2, o70_5, o70_6, o70_7, o70_10, o70_13, o70_16, o70_17, o70_20, o70_21, o70_24, o70_25, o70_26, o193_0, o193_1, o193_2, o193_5, o193_8, o193_9, o193_12, o193_13, o193_16, o193_19, o193_20, o193_21, o193_22, o193_25, o193_26, o193_27, o193_28, o193_29, o193_32, o193_35, o193_36, o193_37, o193_40, o193_41, o193_42, o193_45, o193_46, o193_49, o193_50, o193_51, o193_52, o193_53, o193_56, o193_57, o193_58, c_X8_isThrown__, c_X8_isQueue, c_queueOf_2, c_X3_hasMark, c_ref_3 (cs := A 18), c_X8_no (cs := A 30), mc_pi, mc_pl, mn_pi, mn_pl, mi_pi, mi_pl, ml_pi, ml_pl, mr_pi, mr_pl, mz_pi, mz_pl, mcs_0, mcs_r, Kn_v, mrf_some, kok_0, true_and, and_true, not_true_eq_false, not_false_eq_true, false_implies, implies_true, forall_const, if_true, if_false, and_self, Nat.reduceEqDiff, Nat.reduceLeDiff, Nat.reduceSub, Nat.reduceAdd, Nat.zero_le, Nat.le_refl, i10, lt_le, Int32.reduceLT, Int32.reduceSub, cl2, cl3, Kc_v, Sum.inl.injEq, Option.some.injEq, Value.int.injEq, exists_eq_left', Nat.reduceLT, hAe, kc0, kc7, kc13, kc17, kc18, kc22, kc26, kc30, kc36, kc39, kn18, kn26, kn30, kr0_4, kr0_9, kr7_1, kr17_0, kr22_3, kr22_8, kr26_2, kz, vq3, g4, g6, Int32.reduceLT, cl2, hm2, v18, cl3, m1z]
        first | refine ⟨⟨?_, ?_, ?_, ?_, ?_, ?_, ?_, ?_, ?_, ?_, ?_, ?_⟩, rfl⟩ | refine ⟨?_, ?_, ?_, ?_, ?_, ?_, ?_, ?_, ?_, ?_, ?_, ?_⟩
        · (try simp only [K_pi, K_pl])
          exact vk
        · (try simp only [Cn_pi_j18 hA, Cn_pi_j22 hA, Cn_pi_j30 hA, Cn_pl])
          exact vcn
        · (try simp only [Vq0_pi_j18 hA, Vq0_pi_j22 hA, Vq0_pi_j30 hA, Vq0_pl])
          exact v0
        · (try simp only [Vq1_pi_j18 hA, Vq1_pi_j22 hA, Vq1_pi_j30 hA, Vq1_pl])
          exact v1
        · (try simp only [Vq2_pi_j18 hA, Vq2_pi_j22 hA, Vq2_pi_j30 hA, Vq2_pl])
          exact v2
        · (try simp only [Vp_pi_j18 hA, Vp_pi_j30 hA, Vp_thr hA, Vp_pl])
          exact vp
        · (try simp only [Vl0_pi_j18 hA, Vl0_pi_j22 hA, Vl0_pi_j30 hA, Vl0_pl])
          exact vl0
        · (try simp only [Vl1_pi_j18 hA, Vl1_pi_j22 hA, Vl1_pi_j30 hA, Vl1_pl])
          exact vl1
        · (try simp only [Vlr_pi_j18 hA, Vlr_pi_j22 hA, Vlr_pi_j30 hA, Vlr_pl_j39 hA])
          exact vlr
        · (try simp only [Vsr_pi_j18 hA, Vsr_pi_j22 hA, Vsr_pi_j30 hA, Vsr_pl_j39 hA])
          exact vsr
        · refine Vc_of (c := 3) vc (by decide) (fun k => ?_) (fun k => ?_) <;> simp only [mi_pi, mi_pl, hAe, Nat.reduceLT, Nat.reduceEqDiff, false_and, true_and, if_false]
        · (try simp only [Tx_pi_j18 hA, Tx_pi_j22 hA, Tx_pi_j30 hA, Tx_pl])
          exact tx
      · have hol : olF (g_i h (A 12) 4, g_i h (A 12) 5, g_i h (A 12) 6, g_i h (A 13) 4, g_i h (A 13) 5, g_i h (A 13) 6, g_i h (A 7) 3) = g_i h (A 13) 6 := if_neg hm1
        simp only [cT, lmF] at hq9
        simp only [o301_0, o301_1, o301_2, o301_3, o301_6, o301_7, o301_10, o301_16, o301_17, o70_0, o70_1, o70_2, o70_5, o70_6, o70_7, o70_10, o70_13, o70_16, o70_17, o70_20, o70_21, o70_25, o70_26, o70_29, o70_30, o70_31, o70_34, o70_35, o70_38, o70_39, o70_42, o193_0, o193_1, o193_2, o193_5, o193_8, o193_9, o193_12, o193_13, o193_16, o193_19, o193_20, o193_21, o193_22, o193_25, o193_26, o193_27, o193_28, o193_29, o193_32, o193_35, o193_36, o193_37, o193_41, o193_42, o193_45, o193_46, o193_49, o193_50, o193_51, o193_52, o193_53, o193_56, o193_57, o193_58, o193_61, o193_62, o193_63, o193_66, c_X8_isThrown__, c_X8_isQueue, c_queueOf_2, c_X1_loseMark (w := A 12) (r := A 13) (sz := 6) (ring := 0), c_X8_settle (x2 := A 25) (x3 := A 26) (a := A 27) (w := A 33) (r := A 36) (sz := 6), c_X3_hasMark, c_X1_kept (w := A 12) (r := A 13), c_X0_done (cs := A 18), c_X8_done (cs := A 30), mc_pi, mc_pl, mn_pi, mn_pl, mi_pi, mi_pl, ml_pi, ml_pl, mr_pi, mr_pl, mz_pi, mz_pl, mcs_0, mcs_r, Kn_v, Kn_0, mrf_some, kok_0, true_and, and_true, and_false, not_true_eq_false, not_false_eq_true, false_implies, implies_true, forall_const, if_true, if_false, and_self, Nat.reduceEqDiff, Nat.reduceLeDiff, Nat.reduceSub, Nat.reduceAdd, Nat.zero_le, Nat.le_refl, i10, lt_le, Int32.reduceLT, cl2, Kc_v, Sum.inl.injEq, Option.some.injEq, Value.int.injEq, exists_eq_left', Nat.reduceLT, hAe, kc0, kc7, kc12, kc13, kc17, kc18, kc22, kc25, kc26, kc27, kc30, kc33, kc36, kc39, kn18, kn25, kn26, kn27, kn30, kr0_4, kr0_9, kr7_0, kr7_1, kr17_0, kr22_2, kr22_3, kr22_4, kr22_8, kr25_2, kr26_2, kz, ki7_2, ki12_2, ki13_2, ki33_1, ki36_1, vq3, g1, g2, g3, g4, g5, g6, g7, hark, Int32.reduceLT, cl2, c_cW, n_cW, r_cW, z_cW, l_cW, c_mW, n_mW, r_mW, z_mW, l_mW, icw2_j18 hA, icw2_j22 hA, imw2_j22 hA, icw2_j30 hA, imw2_j30 hA, icw2_j27 hA, icw2_j33 hA, icw2_j36 hA, mW_5, hm1, hm2, hol, mT, cT, lmF]
        first | refine ⟨⟨?_, ?_, ?_, ?_, ?_, ?_, ?_, ?_, ?_, ?_, ?_, ?_⟩, rfl⟩ | refine ⟨?_, ?_, ?_, ?_, ?_, ?_, ?_, ?_, ?_, ?_, ?_, ?_⟩
        · (try simp only [K_pi, K_pl, K_cW, K_mW])
          exact vk
        · (try simp only [Cn_pi_j18 hA, Cn_pi_j22 hA, Cn_pi_j30 hA, Cn_pl, Cn_cW2 hA, Cn_mW2 hA])
          exact vcn
        · (try simp only [Vq0_pi_j18 hA, Vq0_pi_j22 hA, Vq0_pi_j30 hA, Vq0_pl, Vq0_cW2 hA, Vq0_mW2 hA])
          exact v0
        · (try simp only [Vq1_pi_j18 hA, Vq1_pi_j22 hA, Vq1_pi_j30 hA, Vq1_pl, Vq1_cW2 hA, Vq1_mW2 hA])
          exact v1
        · simp only [Vq2_pi_j30 hA, Vq2_mW hA, cT2_pi_j18 hA, cT2_pi_j22 hA, cT2_pl, cT2_cW hA]
          exact ⟨trivial, hq9⟩
        · (try simp only [Vp_pi_j18 hA, Vp_pi_j30 hA, Vp_thr hA, Vp_pl, Vp_cW2 hA, Vp_mW2 hA])
          exact vp
        · (try simp only [Vl0_pi_j18 hA, Vl0_pi_j22 hA, Vl0_pi_j30 hA, Vl0_pl, Vl0_cW2 hA, Vl0_mW2 hA])
          exact vl0
        · (try simp only [Vl1_pi_j18 hA, Vl1_pi_j22 hA, Vl1_pi_j30 hA, Vl1_pl, Vl1_cW2 hA, Vl1_mW2 hA])
          exact vl1
        · (try simp only [Vlr_pi_j18 hA, Vlr_pi_j22 hA, Vlr_pi_j30 hA, Vlr_pl_j39 hA, Vlr_cW2 hA, Vlr_mW2 hA])
          exact vlr
        · (try simp only [Vsr_pi_j18 hA, Vsr_pi_j22 hA, Vsr_pi_j30 hA, Vsr_pl_j39 hA, Vsr_cW2 hA, Vsr_mW2 hA])
          exact vsr
        · refine Vc_of (c := 0) vc (by decide) (fun k => ?_) (fun k => ?_) <;> simp only [mi_pi, mi_pl, hAe, Nat.reduceLT, Nat.reduceEqDiff, false_and, true_and, if_false, icw2_j18 hA, imw2_j18 hA, icw2_j30 hA, imw2_j30 hA]
        · (try simp only [Tx_pi_j18 hA, Tx_pi_j22 hA, Tx_pi_j30 hA, Tx_pl, Tx_cW2 hA, Tx_mW2 hA])
          exact tx
end

section
theorem hx_305_1 {l rest : List Value} {bc bs : Nat} {Q : MR → MH → Prop} {h : MH} : Kc Ok 305 3 6 l rest bc bs Q (.inr 1) h ↔ ∀ q : Nat, Ok 305 13 l [.ref q] h bc bs Q := Kc_x (by decide +kernel) (by decide +kernel)
theorem op_lies {A : Nat → Nat} {h : MH} (R : Rl A h) {q : Int32} : Ok 305 0 [.ref (A 0), .int q, .ref (A 39), mk0] [] h 1 6 (fun r h1 => ∃ k : Int32, r = .inl (some (.int k)) ∧ g_c h1 (A 22) = 9 ∧ Ok 198 0 [.ref (A 22), .int q] [] h1 0 0 (fun r2 h2 => ∃ b : Int32, r2 = .inl (some (.int b)) ∧ Rl A h2 ∧ g_i h2 (A 22) 9 = k ∧ (k = 0 → g_l h2 (A 39) 0 = b.toInt64))) := by
  obtain ⟨vk, vcn, v0, v1, v2, vp, vl0, vl1, vlr, vsr, vc, tx⟩ := R
  have vk0 := vk
  have vcn0 := vcn
  (refine K_el vk0 ?_; intros hA kc0 kc1 kc2 kc3 kc4 kc5 kc6 kc7 kc8 kc9 kc10 kc11 kc12 kc13 kc14 kc15 kc16 kc17 kc18 kc19 kc20 kc21 kc22 kc23 kc24 kc25 kc26 kc27 kc28 kc29 kc30 kc31 kc32 kc33 kc34 kc35 kc36 kc37 kc38 kc39 kz kt kn3 kn4 kn18 kn21 kn23 kn24 kn25 kn26 kn27 kn29 kn30 kr0_0 kr0_1 kr0_2 kr0_3 kr0_4 kr0_5 kr0_7 kr0_8 kr0_9 kr0_10 kr1_0 kr2_0 kr5_0 kr5_1 kr6_0 kr6_1 kr7_0 kr7_1 kr8_0 kr9_0 kr10_0 kr11_0 kr12_0 kr13_0 kr14_0 kr15_0 kr16_0 kr17_0 kr19_0 kr19_1 kr22_0 kr22_1 kr22_2 kr22_3 kr22_4 kr22_5 kr22_7 kr22_8 kr25_0 kr25_1 kr25_2 kr26_0 kr26_1 kr26_2 kr29_0 kr29_1)
  (refine Cn_el vcn0 ?_; intros ki5_2 ki6_2 ki7_2 ki8_1 ki8_2 ki8_3 ki9_1 ki9_2 ki9_3 ki10_1 ki10_2 ki10_3 ki11_1 ki11_2 ki11_3 ki12_1 ki12_2 ki12_3 ki13_1 ki13_2 ki13_3 ki14_1 ki14_2 ki14_3 ki28_0 ki28_1 ki31_0 ki31_1 ki32_0 ki32_1 ki33_0 ki33_1 ki34_0 ki34_1 ki35_0 ki35_1 ki36_0 ki36_1)
  have hAe : ∀ i j, i < 40 → j < 40 → (A i = A j ↔ i = j) := hA
  by_cases bq : q < 0 ∨ ¬ q < 3
  · have bq2 : (¬ q < 0 ∧ q < 3) = False := nrng bq
    simp only [o305_0, o305_1, o305_2, o305_3, o305_13, o305_14, o305_15, o75_0, o75_1, o75_2, o198_0, o198_1, o198_2, o198_5, o198_8, o198_9, o198_12, o198_13, o198_16, o198_19, o198_20, o198_23, o198_24, o198_25, o198_28, hx_305_1, c_X8_isThrown__, c_X8_isQueue, c_queueOf_bad, mc_pi, mc_pT, mi_pi, mi_pT, ml_pi, ml_pT, mz_pT, mcs_0, mcs_r, Kn_v, Kn_x, true_and, and_true, not_true_eq_false, not_false_eq_true, false_implies, forall_const, if_true, if_false, and_self, Nat.reduceLeDiff, Nat.reduceSub, Nat.reduceAdd, Nat.zero_le, Nat.le_refl, i10, Sum.inl.injEq, Option.some.injEq, Value.int.injEq, exists_eq_left', Nat.reduceLT, kc0, kc22, kz, bq, bq2]
    intro t ht
    first | refine ⟨⟨?_, ?_, ?_, ?_, ?_, ?_, ?_, ?_, ?_, ?_, ?_, ?_⟩, rfl⟩ | refine ⟨?_, ?_, ?_, ?_, ?_, ?_, ?_, ?_, ?_, ?_, ?_, ?_⟩
    · (try simp only [K_pi])
      exact K_pT ht vk
    · (try simp only [Cn_pi_j22 hA, Cn_pT])
      exact vcn
    · (try simp only [Vq0_pi_j22 hA, Vq0_pT])
      exact v0
    · (try simp only [Vq1_pi_j22 hA, Vq1_pT])
      exact v1
    · (try simp only [Vq2_pi_j22 hA, Vq2_pT])
      exact v2
    · (try simp only [Vp_thr hA, Vp_pT])
      exact vp
    · (try simp only [Vl0_pi_j22 hA, Vl0_pT])
      exact vl0
    · (try simp only [Vl1_pi_j22 hA, Vl1_pT])
      exact vl1
    · (try simp only [Vlr_pi_j22 hA, Vlr_pT])
      exact vlr
    · (try simp only [Vsr_pi_j22 hA, Vsr_pT])
      exact vsr
    · (try simp only [Vc_pi_j22 hA, Vc_pT])
      exact vc
    · (try simp only [Tx_pi_j22 hA])
      exact Tx_pT ht tx
  · have y1 : ¬ q < 0 := fun z => bq (Or.inl z)
    have y2 : q < 3 := Classical.byContradiction fun z => bq (Or.inr z)
    have bq2 : (¬ q < 0 ∧ q < 3) = True := eq_true ⟨y1, y2⟩
    rcases q_cases y1 y2 with rfl | rfl | rfl
    · have he := v0.1
      have hm := v0.2
      have hT : mT h (A 27) 0 (A 31) (A 34) = cT h (A 5) (A 8) (A 9) := he.symm
      have he2 := he
      simp only [cT, mT, Prod.mk.injEq] at he2
      obtain ⟨g1, g2, g3, g4, g5, g6, g7⟩ := he2
      replace g1 := g1.symm
      replace g2 := g2.symm
      replace g3 := g3.symm
      replace g4 := g4.symm
      replace g5 := g5.symm
      replace g6 := g6.symm
      replace g7 := g7.symm
      obtain ⟨hmk, har, hl0, hl9⟩ := qA_0 _ hm
      have hark : arok 0 (g_i h (A 5) 3) := fun z => absurd (by decide) z
      have n1 : ¬ A 8 = A 9 := fun z => absurd ((hAe 8 9 (by decide) (by decide)).mp z) (by decide)
      simp only [o305_0, o305_1, o305_2, o305_3, o305_6, o305_7, o305_10, o305_16, o305_17, o75_0, o75_1, o75_2, o75_5, o75_8, o198_0, o198_1, o198_2, o198_5, o198_8, o198_9, o198_12, o198_13, o198_16, o198_19, o198_20, o198_23, o198_24, o198_25, o198_28, c_X8_isThrown__, c_X8_isQueue, c_queueOf_0, c_X1_lying (w := A 8) (r := A 9), c_X8_liesOf (x2 := A 25) (x3 := A 26) (a := A 27) (w := A 31) (r := A 34), mc_pi, mc_pl, mn_pi, mn_pl, mi_pi, mi_pl, ml_pi, ml_pl, mr_pi, mr_pl, mz_pl, mcs_0, mcs_r, Kn_v, true_and, and_true, not_true_eq_false, not_false_eq_true, false_implies, implies_true, forall_const, if_true, and_self, Nat.reduceLeDiff, Nat.reduceSub, Nat.reduceAdd, Nat.zero_le, Nat.le_refl, i10, Int32.reduceLT, cl0, Kc_v, Sum.inl.injEq, Option.some.injEq, Value.int.injEq, exists_eq_left', Nat.reduceLT, kc0, kc5, kc8, kc9, kc22, kc25, kc26, kc27, kc31, kc34, kc39, kn25, kn26, kn27, kr0_2, kr5_0, kr5_1, kr22_2, kr22_3, kr22_4, kr25_0, kr26_0, kz, vq3, hT, Int32.reduceLT, cl0, mT0_pi_j22 hA, mT0_pl, i64_0]
      first | refine ⟨⟨?_, ?_, ?_, ?_, ?_, ?_, ?_, ?_, ?_, ?_, ?_, ?_⟩, rfl⟩ | refine ⟨?_, ?_, ?_, ?_, ?_, ?_, ?_, ?_, ?_, ?_, ?_, ?_⟩
      · (try simp only [K_pi, K_pl])
        exact vk
      · (try simp only [Cn_pi_j22 hA, Cn_pl])
        exact vcn
      · (try simp only [Vq0_pi_j22 hA, Vq0_pl])
        exact v0
      · (try simp only [Vq1_pi_j22 hA, Vq1_pl])
        exact v1
      · (try simp only [Vq2_pi_j22 hA, Vq2_pl])
        exact v2
      · (try simp only [Vp_thr hA, Vp_pl])
        exact vp
      · (try simp only [Vl0_pi_j22 hA, Vl0_pl])
        exact vl0
      · (try simp only [Vl1_pi_j22 hA, Vl1_pl])
        exact vl1
      · (try simp only [Vlr_pi_j22 hA, Vlr_pl_j39 hA])
        exact vlr
      · (try simp only [Vsr_pi_j22 hA, Vsr_pl_j39 hA])
        exact vsr
      · (try simp only [Vc_pi_j22 hA, Vc_pl])
        exact vc
      · (try simp only [Tx_pi_j22 hA, Tx_pl])
        exact tx
    · have he := v1.1
      have hm := v1.2
      have hT : mT h (A 27) 1 (A 32) (A 35) = cT h (A 6) (A 10) (A 11) := he.symm
      have he2 := he
      simp only [cT, mT, Prod.mk.injEq] at he2
      obtain ⟨g1, g2, g3, g4, g5, g6, g7⟩ := he2
      replace g1 := g1.symm
      replace g2 := g2.symm
      replace g3 := g3.symm
      replace g4 := g4.symm
      replace g5 := g5.symm
      replace g6 := g6.symm
      replace g7 := g7.symm
      obtain ⟨hmk, har, hl0, hl9⟩ := qA_1 _ hm
      have hark : arok 1 (g_i h (A 6) 3) := fun z => absurd (by decide) z
      have n1 : ¬ A 10 = A 11 := fun z => absurd ((hAe 10 11 (by decide) (by decide)).mp z) (by decide)
      simp only [o305_0, o305_1, o305_2, o305_3, o305_6, o305_7, o305_10, o305_16, o305_17, o75_0, o75_1, o75_2, o75_5, o75_8, o198_0, o198_1, o198_2, o198_5, o198_8, o198_9, o198_12, o198_13, o198_16, o198_19, o198_20, o198_23, o198_24, o198_25, o198_28, c_X8_isThrown__, c_X8_isQueue, c_queueOf_1, c_X1_lying (w := A 10) (r := A 11), c_X8_liesOf (x2 := A 25) (x3 := A 26) (a := A 27) (w := A 32) (r := A 35), mc_pi, mc_pl, mn_pi, mn_pl, mi_pi, mi_pl, ml_pi, ml_pl, mr_pi, mr_pl, mz_pl, mcs_0, mcs_r, Kn_v, true_and, and_true, not_true_eq_false, not_false_eq_true, false_implies, implies_true, forall_const, if_true, and_self, Nat.reduceLeDiff, Nat.reduceSub, Nat.reduceAdd, Nat.zero_le, Nat.le_refl, i10, Int32.reduceLT, cl1, Kc_v, Sum.inl.injEq, Option.some.injEq, Value.int.injEq, exists_eq_left', Nat.reduceLT, kc0, kc6, kc10, kc11, kc22, kc25, kc26, kc27, kc32, kc35, kc39, kn25, kn26, kn27, kr0_3, kr6_0, kr6_1, kr22_2, kr22_3, kr22_4, kr25_1, kr26_1, kz, vq3, hT, Int32.reduceLT, cl1, mT1_pi_j22 hA, mT1_pl, i64_0]
      first | refine ⟨⟨?_, ?_, ?_, ?_, ?_, ?_, ?_, ?_, ?_, ?_, ?_, ?_⟩, rfl⟩ | refine ⟨?_, ?_, ?_, ?_, ?_, ?_, ?_, ?_, ?_, ?_, ?_, ?_⟩
      · (try simp only [K_pi, K_pl])
        exact vk
      · (try simp only [Cn_pi_j22 hA, Cn_pl])
        exact vcn
      · (try simp only [Vq0_pi_j22 hA, Vq0_pl])
        exact v0
      · (try simp only [Vq1_pi_j22 hA, Vq1_pl])
        exact v1
      · (try simp only [Vq2_pi_j22 hA, Vq2_pl])
        exact v2
      · (try simp only [Vp_thr hA, Vp_pl])
        exact vp
      · (try simp only [Vl0_pi_j22 hA, Vl0_pl])
        exact vl0
      · (try simp only [Vl1_pi_j22 hA, Vl1_pl])
        exact vl1
      · (try simp only [Vlr_pi_j22 hA, Vlr_pl_j39 hA])
        exact vlr
      · (try simp only [Vsr_pi_j22 hA, Vsr_pl_j39 hA])
        exact vsr
      · (try simp only [Vc_pi_j22 hA, Vc_pl])
        exact vc
      · (try simp only [Tx_pi_j22 hA, Tx_pl])
        exact tx
    · have he := v2.1
      have hm := v2.2
      have hT : mT h (A 27) 2 (A 33) (A 36) = cT h (A 7) (A 12) (A 13) := he.symm
      have he2 := he
      simp only [cT, mT, Prod.mk.injEq] at he2
      obtain ⟨g1, g2, g3, g4, g5, g6, g7⟩ := he2
      replace g1 := g1.symm
      replace g2 := g2.symm
      replace g3 := g3.symm
      replace g4 := g4.symm
      replace g5 := g5.symm
      replace g6 := g6.symm
      replace g7 := g7.symm
      obtain ⟨hmk, har, hl0, hl9⟩ := qA_2 _ hm
      have hark : arok 2 (g_i h (A 7) 3) := fun _ => har
      have n1 : ¬ A 12 = A 13 := fun z => absurd ((hAe 12 13 (by decide) (by decide)).mp z) (by decide)
      simp only [o305_0, o305_1, o305_2, o305_3, o305_6, o305_7, o305_10, o305_16, o305_17, o75_0, o75_1, o75_2, o75_5, o75_8, o198_0, o198_1, o198_2, o198_5, o198_8, o198_9, o198_12, o198_13, o198_16, o198_19, o198_20, o198_23, o198_24, o198_25, o198_28, c_X8_isThrown__, c_X8_isQueue, c_queueOf_2, c_X1_lying (w := A 12) (r := A 13), c_X8_liesOf (x2 := A 25) (x3 := A 26) (a := A 27) (w := A 33) (r := A 36), mc_pi, mc_pl, mn_pi, mn_pl, mi_pi, mi_pl, ml_pi, ml_pl, mr_pi, mr_pl, mz_pl, mcs_0, mcs_r, Kn_v, true_and, and_true, not_true_eq_false, not_false_eq_true, false_implies, implies_true, forall_const, if_true, and_self, Nat.reduceLeDiff, Nat.reduceSub, Nat.reduceAdd, Nat.zero_le, Nat.le_refl, i10, Int32.reduceLT, cl2, Kc_v, Sum.inl.injEq, Option.some.injEq, Value.int.injEq, exists_eq_left', Nat.reduceLT, kc0, kc7, kc12, kc13, kc22, kc25, kc26, kc27, kc33, kc36, kc39, kn25, kn26, kn27, kr0_4, kr7_0, kr7_1, kr22_2, kr22_3, kr22_4, kr25_2, kr26_2, kz, vq3, hT, Int32.reduceLT, cl2, mT2_pi_j22 hA, mT2_pl, i64_0]
      first | refine ⟨⟨?_, ?_, ?_, ?_, ?_, ?_, ?_, ?_, ?_, ?_, ?_, ?_⟩, rfl⟩ | refine ⟨?_, ?_, ?_, ?_, ?_, ?_, ?_, ?_, ?_, ?_, ?_, ?_⟩
      · (try simp only [K_pi, K_pl])
        exact vk
      · (try simp only [Cn_pi_j22 hA, Cn_pl])
        exact vcn
      · (try simp only [Vq0_pi_j22 hA, Vq0_pl])
        exact v0
      · (try simp only [Vq1_pi_j22 hA, Vq1_pl])
        exact v1
      · (try simp only [Vq2_pi_j22 hA, Vq2_pl])
        exact v2
      · (try simp only [Vp_thr hA, Vp_pl])
        exact vp
      · (try simp only [Vl0_pi_j22 hA, Vl0_pl])
        exact vl0
      · (try simp only [Vl1_pi_j22 hA, Vl1_pl])
        exact vl1
      · (try simp only [Vlr_pi_j22 hA, Vlr_pl_j39 hA])
        exact vlr
      · (try simp only [Vsr_pi_j22 hA, Vsr_pl_j39 hA])
        exact vsr
      · (try simp only [Vc_pi_j22 hA, Vc_pl])
        exact vc
      · (try simp only [Tx_pi_j22 hA, Tx_pl])
        exact tx

theorem hx_306_1 {l rest : List Value} {bc bs : Nat} {Q : MR → MH → Prop} {h : MH} : Kc Ok 306 3 6 l rest bc bs Q (.inr 1) h ↔ ∀ q : Nat, Ok 306 13 l [.ref q] h bc bs Q := Kc_x (by decide +kernel) (by decide +kernel)
theorem op_room {A : Nat → Nat} {h : MH} (R : Rl A h) {q : Int32} : Ok 306 0 [.ref (A 0), .int q, .ref (A 39), mk0] [] h 1 6 (fun r h1 => ∃ k : Int32, r = .inl (some (.int k)) ∧ g_c h1 (A 22) = 9 ∧ Ok 200 0 [.ref (A 22), .int q] [] h1 0 0 (fun r2 h2 => ∃ b : Int32, r2 = .inl (some (.int b)) ∧ Rl A h2 ∧ g_i h2 (A 22) 9 = k ∧ (k = 0 → g_l h2 (A 39) 0 = b.toInt64))) := by
  obtain ⟨vk, vcn, v0, v1, v2, vp, vl0, vl1, vlr, vsr, vc, tx⟩ := R
  have vk0 := vk
  have vcn0 := vcn
  (refine K_el vk0 ?_; intros hA kc0 kc1 kc2 kc3 kc4 kc5 kc6 kc7 kc8 kc9 kc10 kc11 kc12 kc13 kc14 kc15 kc16 kc17 kc18 kc19 kc20 kc21 kc22 kc23 kc24 kc25 kc26 kc27 kc28 kc29 kc30 kc31 kc32 kc33 kc34 kc35 kc36 kc37 kc38 kc39 kz kt kn3 kn4 kn18 kn21 kn23 kn24 kn25 kn26 kn27 kn29 kn30 kr0_0 kr0_1 kr0_2 kr0_3 kr0_4 kr0_5 kr0_7 kr0_8 kr0_9 kr0_10 kr1_0 kr2_0 kr5_0 kr5_1 kr6_0 kr6_1 kr7_0 kr7_1 kr8_0 kr9_0 kr10_0 kr11_0 kr12_0 kr13_0 kr14_0 kr15_0 kr16_0 kr17_0 kr19_0 kr19_1 kr22_0 kr22_1 kr22_2 kr22_3 kr22_4 kr22_5 kr22_7 kr22_8 kr25_0 kr25_1 kr25_2 kr26_0 kr26_1 kr26_2 kr29_0 kr29_1)
  (refine Cn_el vcn0 ?_; intros ki5_2 ki6_2 ki7_2 ki8_1 ki8_2 ki8_3 ki9_1 ki9_2 ki9_3 ki10_1 ki10_2 ki10_3 ki11_1 ki11_2 ki11_3 ki12_1 ki12_2 ki12_3 ki13_1 ki13_2 ki13_3 ki14_1 ki14_2 ki14_3 ki28_0 ki28_1 ki31_0 ki31_1 ki32_0 ki32_1 ki33_0 ki33_1 ki34_0 ki34_1 ki35_0 ki35_1 ki36_0 ki36_1)
  have hAe : ∀ i j, i < 40 → j < 40 → (A i = A j ↔ i = j) := hA
  by_cases bq : q < 0 ∨ ¬ q < 3
  · have bq2 : (¬ q < 0 ∧ q < 3) = False := nrng bq
    simp only [o306_0, o306_1, o306_2, o306_3, o306_13, o306_14, o306_15, o76_0, o76_1, o76_2, o200_0, o200_1, o200_2, o200_5, o200_8, o200_9, o200_12, o200_13, o200_16, o200_19, o200_20, o200_23, o200_24, o200_25, o200_28, hx_306_1, c_X8_isThrown__, c_X8_isQueue, c_queueOf_bad, mc_pi, mc_pT, mi_pi, mi_pT, ml_pi, ml_pT, mz_pT, mcs_0, mcs_r, Kn_v, Kn_x, true_and, and_true, not_true_eq_false, not_false_eq_true, false_implies, forall_const, if_true, if_false, and_self, Nat.reduceLeDiff, Nat.reduceSub, Nat.reduceAdd, Nat.zero_le, Nat.le_refl, i10, Sum.inl.injEq, Option.some.injEq, Value.int.injEq, exists_eq_left', Nat.reduceLT, kc0, kc22, kz, bq, bq2]
    intro t ht
    first | refine ⟨⟨?_, ?_, ?_, ?_, ?_, ?_, ?_, ?_, ?_, ?_, ?_, ?_⟩, rfl⟩ | refine ⟨?_, ?_, ?_, ?_, ?_, ?_, ?_, ?_, ?_, ?_, ?_, ?_⟩
    · (try simp only [K_pi])
      exact K_pT ht vk
    · (try simp only [Cn_pi_j22 hA, Cn_pT])
      exact vcn
    · (try simp only [Vq0_pi_j22 hA, Vq0_pT])
      exact v0
    · (try simp only [Vq1_pi_j22 hA, Vq1_pT])
      exact v1
    · (try simp only [Vq2_pi_j22 hA, Vq2_pT])
      exact v2
    · (try simp only [Vp_thr hA, Vp_pT])
      exact vp
    · (try simp only [Vl0_pi_j22 hA, Vl0_pT])
      exact vl0
    · (try simp only [Vl1_pi_j22 hA, Vl1_pT])
      exact vl1
    · (try simp only [Vlr_pi_j22 hA, Vlr_pT])
      exact vlr
    · (try simp only [Vsr_pi_j22 hA, Vsr_pT])
      exact vsr
    · (try simp only [Vc_pi_j22 hA, Vc_pT])
      exact vc
    · (try simp only [Tx_pi_j22 hA])
      exact Tx_pT ht tx
  · have y1 : ¬ q < 0 := fun z => bq (Or.inl z)
    have y2 : q < 3 := Classical.byContradiction fun z => bq (Or.inr z)
    have bq2 : (¬ q < 0 ∧ q < 3) = True := eq_true ⟨y1, y2⟩
    rcases q_cases y1 y2 with rfl | rfl | rfl
    · have he := v0.1
      have hm := v0.2
      have hT : mT h (A 27) 0 (A 31) (A 34) = cT h (A 5) (A 8) (A 9) := he.symm
      have he2 := he
      simp only [cT, mT, Prod.mk.injEq] at he2
      obtain ⟨g1, g2, g3, g4, g5, g6, g7⟩ := he2
      replace g1 := g1.symm
      replace g2 := g2.symm
      replace g3 := g3.symm
      replace g4 := g4.symm
      replace g5 := g5.symm
      replace g6 := g6.symm
      replace g7 := g7.symm
      obtain ⟨hmk, har, hl0, hl9⟩ := qA_0 _ hm
      have hark : arok 0 (g_i h (A 5) 3) := fun z => absurd (by decide) z
      have n1 : ¬ A 8 = A 9 := fun z => absurd ((hAe 8 9 (by decide) (by decide)).mp z) (by decide)
      simp only [o306_0, o306_1, o306_2, o306_3, o306_6, o306_7, o306_10, o306_16, o306_17, o76_0, o76_1, o76_2, o76_5, o76_8, o200_0, o200_1, o200_2, o200_5, o200_8, o200_9, o200_12, o200_13, o200_16, o200_19, o200_20, o200_23, o200_24, o200_25, o200_28, c_X8_isThrown__, c_X8_isQueue, c_queueOf_0, c_X1_freeCells (w := A 8) (r := A 9), c_X8_roomOf (x2 := A 25) (x3 := A 26) (a := A 27) (w := A 31) (r := A 34), mc_pi, mc_pl, mn_pi, mn_pl, mi_pi, mi_pl, ml_pi, ml_pl, mr_pi, mr_pl, mz_pl, mcs_0, mcs_r, Kn_v, true_and, and_true, not_true_eq_false, not_false_eq_true, false_implies, implies_true, forall_const, if_true, and_self, Nat.reduceLeDiff, Nat.reduceSub, Nat.reduceAdd, Nat.zero_le, Nat.le_refl, i10, Int32.reduceLT, cl0, Kc_v, Sum.inl.injEq, Option.some.injEq, Value.int.injEq, exists_eq_left', Nat.reduceLT, kc0, kc5, kc8, kc9, kc22, kc25, kc26, kc27, kc31, kc34, kc39, kn25, kn26, kn27, kr0_2, kr5_0, kr5_1, kr22_2, kr22_3, kr22_4, kr25_0, kr26_0, kz, ki5_2, vq3, hT, Int32.reduceLT, cl0, mT0_pi_j22 hA, mT0_pl, i64_0]
      first | refine ⟨⟨?_, ?_, ?_, ?_, ?_, ?_, ?_, ?_, ?_, ?_, ?_, ?_⟩, rfl⟩ | refine ⟨?_, ?_, ?_, ?_, ?_, ?_, ?_, ?_, ?_, ?_, ?_, ?_⟩
      · (try simp only [K_pi, K_pl])
        exact vk
      · (try simp only [Cn_pi_j22 hA, Cn_pl])
        exact vcn
      · (try simp only [Vq0_pi_j22 hA, Vq0_pl])
        exact v0
      · (try simp only [Vq1_pi_j22 hA, Vq1_pl])
        exact v1
      · (try simp only [Vq2_pi_j22 hA, Vq2_pl])
        exact v2
      · (try simp only [Vp_thr hA, Vp_pl])
        exact vp
      · (try simp only [Vl0_pi_j22 hA, Vl0_pl])
        exact vl0
      · (try simp only [Vl1_pi_j22 hA, Vl1_pl])
        exact vl1
      · (try simp only [Vlr_pi_j22 hA, Vlr_pl_j39 hA])
        exact vlr
      · (try simp only [Vsr_pi_j22 hA, Vsr_pl_j39 hA])
        exact vsr
      · (try simp only [Vc_pi_j22 hA, Vc_pl])
        exact vc
      · (try simp only [Tx_pi_j22 hA, Tx_pl])
        exact tx
    · have he := v1.1
      have hm := v1.2
      have hT : mT h (A 27) 1 (A 32) (A 35) = cT h (A 6) (A 10) (A 11) := he.symm
      have he2 := he
      simp only [cT, mT, Prod.mk.injEq] at he2
      obtain ⟨g1, g2, g3, g4, g5, g6, g7⟩ := he2
      replace g1 := g1.symm
      replace g2 := g2.symm
      replace g3 := g3.symm
      replace g4 := g4.symm
      replace g5 := g5.symm
      replace g6 := g6.symm
      replace g7 := g7.symm
      obtain ⟨hmk, har, hl0, hl9⟩ := qA_1 _ hm
      have hark : arok 1 (g_i h (A 6) 3) := fun z => absurd (by decide) z
      have n1 : ¬ A 10 = A 11 := fun z => absurd ((hAe 10 11 (by decide) (by decide)).mp z) (by decide)
      simp only [o306_0, o306_1, o306_2, o306_3, o306_6, o306_7, o306_10, o306_16, o306_17, o76_0, o76_1, o76_2, o76_5, o76_8, o200_0, o200_1, o200_2, o200_5, o200_8, o200_9, o200_12, o200_13, o200_16, o200_19, o200_20, o200_23, o200_24, o200_25, o200_28, c_X8_isThrown__, c_X8_isQueue, c_queueOf_1, c_X1_freeCells (w := A 10) (r := A 11), c_X8_roomOf (x2 := A 25) (x3 := A 26) (a := A 27) (w := A 32) (r := A 35), mc_pi, mc_pl, mn_pi, mn_pl, mi_pi, mi_pl, ml_pi, ml_pl, mr_pi, mr_pl, mz_pl, mcs_0, mcs_r, Kn_v, true_and, and_true, not_true_eq_false, not_false_eq_true, false_implies, implies_true, forall_const, if_true, and_self, Nat.reduceLeDiff, Nat.reduceSub, Nat.reduceAdd, Nat.zero_le, Nat.le_refl, i10, Int32.reduceLT, cl1, Kc_v, Sum.inl.injEq, Option.some.injEq, Value.int.injEq, exists_eq_left', Nat.reduceLT, kc0, kc6, kc10, kc11, kc22, kc25, kc26, kc27, kc32, kc35, kc39, kn25, kn26, kn27, kr0_3, kr6_0, kr6_1, kr22_2, kr22_3, kr22_4, kr25_1, kr26_1, kz, ki6_2, vq3, hT, Int32.reduceLT, cl1, mT1_pi_j22 hA, mT1_pl, i64_0]
      first | refine ⟨⟨?_, ?_, ?_, ?_, ?_, ?_, ?_, ?_, ?_, ?_, ?_, ?_⟩, rfl⟩ | refine ⟨?_, ?_, ?_, ?_, ?_, ?_, ?_, ?_, ?_, ?_, ?_, ?_⟩
      · (try simp only [K_pi, K_pl])
        exact vk
      · (try simp only [Cn_pi_j22 hA, Cn_pl])
        exact vcn
      · (try simp only [Vq0_pi_j22 hA, Vq0_pl])
        exact v0
      · (try simp only [Vq1_pi_j22 hA, Vq1_pl])
        exact v1
      · (try simp only [Vq2_pi_j22 hA, Vq2_pl])
        exact v2
      · (try simp only [Vp_thr hA, Vp_pl])
        exact vp
      · (try simp only [Vl0_pi_j22 hA, Vl0_pl])
        exact vl0
      · (try simp only [Vl1_pi_j22 hA, Vl1_pl])
        exact vl1
      · (try simp only [Vlr_pi_j22 hA, Vlr_pl_j39 hA])
        exact vlr
      · (try simp only [Vsr_pi_j22 hA, Vsr_pl_j39 hA])
        exact vsr
      · (try simp only [Vc_pi_j22 hA, Vc_pl])
        exact vc
      · (try simp only [Tx_pi_j22 hA, Tx_pl])
        exact tx
    · have he := v2.1
      have hm := v2.2
      have hT : mT h (A 27) 2 (A 33) (A 36) = cT h (A 7) (A 12) (A 13) := he.symm
      have he2 := he
      simp only [cT, mT, Prod.mk.injEq] at he2
      obtain ⟨g1, g2, g3, g4, g5, g6, g7⟩ := he2
      replace g1 := g1.symm
      replace g2 := g2.symm
      replace g3 := g3.symm
      replace g4 := g4.symm
      replace g5 := g5.symm
      replace g6 := g6.symm
      replace g7 := g7.symm
      obtain ⟨hmk, har, hl0, hl9⟩ := qA_2 _ hm
      have hark : arok 2 (g_i h (A 7) 3) := fun _ => har
      have n1 : ¬ A 12 = A 13 := fun z => absurd ((hAe 12 13 (by decide) (by decide)).mp z) (by decide)
      simp only [o306_0, o306_1, o306_2, o306_3, o306_6, o306_7, o306_10, o306_16, o306_17, o76_0, o76_1, o76_2, o76_5, o76_8, o200_0, o200_1, o200_2, o200_5, o200_8, o200_9, o200_12, o200_13, o200_16, o200_19, o200_20, o200_23, o200_24, o200_25, o200_28, c_X8_isThrown__, c_X8_isQueue, c_queueOf_2, c_X1_freeCells (w := A 12) (r := A 13), c_X8_roomOf (x2 := A 25) (x3 := A 26) (a := A 27) (w := A 33) (r := A 36), mc_pi, mc_pl, mn_pi, mn_pl, mi_pi, mi_pl, ml_pi, ml_pl, mr_pi, mr_pl, mz_pl, mcs_0, mcs_r, Kn_v, true_and, and_true, not_true_eq_false, not_false_eq_true, false_implies, implies_true, forall_const, if_true, if_false, and_self, Nat.reduceLeDiff, Nat.reduceSub, Nat.reduceAdd, Nat.zero_le, Nat.le_refl, i10, Int32.reduceLT, cl2, Kc_v, Sum.inl.injEq, Option.some.injEq, Value.int.injEq, exists_eq_left', Nat.reduceLT, kc0, kc7, kc12, kc13, kc22, kc25, kc26, kc27, kc33, kc36, kc39, kn25, kn26, kn27, kr0_4, kr7_0, kr7_1, kr22_2, kr22_3, kr22_4, kr25_2, kr26_2, kz, ki7_2, vq3, hT, Int32.reduceLT, cl2, mT2_pi_j22 hA, mT2_pl, i64_0]
      first | refine ⟨⟨?_, ?_, ?_, ?_, ?_, ?_, ?_, ?_, ?_, ?_, ?_, ?_⟩, rfl⟩ | refine ⟨?_, ?_, ?_, ?_, ?_, ?_, ?_, ?_, ?_, ?_, ?_, ?_⟩
      · (try simp only [K_pi, K_pl])
        exact vk
      · (try simp only [Cn_pi_j22 hA, Cn_pl])
        exact vcn
      · (try simp only [Vq0_pi_j22 hA, Vq0_pl])
        exact v0
      · (try simp only [Vq1_pi_j22 hA, Vq1_pl])
        exact v1
      · (try simp only [Vq2_pi_j22 hA, Vq2_pl])
        exact v2
      · (try simp only [Vp_thr hA, Vp_pl])
        exact vp
      · (try simp only [Vl0_pi_j22 hA, Vl0_pl])
        exact vl0
      · (try simp only [Vl1_pi_j22 hA, Vl1_pl])
        exact vl1
      · (try simp only [Vlr_pi_j22 hA, Vlr_pl_j39 hA])
        exact vlr
      · (try simp only [Vsr_pi_j22 hA, Vsr_pl_j39 hA])
        exact vsr
      · (try simp only [Vc_pi_j22 hA, Vc_pl])
        exact vc
      · (try simp only [Tx_pi_j22 hA, Tx_pl])
        exact tx

theorem hx_307_1 {l rest : List Value} {bc bs : Nat} {Q : MR → MH → Prop} {h : MH} : Kc Ok 307 3 6 l rest bc bs Q (.inr 1) h ↔ ∀ q : Nat, Ok 307 20 l [.ref q] h bc bs Q := Kc_x (by decide +kernel) (by decide +kernel)
theorem op_isEmpty {A : Nat → Nat} {h : MH} (R : Rl A h) {q : Int32} : Ok 307 0 [.ref (A 0), .int q, .ref (A 39), mk0] [] h 1 6 (fun r h1 => ∃ k : Int32, r = .inl (some (.int k)) ∧ g_c h1 (A 22) = 9 ∧ Ok 201 0 [.ref (A 22), .int q] [] h1 0 0 (fun r2 h2 => ∃ b : Int32, r2 = .inl (some (.int b)) ∧ Rl A h2 ∧ g_i h2 (A 22) 9 = k ∧ (k = 0 → g_l h2 (A 39) 0 = b.toInt64))) := by
  obtain ⟨vk, vcn, v0, v1, v2, vp, vl0, vl1, vlr, vsr, vc, tx⟩ := R
  have vk0 := vk
  have vcn0 := vcn
  (refine K_el vk0 ?_; intros hA kc0 kc1 kc2 kc3 kc4 kc5 kc6 kc7 kc8 kc9 kc10 kc11 kc12 kc13 kc14 kc15 kc16 kc17 kc18 kc19 kc20 kc21 kc22 kc23 kc24 kc25 kc26 kc27 kc28 kc29 kc30 kc31 kc32 kc33 kc34 kc35 kc36 kc37 kc38 kc39 kz kt kn3 kn4 kn18 kn21 kn23 kn24 kn25 kn26 kn27 kn29 kn30 kr0_0 kr0_1 kr0_2 kr0_3 kr0_4 kr0_5 kr0_7 kr0_8 kr0_9 kr0_10 kr1_0 kr2_0 kr5_0 kr5_1 kr6_0 kr6_1 kr7_0 kr7_1 kr8_0 kr9_0 kr10_0 kr11_0 kr12_0 kr13_0 kr14_0 kr15_0 kr16_0 kr17_0 kr19_0 kr19_1 kr22_0 kr22_1 kr22_2 kr22_3 kr22_4 kr22_5 kr22_7 kr22_8 kr25_0 kr25_1 kr25_2 kr26_0 kr26_1 kr26_2 kr29_0 kr29_1)
  (refine Cn_el vcn0 ?_; intros ki5_2 ki6_2 ki7_2 ki8_1 ki8_2 ki8_3 ki9_1 ki9_2 ki9_3 ki10_1 ki10_2 ki10_3 ki11_1 ki11_2 ki11_3 ki12_1 ki12_2 ki12_3 ki13_1 ki13_2 ki13_3 ki14_1 ki14_2 ki14_3 ki28_0 ki28_1 ki31_0 ki31_1 ki32_0 ki32_1 ki33_0 ki33_1 ki34_0 ki34_1 ki35_0 ki35_1 ki36_0 ki36_1)
  have hAe : ∀ i j, i < 40 → j < 40 → (A i = A j ↔ i = j) := hA
  by_cases bq : q < 0 ∨ ¬ q < 3
  · have bq2 : (¬ q < 0 ∧ q < 3) = False := nrng bq
    simp only [o307_0, o307_1, o307_2, o307_3, o307_20, o307_21, o307_22, o77_0, o77_1, o77_2, o201_0, o201_1, o201_2, o201_5, o201_8, o201_9, o201_12, o201_13, o201_16, o201_19, o201_20, o201_23, o201_24, o201_35, o201_36, hx_307_1, c_X8_isThrown__, c_X8_isQueue, c_queueOf_bad, mc_pi, mc_pT, mn_pi, mn_pT, mi_pi, mi_pT, ml_pi, ml_pT, mr_pi, mr_pT, mz_pT, mcs_0, mcs_r, Kn_v, Kn_x, mrf_some, true_and, and_true, not_true_eq_false, not_false_eq_true, false_implies, forall_const, if_true, if_false, and_self, Nat.reduceLeDiff, Nat.reduceSub, Nat.reduceAdd, Nat.zero_le, Nat.le_refl, i10, kz0, Sum.inl.injEq, Option.some.injEq, Value.int.injEq, exists_eq_left', Nat.reduceLT, kc0, kc22, kc26, kn26, kr22_3, kz, bq, bq2]
    intro t ht
    first | refine ⟨⟨?_, ?_, ?_, ?_, ?_, ?_, ?_, ?_, ?_, ?_, ?_, ?_⟩, rfl⟩ | refine ⟨?_, ?_, ?_, ?_, ?_, ?_, ?_, ?_, ?_, ?_, ?_, ?_⟩
    · (try simp only [K_pi])
      exact K_pT ht vk
    · (try simp only [Cn_pi_j22 hA, Cn_pT])
      exact vcn
    · (try simp only [Vq0_pi_j22 hA, Vq0_pT])
      exact v0
    · (try simp only [Vq1_pi_j22 hA, Vq1_pT])
      exact v1
    · (try simp only [Vq2_pi_j22 hA, Vq2_pT])
      exact v2
    · (try simp only [Vp_thr hA, Vp_pT])
      exact vp
    · (try simp only [Vl0_pi_j22 hA, Vl0_pT])
      exact vl0
    · (try simp only [Vl1_pi_j22 hA, Vl1_pT])
      exact vl1
    · (try simp only [Vlr_pi_j22 hA, Vlr_pT])
      exact vlr
    · (try simp only [Vsr_pi_j22 hA, Vsr_pT])
      exact vsr
    · (try simp only [Vc_pi_j22 hA, Vc_pT])
      exact vc
    · (try simp only [Tx_pi_j22 hA])
      exact Tx_pT ht tx
  · have y1 : ¬ q < 0 := fun z => bq (Or.inl z)
    have y2 : q < 3 := Classical.byContradiction fun z => bq (Or.inr z)
    have bq2 : (¬ q < 0 ∧ q < 3) = True := eq_true ⟨y1, y2⟩
    rcases q_cases y1 y2 with rfl | rfl | rfl
    · have he := v0.1
      have hm := v0.2
      have hT : mT h (A 27) 0 (A 31) (A 34) = cT h (A 5) (A 8) (A 9) := he.symm
      have he2 := he
      simp only [cT, mT, Prod.mk.injEq] at he2
      obtain ⟨g1, g2, g3, g4, g5, g6, g7⟩ := he2
      replace g1 := g1.symm
      replace g2 := g2.symm
      replace g3 := g3.symm
      replace g4 := g4.symm
      replace g5 := g5.symm
      replace g6 := g6.symm
      replace g7 := g7.symm
      obtain ⟨hmk, har, hl0, hl9⟩ := qA_0 _ hm
      have hark : arok 0 (g_i h (A 5) 3) := fun z => absurd (by decide) z
      have n1 : ¬ A 8 = A 9 := fun z => absurd ((hAe 8 9 (by decide) (by decide)).mp z) (by decide)
      by_cases e0 : g_i h (A 9) 5 - g_i h (A 9) 4 = 0
      all_goals
        simp only [o307_0, o307_1, o307_2, o307_3, o307_6, o307_9, o307_10, o307_13, o307_14, o307_17, o307_23, o307_24, o77_0, o77_1, o77_2, o77_5, o77_8, o201_0, o201_1, o201_2, o201_5, o201_8, o201_9, o201_12, o201_13, o201_16, o201_19, o201_20, o201_23, o201_24, o201_25, o201_28, o201_31, o201_32, o201_35, o201_36, c_X8_isThrown__, c_X8_isQueue, c_queueOf_0, c_X1_hasNone (w := A 8) (r := A 9), c_X7_rests, mc_pi, mc_pl, mn_pi, mn_pl, mi_pi, mi_pl, ml_pi, ml_pl, mr_pi, mr_pl, mz_pl, mcs_0, mcs_r, Kn_v, mrf_some, true_and, and_true, not_true_eq_false, not_false_eq_true, false_implies, implies_true, forall_const, if_true, if_false, and_self, Nat.reduceEqDiff, Nat.reduceLeDiff, Nat.reduceSub, Nat.reduceAdd, Nat.zero_le, Nat.le_refl, i10, kz0, kz1, Int32.reduceLT, cl0, Kc_v, Sum.inl.injEq, Option.some.injEq, Value.int.injEq, exists_eq_left', Nat.reduceLT, hAe, kc0, kc5, kc8, kc9, kc22, kc26, kc34, kc39, kn26, kr0_2, kr5_0, kr5_1, kr22_3, kr26_0, kz, vq3, g4, g5, Int32.reduceLT, cl0, i64_0, i64_1, e0]
        first | refine ⟨⟨?_, ?_, ?_, ?_, ?_, ?_, ?_, ?_, ?_, ?_, ?_, ?_⟩, rfl⟩ | refine ⟨?_, ?_, ?_, ?_, ?_, ?_, ?_, ?_, ?_, ?_, ?_, ?_⟩
        · (try simp only [K_pi, K_pl])
          exact vk
        · (try simp only [Cn_pi_j22 hA, Cn_pl])
          exact vcn
        · (try simp only [Vq0_pi_j22 hA, Vq0_pl])
          exact v0
        · (try simp only [Vq1_pi_j22 hA, Vq1_pl])
          exact v1
        · (try simp only [Vq2_pi_j22 hA, Vq2_pl])
          exact v2
        · (try simp only [Vp_thr hA, Vp_pl])
          exact vp
        · (try simp only [Vl0_pi_j22 hA, Vl0_pl])
          exact vl0
        · (try simp only [Vl1_pi_j22 hA, Vl1_pl])
          exact vl1
        · (try simp only [Vlr_pi_j22 hA, Vlr_pl_j39 hA])
          exact vlr
        · (try simp only [Vsr_pi_j22 hA, Vsr_pl_j39 hA])
          exact vsr
        · (try simp only [Vc_pi_j22 hA, Vc_pl])
          exact vc
        · (try simp only [Tx_pi_j22 hA, Tx_pl])
          exact tx
    · have he := v1.1
      have hm := v1.2
      have hT : mT h (A 27) 1 (A 32) (A 35) = cT h (A 6) (A 10) (A 11) := he.symm
      have he2 := he
      simp only [cT, mT, Prod.mk.injEq] at he2
      obtain ⟨g1, g2, g3, g4, g5, g6, g7⟩ := he2
      replace g1 := g1.symm
      replace g2 := g2.symm
      replace g3 := g3.symm
      replace g4 := g4.symm
      replace g5 := g5.symm
      replace g6 := g6.symm
      replace g7 := g7.symm
      obtain ⟨hmk, har, hl0, hl9⟩ := qA_1 _ hm
      have hark : arok 1 (g_i h (A 6) 3) := fun z => absurd (by decide) z
      have n1 : ¬ A 10 = A 11 := fun z => absurd ((hAe 10 11 (by decide) (by decide)).mp z) (by decide)
      by_cases e0 : g_i h (A 11) 5 - g_i h (A 11) 4 = 0
      all_goals
        simp only [o307_0, o307_1, o307_2, o307_3, o307_6, o307_9, o307_10, o307_13, o307_14, o307_17, o307_23, o307_24, o77_0, o77_1, o77_2, o77_5, o77_8, o201_0, o201_1, o201_2, o201_5, o201_8, o201_9, o201_12, o201_13, o201_16, o201_19, o201_20, o201_23, o201_24, o201_25, o201_28, o201_31, o201_32, o201_35, o201_36, c_X8_isThrown__, c_X8_isQueue, c_queueOf_1, c_X1_hasNone (w := A 10) (r := A 11), c_X7_rests, mc_pi, mc_pl, mn_pi, mn_pl, mi_pi, mi_pl, ml_pi, ml_pl, mr_pi, mr_pl, mz_pl, mcs_0, mcs_r, Kn_v, mrf_some, true_and, and_true, not_true_eq_false, not_false_eq_true, false_implies, implies_true, forall_const, if_true, if_false, and_self, Nat.reduceEqDiff, Nat.reduceLeDiff, Nat.reduceSub, Nat.reduceAdd, Nat.zero_le, Nat.le_refl, i10, kz0, kz1, Int32.reduceLT, cl1, Kc_v, Sum.inl.injEq, Option.some.injEq, Value.int.injEq, exists_eq_left', Nat.reduceLT, hAe, kc0, kc6, kc10, kc11, kc22, kc26, kc35, kc39, kn26, kr0_3, kr6_0, kr6_1, kr22_3, kr26_1, kz, vq3, g4, g5, Int32.reduceLT, cl1, i64_0, i64_1, e0]
        first | refine ⟨⟨?_, ?_, ?_, ?_, ?_, ?_, ?_, ?_, ?_, ?_, ?_, ?_⟩, rfl⟩ | refine ⟨?_, ?_, ?_, ?_, ?_, ?_, ?_, ?_, ?_, ?_, ?_, ?_⟩
        · (try simp only [K_pi, K_pl])
          exact vk
        · (try simp only [Cn_pi_j22 hA, Cn_pl])
          exact vcn
        · (try simp only [Vq0_pi_j22 hA, Vq0_pl])
          exact v0
        · (try simp only [Vq1_pi_j22 hA, Vq1_pl])
          exact v1
        · (try simp only [Vq2_pi_j22 hA, Vq2_pl])
          exact v2
        · (try simp only [Vp_thr hA, Vp_pl])
          exact vp
        · (try simp only [Vl0_pi_j22 hA, Vl0_pl])
          exact vl0
        · (try simp only [Vl1_pi_j22 hA, Vl1_pl])
          exact vl1
        · (try simp only [Vlr_pi_j22 hA, Vlr_pl_j39 hA])
          exact vlr
        · (try simp only [Vsr_pi_j22 hA, Vsr_pl_j39 hA])
          exact vsr
        · (try simp only [Vc_pi_j22 hA, Vc_pl])
          exact vc
        · (try simp only [Tx_pi_j22 hA, Tx_pl])
          exact tx
    · have he := v2.1
      have hm := v2.2
      have hT : mT h (A 27) 2 (A 33) (A 36) = cT h (A 7) (A 12) (A 13) := he.symm
      have he2 := he
      simp only [cT, mT, Prod.mk.injEq] at he2
      obtain ⟨g1, g2, g3, g4, g5, g6, g7⟩ := he2
      replace g1 := g1.symm
      replace g2 := g2.symm
      replace g3 := g3.symm
      replace g4 := g4.symm
      replace g5 := g5.symm
      replace g6 := g6.symm
      replace g7 := g7.symm
      obtain ⟨hmk, har, hl0, hl9⟩ := qA_2 _ hm
      have hark : arok 2 (g_i h (A 7) 3) := fun _ => har
      have n1 : ¬ A 12 = A 13 := fun z => absurd ((hAe 12 13 (by decide) (by decide)).mp z) (by decide)
      by_cases e0 : g_i h (A 13) 5 - g_i h (A 13) 4 = 0
      all_goals
        simp only [o307_0, o307_1, o307_2, o307_3, o307_6, o307_9, o307_10, o307_13, o307_14, o307_17, o307_23, o307_24, o77_0, o77_1, o77_2, o77_5, o77_8, o201_0, o201_1, o201_2, o201_5, o201_8, o201_9, o201_12, o201_13, o201_16, o201_19, o201_20, o201_23, o201_24, o201_25, o201_28, o201_31, o201_32, o201_35, o201_36, c_X8_isThrown__, c_X8_isQueue, c_queueOf_2, c_X1_hasNone (w := A 12) (r := A 13), c_X7_rests, mc_pi, mc_pl, mn_pi, mn_pl, mi_pi, mi_pl, ml_pi, ml_pl, mr_pi, mr_pl, mz_pl, mcs_0, mcs_r, Kn_v, mrf_some, true_and, and_true, not_true_eq_false, not_false_eq_true, false_implies, implies_true, forall_const, if_true, if_false, and_self, Nat.reduceEqDiff, Nat.reduceLeDiff, Nat.reduceSub, Nat.reduceAdd, Nat.zero_le, Nat.le_refl, i10, kz0, kz1, Int32.reduceLT, cl2, Kc_v, Sum.inl.injEq, Option.some.injEq, Value.int.injEq, exists_eq_left', Nat.reduceLT, hAe, kc0, kc7, kc12, kc13, kc22, kc26, kc36, kc39, kn26, kr0_4, kr7_0, kr7_1, kr22_3, kr26_2, kz, vq3, g4, g5, Int32.reduceLT, cl2, i64_0, i64_1, e0]
        first | refine ⟨⟨?_, ?_, ?_, ?_, ?_, ?_, ?_, ?_, ?_, ?_, ?_, ?_⟩, rfl⟩ | refine ⟨?_, ?_, ?_, ?_, ?_, ?_, ?_, ?_, ?_, ?_, ?_, ?_⟩
        · (try simp only [K_pi, K_pl])
          exact vk
        · (try simp only [Cn_pi_j22 hA, Cn_pl])
          exact vcn
        · (try simp only [Vq0_pi_j22 hA, Vq0_pl])
          exact v0
        · (try simp only [Vq1_pi_j22 hA, Vq1_pl])
          exact v1
        · (try simp only [Vq2_pi_j22 hA, Vq2_pl])
          exact v2
        · (try simp only [Vp_thr hA, Vp_pl])
          exact vp
        · (try simp only [Vl0_pi_j22 hA, Vl0_pl])
          exact vl0
        · (try simp only [Vl1_pi_j22 hA, Vl1_pl])
          exact vl1
        · (try simp only [Vlr_pi_j22 hA, Vlr_pl_j39 hA])
          exact vlr
        · (try simp only [Vsr_pi_j22 hA, Vsr_pl_j39 hA])
          exact vsr
        · (try simp only [Vc_pi_j22 hA, Vc_pl])
          exact vc
        · (try simp only [Tx_pi_j22 hA, Tx_pl])
          exact tx

theorem hx_308_1 {l rest : List Value} {bc bs : Nat} {Q : MR → MH → Prop} {h : MH} : Kc Ok 308 3 6 l rest bc bs Q (.inr 1) h ↔ ∀ q : Nat, Ok 308 20 l [.ref q] h bc bs Q := Kc_x (by decide +kernel) (by decide +kernel)
theorem op_isFull {A : Nat → Nat} {h : MH} (R : Rl A h) {q : Int32} : Ok 308 0 [.ref (A 0), .int q, .ref (A 39), mk0] [] h 1 6 (fun r h1 => ∃ k : Int32, r = .inl (some (.int k)) ∧ g_c h1 (A 22) = 9 ∧ Ok 202 0 [.ref (A 22), .int q] [] h1 0 0 (fun r2 h2 => ∃ b : Int32, r2 = .inl (some (.int b)) ∧ Rl A h2 ∧ g_i h2 (A 22) 9 = k ∧ (k = 0 → g_l h2 (A 39) 0 = b.toInt64))) := by
  obtain ⟨vk, vcn, v0, v1, v2, vp, vl0, vl1, vlr, vsr, vc, tx⟩ := R
  have vk0 := vk
  have vcn0 := vcn
  (refine K_el vk0 ?_; intros hA kc0 kc1 kc2 kc3 kc4 kc5 kc6 kc7 kc8 kc9 kc10 kc11 kc12 kc13 kc14 kc15 kc16 kc17 kc18 kc19 kc20 kc21 kc22 kc23 kc24 kc25 kc26 kc27 kc28 kc29 kc30 kc31 kc32 kc33 kc34 kc35 kc36 kc37 kc38 kc39 kz kt kn3 kn4 kn18 kn21 kn23 kn24 kn25 kn26 kn27 kn29 kn30 kr0_0 kr0_1 kr0_2 kr0_3 kr0_4 kr0_5 kr0_7 kr0_8 kr0_9 kr0_10 kr1_0 kr2_0 kr5_0 kr5_1 kr6_0 kr6_1 kr7_0 kr7_1 kr8_0 kr9_0 kr10_0 kr11_0 kr12_0 kr13_0 kr14_0 kr15_0 kr16_0 kr17_0 kr19_0 kr19_1 kr22_0 kr22_1 kr22_2 kr22_3 kr22_4 kr22_5 kr22_7 kr22_8 kr25_0 kr25_1 kr25_2 kr26_0 kr26_1 kr26_2 kr29_0 kr29_1)
  (refine Cn_el vcn0 ?_; intros ki5_2 ki6_2 ki7_2 ki8_1 ki8_2 ki8_3 ki9_1 ki9_2 ki9_3 ki10_1 ki10_2 ki10_3 ki11_1 ki11_2 ki11_3 ki12_1 ki12_2 ki12_3 ki13_1 ki13_2 ki13_3 ki14_1 ki14_2 ki14_3 ki28_0 ki28_1 ki31_0 ki31_1 ki32_0 ki32_1 ki33_0 ki33_1 ki34_0 ki34_1 ki35_0 ki35_1 ki36_0 ki36_1)
  have hAe : ∀ i j, i < 40 → j < 40 → (A i = A j ↔ i = j) := hA
  by_cases bq : q < 0 ∨ ¬ q < 3
  · have bq2 : (¬ q < 0 ∧ q < 3) = False := nrng bq
    simp only [o308_0, o308_1, o308_2, o308_3, o308_20, o308_21, o308_22, o78_0, o78_1, o78_2, o202_0, o202_1, o202_2, o202_5, o202_8, o202_9, o202_12, o202_13, o202_16, o202_19, o202_20, o202_23, o202_24, o202_35, o202_36, hx_308_1, c_X8_isThrown__, c_X8_isQueue, c_queueOf_bad, mc_pi, mc_pT, mn_pi, mn_pT, mi_pi, mi_pT, ml_pi, ml_pT, mr_pi, mr_pT, mz_pT, mcs_0, mcs_r, Kn_v, Kn_x, mrf_some, true_and, and_true, not_true_eq_false, not_false_eq_true, false_implies, forall_const, if_true, if_false, and_self, Nat.reduceLeDiff, Nat.reduceSub, Nat.reduceAdd, Nat.zero_le, Nat.le_refl, i10, kz0, Sum.inl.injEq, Option.some.injEq, Value.int.injEq, exists_eq_left', Nat.reduceLT, kc0, kc22, kc25, kn25, kr22_2, kz, bq, bq2]
    intro t ht
    first | refine ⟨⟨?_, ?_, ?_, ?_, ?_, ?_, ?_, ?_, ?_, ?_, ?_, ?_⟩, rfl⟩ | refine ⟨?_, ?_, ?_, ?_, ?_, ?_, ?_, ?_, ?_, ?_, ?_, ?_⟩
    · (try simp only [K_pi])
      exact K_pT ht vk
    · (try simp only [Cn_pi_j22 hA, Cn_pT])
      exact vcn
    · (try simp only [Vq0_pi_j22 hA, Vq0_pT])
      exact v0
    · (try simp only [Vq1_pi_j22 hA, Vq1_pT])
      exact v1
    · (try simp only [Vq2_pi_j22 hA, Vq2_pT])
      exact v2
    · (try simp only [Vp_thr hA, Vp_pT])
      exact vp
    · (try simp only [Vl0_pi_j22 hA, Vl0_pT])
      exact vl0
    · (try simp only [Vl1_pi_j22 hA, Vl1_pT])
      exact vl1
    · (try simp only [Vlr_pi_j22 hA, Vlr_pT])
      exact vlr
    · (try simp only [Vsr_pi_j22 hA, Vsr_pT])
      exact vsr
    · (try simp only [Vc_pi_j22 hA, Vc_pT])
      exact vc
    · (try simp only [Tx_pi_j22 hA])
      exact Tx_pT ht tx
  · have y1 : ¬ q < 0 := fun z => bq (Or.inl z)
    have y2 : q < 3 := Classical.byContradiction fun z => bq (Or.inr z)
    have bq2 : (¬ q < 0 ∧ q < 3) = True := eq_true ⟨y1, y2⟩
    rcases q_cases y1 y2 with rfl | rfl | rfl
    · have he := v0.1
      have hm := v0.2
      have hT : mT h (A 27) 0 (A 31) (A 34) = cT h (A 5) (A 8) (A 9) := he.symm
      have he2 := he
      simp only [cT, mT, Prod.mk.injEq] at he2
      obtain ⟨g1, g2, g3, g4, g5, g6, g7⟩ := he2
      replace g1 := g1.symm
      replace g2 := g2.symm
      replace g3 := g3.symm
      replace g4 := g4.symm
      replace g5 := g5.symm
      replace g6 := g6.symm
      replace g7 := g7.symm
      obtain ⟨hmk, har, hl0, hl9⟩ := qA_0 _ hm
      have hark : arok 0 (g_i h (A 5) 3) := fun z => absurd (by decide) z
      have n1 : ¬ A 8 = A 9 := fun z => absurd ((hAe 8 9 (by decide) (by decide)).mp z) (by decide)
      by_cases e0 : g_i h (A 8) 5 - g_i h (A 8) 4 = 0
      all_goals
        simp only [o308_0, o308_1, o308_2, o308_3, o308_6, o308_9, o308_10, o308_13, o308_14, o308_17, o308_23, o308_24, o78_0, o78_1, o78_2, o78_5, o78_8, o202_0, o202_1, o202_2, o202_5, o202_8, o202_9, o202_12, o202_13, o202_16, o202_19, o202_20, o202_23, o202_24, o202_25, o202_28, o202_31, o202_32, o202_35, o202_36, c_X8_isThrown__, c_X8_isQueue, c_queueOf_0, c_X1_hasNoRest (w := A 8) (r := A 9), c_X7_rests, mc_pi, mc_pl, mn_pi, mn_pl, mi_pi, mi_pl, ml_pi, ml_pl, mr_pi, mr_pl, mz_pl, mcs_0, mcs_r, Kn_v, mrf_some, true_and, and_true, not_true_eq_false, not_false_eq_true, false_implies, implies_true, forall_const, if_true, if_false, and_self, Nat.reduceEqDiff, Nat.reduceLeDiff, Nat.reduceSub, Nat.reduceAdd, Nat.zero_le, Nat.le_refl, i10, kz0, kz1, Int32.reduceLT, cl0, Kc_v, Sum.inl.injEq, Option.some.injEq, Value.int.injEq, exists_eq_left', Nat.reduceLT, hAe, kc0, kc5, kc8, kc9, kc22, kc25, kc31, kc39, kn25, kr0_2, kr5_0, kr5_1, kr22_2, kr25_0, kz, vq3, g1, g2, Int32.reduceLT, cl0, i64_0, i64_1, e0]
        first | refine ⟨⟨?_, ?_, ?_, ?_, ?_, ?_, ?_, ?_, ?_, ?_, ?_, ?_⟩, rfl⟩ | refine ⟨?_, ?_, ?_, ?_, ?_, ?_, ?_, ?_, ?_, ?_, ?_, ?_⟩
        · (try simp only [K_pi, K_pl])
          exact vk
        · (try simp only [Cn_pi_j22 hA, Cn_pl])
          exact vcn
        · (try simp only [Vq0_pi_j22 hA, Vq0_pl])
          exact v0
        · (try simp only [Vq1_pi_j22 hA, Vq1_pl])
          exact v1
        · (try simp only [Vq2_pi_j22 hA, Vq2_pl])
          exact v2
        · (try simp only [Vp_thr hA, Vp_pl])
          exact vp
        · (try simp only [Vl0_pi_j22 hA, Vl0_pl])
          exact vl0
        · (try simp only [Vl1_pi_j22 hA, Vl1_pl])
          exact vl1
        · (try simp only [Vlr_pi_j22 hA, Vlr_pl_j39 hA])
          exact vlr
        · (try simp only [Vsr_pi_j22 hA, Vsr_pl_j39 hA])
          exact vsr
        · (try simp only [Vc_pi_j22 hA, Vc_pl])
          exact vc
        · (try simp only [Tx_pi_j22 hA, Tx_pl])
          exact tx
    · have he := v1.1
      have hm := v1.2
      have hT : mT h (A 27) 1 (A 32) (A 35) = cT h (A 6) (A 10) (A 11) := he.symm
      have he2 := he
      simp only [cT, mT, Prod.mk.injEq] at he2
      obtain ⟨g1, g2, g3, g4, g5, g6, g7⟩ := he2
      replace g1 := g1.symm
      replace g2 := g2.symm
      replace g3 := g3.symm
      replace g4 := g4.symm
      replace g5 := g5.symm
      replace g6 := g6.symm
      replace g7 := g7.symm
      obtain ⟨hmk, har, hl0, hl9⟩ := qA_1 _ hm
      have hark : arok 1 (g_i h (A 6) 3) := fun z => absurd (by decide) z
      have n1 : ¬ A 10 = A 11 := fun z => absurd ((hAe 10 11 (by decide) (by decide)).mp z) (by decide)
      by_cases e0 : g_i h (A 10) 5 - g_i h (A 10) 4 = 0
      all_goals
        simp only [o308_0, o308_1, o308_2, o308_3, o308_6, o308_9, o308_10, o308_13, o308_14, o308_17, o308_23, o308_24, o78_0, o78_1, o78_2, o78_5, o78_8, o202_0, o202_1, o202_2, o202_5, o202_8, o202_9, o202_12, o202_13, o202_16, o202_19, o202_20, o202_23, o202_24, o202_25, o202_28, o202_31, o202_32, o202_35, o202_36, c_X8_isThrown__, c_X8_isQueue, c_queueOf_1, c_X1_hasNoRest (w := A 10) (r := A 11), c_X7_rests, mc_pi, mc_pl, mn_pi, mn_pl, mi_pi, mi_pl, ml_pi, ml_pl, mr_pi, mr_pl, mz_pl, mcs_0, mcs_r, Kn_v, mrf_some, true_and, and_true, not_true_eq_false, not_false_eq_true, false_implies, implies_true, forall_const, if_true, if_false, and_self, Nat.reduceEqDiff, Nat.reduceLeDiff, Nat.reduceSub, Nat.reduceAdd, Nat.zero_le, Nat.le_refl, i10, kz0, kz1, Int32.reduceLT, cl1, Kc_v, Sum.inl.injEq, Option.some.injEq, Value.int.injEq, exists_eq_left', Nat.reduceLT, hAe, kc0, kc6, kc10, kc11, kc22, kc25, kc32, kc39, kn25, kr0_3, kr6_0, kr6_1, kr22_2, kr25_1, kz, vq3, g1, g2, Int32.reduceLT, cl1, i64_0, i64_1, e0]
        first | refine ⟨⟨?_, ?_, ?_, ?_, ?_, ?_, ?_, ?_, ?_, ?_, ?_, ?_⟩, rfl⟩ | refine ⟨?_, ?_, ?_, ?_, ?_, ?_, ?_, ?_, ?_, ?_, ?_, ?_⟩
        · (try simp only [K_pi, K_pl])
          exact vk
        · (try simp only [Cn_pi_j22 hA, Cn_pl])
          exact vcn
        · (try simp only [Vq0_pi_j22 hA, Vq0_pl])
          exact v0
        · (try simp only [Vq1_pi_j22 hA, Vq1_pl])
          exact v1
        · (try simp only [Vq2_pi_j22 hA, Vq2_pl])
          exact v2
        · (try simp only [Vp_thr hA, Vp_pl])
          exact vp
        · (try simp only [Vl0_pi_j22 hA, Vl0_pl])
          exact vl0
        · (try simp only [Vl1_pi_j22 hA, Vl1_pl])
          exact vl1
        · (try simp only [Vlr_pi_j22 hA, Vlr_pl_j39 hA])
          exact vlr
        · (try simp only [Vsr_pi_j22 hA, Vsr_pl_j39 hA])
          exact vsr
        · (try simp only [Vc_pi_j22 hA, Vc_pl])
          exact vc
        · (try simp only [Tx_pi_j22 hA, Tx_pl])
          exact tx
    · have he := v2.1
      have hm := v2.2
      have hT : mT h (A 27) 2 (A 33) (A 36) = cT h (A 7) (A 12) (A 13) := he.symm
      have he2 := he
      simp only [cT, mT, Prod.mk.injEq] at he2
      obtain ⟨g1, g2, g3, g4, g5, g6, g7⟩ := he2
      replace g1 := g1.symm
      replace g2 := g2.symm
      replace g3 := g3.symm
      replace g4 := g4.symm
      replace g5 := g5.symm
      replace g6 := g6.symm
      replace g7 := g7.symm
      obtain ⟨hmk, har, hl0, hl9⟩ := qA_2 _ hm
      have hark : arok 2 (g_i h (A 7) 3) := fun _ => har
      have n1 : ¬ A 12 = A 13 := fun z => absurd ((hAe 12 13 (by decide) (by decide)).mp z) (by decide)
      by_cases e0 : g_i h (A 12) 5 - g_i h (A 12) 4 = 0
      all_goals
        simp only [o308_0, o308_1, o308_2, o308_3, o308_6, o308_9, o308_10, o308_13, o308_14, o308_17, o308_23, o308_24, o78_0, o78_1, o78_2, o78_5, o78_8, o202_0, o202_1, o202_2, o202_5, o202_8, o202_9, o202_12, o202_13, o202_16, o202_19, o202_20, o202_23, o202_24, o202_25, o202_28, o202_31, o202_32, o202_35, o202_36, c_X8_isThrown__, c_X8_isQueue, c_queueOf_2, c_X1_hasNoRest (w := A 12) (r := A 13), c_X7_rests, mc_pi, mc_pl, mn_pi, mn_pl, mi_pi, mi_pl, ml_pi, ml_pl, mr_pi, mr_pl, mz_pl, mcs_0, mcs_r, Kn_v, mrf_some, true_and, and_true, not_true_eq_false, not_false_eq_true, false_implies, implies_true, forall_const, if_true, if_false, and_self, Nat.reduceEqDiff, Nat.reduceLeDiff, Nat.reduceSub, Nat.reduceAdd, Nat.zero_le, Nat.le_refl, i10, kz0, kz1, Int32.reduceLT, cl2, Kc_v, Sum.inl.injEq, Option.some.injEq, Value.int.injEq, exists_eq_left', Nat.reduceLT, hAe, kc0, kc7, kc12, kc13, kc22, kc25, kc33, kc39, kn25, kr0_4, kr7_0, kr7_1, kr22_2, kr25_2, kz, vq3, g1, g2, Int32.reduceLT, cl2, i64_0, i64_1, e0]
        first | refine ⟨⟨?_, ?_, ?_, ?_, ?_, ?_, ?_, ?_, ?_, ?_, ?_, ?_⟩, rfl⟩ | refine ⟨?_, ?_, ?_, ?_, ?_, ?_, ?_, ?_, ?_, ?_, ?_, ?_⟩
        · (try simp only [K_pi, K_pl])
          exact vk
        · (try simp only [Cn_pi_j22 hA, Cn_pl])
          exact vcn
        · (try simp only [Vq0_pi_j22 hA, Vq0_pl])
          exact v0
        · (try simp only [Vq1_pi_j22 hA, Vq1_pl])
          exact v1
        · (try simp only [Vq2_pi_j22 hA, Vq2_pl])
          exact v2
        · (try simp only [Vp_thr hA, Vp_pl])
          exact vp
        · (try simp only [Vl0_pi_j22 hA, Vl0_pl])
          exact vl0
        · (try simp only [Vl1_pi_j22 hA, Vl1_pl])
          exact vl1
        · (try simp only [Vlr_pi_j22 hA, Vlr_pl_j39 hA])
          exact vlr
        · (try simp only [Vsr_pi_j22 hA, Vsr_pl_j39 hA])
          exact vsr
        · (try simp only [Vc_pi_j22 hA, Vc_pl])
          exact vc
        · (try simp only [Tx_pi_j22 hA, Tx_pl])
          exact tx

theorem hx_304_1 {l rest : List Value} {bc bs : Nat} {Q : MR → MH → Prop} {h : MH} : Kc Ok 304 4 7 l rest bc bs Q (.inr 1) h ↔ ∀ q : Nat, Ok 304 14 l [.ref q] h bc bs Q := Kc_x (by decide +kernel) (by decide +kernel)
theorem hx_304_2 {l rest : List Value} {bc bs : Nat} {Q : MR → MH → Prop} {h : MH} : Kc Ok 304 4 7 l rest bc bs Q (.inr 2) h ↔ ∀ q : Nat, Ok 304 18 l [.ref q] h bc bs Q := Kc_x (by decide +kernel) (by decide +kernel)
theorem op_poke {A : Nat → Nat} {h : MH} (R : Rl A h) {q x : Int32} : Ok 304 0 [.ref (A 0), .int q, .int x, .ref (A 39), mk0] [] h 2 12 (fun r h1 => ∃ k : Int32, r = .inl (some (.int k)) ∧ g_c h1 (A 22) = 9 ∧ Ok 197 0 [.ref (A 22), .int q, .int x] [] h1 0 0 (fun r2 h2 => ∃ b : Int32, r2 = .inl (some (.int b)) ∧ Rl A h2 ∧ g_i h2 (A 22) 9 = k ∧ (k = 0 → g_l h2 (A 39) 0 = b.toInt64))) := by
  obtain ⟨vk, vcn, v0, v1, v2, vp, vl0, vl1, vlr, vsr, vc, tx⟩ := R
  have vk0 := vk
  have vcn0 := vcn
  (refine K_el vk0 ?_; intros hA kc0 kc1 kc2 kc3 kc4 kc5 kc6 kc7 kc8 kc9 kc10 kc11 kc12 kc13 kc14 kc15 kc16 kc17 kc18 kc19 kc20 kc21 kc22 kc23 kc24 kc25 kc26 kc27 kc28 kc29 kc30 kc31 kc32 kc33 kc34 kc35 kc36 kc37 kc38 kc39 kz kt kn3 kn4 kn18 kn21 kn23 kn24 kn25 kn26 kn27 kn29 kn30 kr0_0 kr0_1 kr0_2 kr0_3 kr0_4 kr0_5 kr0_7 kr0_8 kr0_9 kr0_10 kr1_0 kr2_0 kr5_0 kr5_1 kr6_0 kr6_1 kr7_0 kr7_1 kr8_0 kr9_0 kr10_0 kr11_0 kr12_0 kr13_0 kr14_0 kr15_0 kr16_0 kr17_0 kr19_0 kr19_1 kr22_0 kr22_1 kr22_2 kr22_3 kr22_4 kr22_5 kr22_7 kr22_8 kr25_0 kr25_1 kr25_2 kr26_0 kr26_1 kr26_2 kr29_0 kr29_1)
  (refine Cn_el vcn0 ?_; intros ki5_2 ki6_2 ki7_2 ki8_1 ki8_2 ki8_3 ki9_1 ki9_2 ki9_3 ki10_1 ki10_2 ki10_3 ki11_1 ki11_2 ki11_3 ki12_1 ki12_2 ki12_3 ki13_1 ki13_2 ki13_3 ki14_1 ki14_2 ki14_3 ki28_0 ki28_1 ki31_0 ki31_1 ki32_0 ki32_1 ki33_0 ki33_1 ki34_0 ki34_1 ki35_0 ki35_1 ki36_0 ki36_1)
  have hAe : ∀ i j, i < 40 → j < 40 → (A i = A j ↔ i = j) := hA
  by_cases bx0 : x < 0 <;> by_cases bx9 : 3 < x
  · exact absurd (Int32.lt_trans bx9 bx0) (by decide)
  · by_cases bq : q < 0 ∨ ¬ q < 3
    · have bq2 : (¬ q < 0 ∧ q < 3) = False := nrng bq
      simp only [o304_0, o304_1, o304_2, o304_3, o304_4, o304_14, o304_16, o304_17, o304_18, o304_20, o304_21, o74_0, o74_1, o74_4, o74_5, o74_6, o74_9, o74_10, o74_13, o74_14, o197_0, o197_1, o197_2, o197_5, o197_8, o197_9, o197_12, o197_13, o197_14, o197_17, o197_18, o197_19, o197_22, o197_23, o197_26, o197_27, o197_30, o197_33, o197_34, o197_37, o197_38, o197_39, o197_42, hx_304_1, hx_304_2, c_X8_isThrown_, c_X8_isQueue, c_X5_checkQueue, c_X5_checkChoice, mc_pi, mc_pT, mi_pi, mi_pT, ml_pi, ml_pT, mz_pT, mcs_0, mcs_r, Kn_v, Kn_0, Kn_x, mrf_some, true_and, and_true, or_false, not_true_eq_false, not_false_eq_true, false_implies, forall_const, if_true, if_false, and_self, Nat.reduceLeDiff, Nat.reduceSub, Nat.reduceAdd, Nat.zero_le, Nat.le_refl, i10, lt_le, Sum.inl.injEq, Option.some.injEq, Value.int.injEq, exists_eq_left', Nat.reduceLT, i20, kc0, kc17, kc22, kr0_9, kz, bq, bq2, bx0, bx9]
      intro t ht
      first | refine ⟨⟨?_, ?_, ?_, ?_, ?_, ?_, ?_, ?_, ?_, ?_, ?_, ?_⟩, rfl⟩ | refine ⟨?_, ?_, ?_, ?_, ?_, ?_, ?_, ?_, ?_, ?_, ?_, ?_⟩
      · (try simp only [K_pi])
        exact K_pT ht vk
      · (try simp only [Cn_pi_j22 hA, Cn_pT])
        exact vcn
      · (try simp only [Vq0_pi_j22 hA, Vq0_pT])
        exact v0
      · (try simp only [Vq1_pi_j22 hA, Vq1_pT])
        exact v1
      · (try simp only [Vq2_pi_j22 hA, Vq2_pT])
        exact v2
      · (try simp only [Vp_thr hA, Vp_pT])
        exact vp
      · (try simp only [Vl0_pi_j22 hA, Vl0_pT])
        exact vl0
      · (try simp only [Vl1_pi_j22 hA, Vl1_pT])
        exact vl1
      · (try simp only [Vlr_pi_j22 hA, Vlr_pT])
        exact vlr
      · (try simp only [Vsr_pi_j22 hA, Vsr_pT])
        exact vsr
      · (try simp only [Vc_pi_j22 hA, Vc_pT])
        exact vc
      · (try simp only [Tx_pi_j22 hA])
        exact Tx_pT ht tx
    · have y1 : ¬ q < 0 := fun z => bq (Or.inl z)
      have y2 : q < 3 := Classical.byContradiction fun z => bq (Or.inr z)
      have bq2 : (¬ q < 0 ∧ q < 3) = True := eq_true ⟨y1, y2⟩
      simp only [o304_0, o304_1, o304_2, o304_3, o304_4, o304_7, o304_8, o304_11, o304_14, o304_16, o304_17, o304_18, o304_20, o304_21, o304_22, o304_23, o74_0, o74_1, o74_4, o74_5, o74_6, o74_9, o74_10, o74_13, o74_14, o74_17, o197_0, o197_1, o197_2, o197_5, o197_8, o197_9, o197_12, o197_13, o197_14, o197_17, o197_18, o197_19, o197_22, o197_23, o197_26, o197_27, o197_30, o197_33, o197_34, o197_37, o197_38, o197_39, o197_42, hx_304_1, hx_304_2, c_X8_isThrown_, c_X8_isQueue, c_X5_checkQueue, c_X5_checkChoice, c_ref_4 (cs := A 18), c_X8_no (cs := A 30), mc_pi, mc_pl, mc_pT, mn_pi, mn_pl, mn_pT, mi_pi, mi_pl, mi_pT, ml_pi, ml_pl, ml_pT, mr_pi, mr_pl, mr_pT, mz_pi, mz_pl, mz_pT, mcs_0, mcs_r, Kn_v, Kn_0, Kn_x, mrf_some, true_and, and_true, false_and, and_false, or_false, not_true_eq_false, not_false_eq_true, false_implies, implies_true, forall_const, if_true, if_false, and_self, Nat.reduceEqDiff, Nat.reduceLeDiff, Nat.reduceSub, Nat.reduceAdd, Nat.zero_le, Nat.le_refl, i10, lt_le, Int32.reduceSub, cl4, Kc_v, Sum.inl.injEq, Option.some.injEq, Value.int.injEq, exists_eq_left', Nat.reduceLT, hAe, i20, kc0, kc17, kc18, kc22, kc30, kc39, kn18, kn30, kr0_9, kr17_0, kr22_8, kz, bx0, bx9, y1, y2, v18, cl4]
      intro t ht
      first | refine ⟨⟨?_, ?_, ?_, ?_, ?_, ?_, ?_, ?_, ?_, ?_, ?_, ?_⟩, rfl⟩ | refine ⟨?_, ?_, ?_, ?_, ?_, ?_, ?_, ?_, ?_, ?_, ?_, ?_⟩
      · (try simp only [K_pi])
        exact K_pT ht vk
      · (try simp only [Cn_pi_j22 hA, Cn_pT])
        exact vcn
      · (try simp only [Vq0_pi_j22 hA, Vq0_pT])
        exact v0
      · (try simp only [Vq1_pi_j22 hA, Vq1_pT])
        exact v1
      · (try simp only [Vq2_pi_j22 hA, Vq2_pT])
        exact v2
      · (try simp only [Vp_thr hA, Vp_pT])
        exact vp
      · (try simp only [Vl0_pi_j22 hA, Vl0_pT])
        exact vl0
      · (try simp only [Vl1_pi_j22 hA, Vl1_pT])
        exact vl1
      · (try simp only [Vlr_pi_j22 hA, Vlr_pT])
        exact vlr
      · (try simp only [Vsr_pi_j22 hA, Vsr_pT])
        exact vsr
      · (try simp only [Vc_pi_j22 hA, Vc_pT])
        exact vc
      · (try simp only [Tx_pi_j22 hA])
        exact Tx_pT ht tx
  · by_cases bq : q < 0 ∨ ¬ q < 3
    · have bq2 : (¬ q < 0 ∧ q < 3) = False := nrng bq
      simp only [o304_0, o304_1, o304_2, o304_3, o304_4, o304_14, o304_16, o304_17, o304_18, o304_20, o304_21, o74_0, o74_1, o74_4, o74_5, o74_6, o74_9, o74_10, o74_13, o74_14, o197_0, o197_1, o197_2, o197_5, o197_8, o197_9, o197_12, o197_13, o197_14, o197_17, o197_18, o197_19, o197_22, o197_23, o197_26, o197_27, o197_30, o197_33, o197_34, o197_37, o197_38, o197_39, o197_42, hx_304_1, hx_304_2, c_X8_isThrown_, c_X8_isQueue, c_X5_checkQueue, c_X5_checkChoice, mc_pi, mc_pT, mi_pi, mi_pT, ml_pi, ml_pT, mz_pT, mcs_0, mcs_r, Kn_v, Kn_0, Kn_x, mrf_some, true_and, and_true, or_true, not_true_eq_false, not_false_eq_true, false_implies, forall_const, if_true, if_false, and_self, Nat.reduceLeDiff, Nat.reduceSub, Nat.reduceAdd, Nat.zero_le, Nat.le_refl, i10, lt_le, Sum.inl.injEq, Option.some.injEq, Value.int.injEq, exists_eq_left', Nat.reduceLT, i20, kc0, kc17, kc22, kr0_9, kz, bq, bq2, bx0, bx9]
      intro t ht
      first | refine ⟨⟨?_, ?_, ?_, ?_, ?_, ?_, ?_, ?_, ?_, ?_, ?_, ?_⟩, rfl⟩ | refine ⟨?_, ?_, ?_, ?_, ?_, ?_, ?_, ?_, ?_, ?_, ?_, ?_⟩
      · (try simp only [K_pi])
        exact K_pT ht vk
      · (try simp only [Cn_pi_j22 hA, Cn_pT])
        exact vcn
      · (try simp only [Vq0_pi_j22 hA, Vq0_pT])
        exact v0
      · (try simp only [Vq1_pi_j22 hA, Vq1_pT])
        exact v1
      · (try simp only [Vq2_pi_j22 hA, Vq2_pT])
        exact v2
      · (try simp only [Vp_thr hA, Vp_pT])
        exact vp
      · (try simp only [Vl0_pi_j22 hA, Vl0_pT])
        exact vl0
      · (try simp only [Vl1_pi_j22 hA, Vl1_pT])
        exact vl1
      · (try simp only [Vlr_pi_j22 hA, Vlr_pT])
        exact vlr
      · (try simp only [Vsr_pi_j22 hA, Vsr_pT])
        exact vsr
      · (try simp only [Vc_pi_j22 hA, Vc_pT])
        exact vc
      · (try simp only [Tx_pi_j22 hA])
        exact Tx_pT ht tx
    · have y1 : ¬ q < 0 := fun z => bq (Or.inl z)
      have y2 : q < 3 := Classical.byContradiction fun z => bq (Or.inr z)
      have bq2 : (¬ q < 0 ∧ q < 3) = True := eq_true ⟨y1, y2⟩
      simp only [o304_0, o304_1, o304_2, o304_3, o304_4, o304_7, o304_8, o304_11, o304_14, o304_16, o304_17, o304_18, o304_20, o304_21, o304_22, o304_23, o74_0, o74_1, o74_4, o74_5, o74_6, o74_9, o74_10, o74_13, o74_14, o74_17, o197_0, o197_1, o197_2, o197_5, o197_8, o197_9, o197_12, o197_13, o197_14, o197_17, o197_18, o197_19, o197_22, o197_23, o197_26, o197_27, o197_30, o197_33, o197_34, o197_37, o197_38, o197_39, o197_42, hx_304_1, hx_304_2, c_X8_isThrown_, c_X8_isQueue, c_X5_checkQueue, c_X5_checkChoice, c_ref_4 (cs := A 18), c_X8_no (cs := A 30), mc_pi, mc_pl, mc_pT, mn_pi, mn_pl, mn_pT, mi_pi, mi_pl, mi_pT, ml_pi, ml_pl, ml_pT, mr_pi, mr_pl, mr_pT, mz_pi, mz_pl, mz_pT, mcs_0, mcs_r, Kn_v, Kn_0, Kn_x, mrf_some, true_and, and_true, false_and, and_false, or_true, or_false, not_true_eq_false, not_false_eq_true, false_implies, implies_true, forall_const, if_true, if_false, and_self, Nat.reduceEqDiff, Nat.reduceLeDiff, Nat.reduceSub, Nat.reduceAdd, Nat.zero_le, Nat.le_refl, i10, lt_le, Int32.reduceSub, cl4, Kc_v, Sum.inl.injEq, Option.some.injEq, Value.int.injEq, exists_eq_left', Nat.reduceLT, hAe, i20, kc0, kc17, kc18, kc22, kc30, kc39, kn18, kn30, kr0_9, kr17_0, kr22_8, kz, bx0, bx9, y1, y2, v18, cl4]
      intro t ht
      first | refine ⟨⟨?_, ?_, ?_, ?_, ?_, ?_, ?_, ?_, ?_, ?_, ?_, ?_⟩, rfl⟩ | refine ⟨?_, ?_, ?_, ?_, ?_, ?_, ?_, ?_, ?_, ?_, ?_, ?_⟩
      · (try simp only [K_pi])
        exact K_pT ht vk
      · (try simp only [Cn_pi_j22 hA, Cn_pT])
        exact vcn
      · (try simp only [Vq0_pi_j22 hA, Vq0_pT])
        exact v0
      · (try simp only [Vq1_pi_j22 hA, Vq1_pT])
        exact v1
      · (try simp only [Vq2_pi_j22 hA, Vq2_pT])
        exact v2
      · (try simp only [Vp_thr hA, Vp_pT])
        exact vp
      · (try simp only [Vl0_pi_j22 hA, Vl0_pT])
        exact vl0
      · (try simp only [Vl1_pi_j22 hA, Vl1_pT])
        exact vl1
      · (try simp only [Vlr_pi_j22 hA, Vlr_pT])
        exact vlr
      · (try simp only [Vsr_pi_j22 hA, Vsr_pT])
        exact vsr
      · (try simp only [Vc_pi_j22 hA, Vc_pT])
        exact vc
      · (try simp only [Tx_pi_j22 hA])
        exact Tx_pT ht tx
  · by_cases bq : q < 0 ∨ ¬ q < 3
    · have bq2 : (¬ q < 0 ∧ q < 3) = False := nrng bq
      simp only [o304_0, o304_1, o304_2, o304_3, o304_4, o304_14, o304_16, o304_17, o304_18, o304_20, o304_21, o74_0, o74_1, o74_4, o74_5, o74_6, o74_9, o74_10, o74_13, o74_14, o197_0, o197_1, o197_2, o197_5, o197_8, o197_9, o197_12, o197_13, o197_14, o197_17, o197_18, o197_19, o197_22, o197_23, o197_26, o197_27, o197_30, o197_33, o197_34, o197_37, o197_38, o197_39, o197_42, hx_304_1, hx_304_2, c_X8_isThrown_, c_X8_isQueue, c_X5_checkQueue, c_X5_checkChoice, mc_pi, mc_pT, mi_pi, mi_pT, ml_pi, ml_pT, mz_pT, mcs_0, mcs_r, Kn_v, Kn_0, Kn_x, mrf_some, true_and, and_true, or_false, not_true_eq_false, not_false_eq_true, false_implies, forall_const, if_true, if_false, and_self, Nat.reduceLeDiff, Nat.reduceSub, Nat.reduceAdd, Nat.zero_le, Nat.le_refl, i10, lt_le, Sum.inl.injEq, Option.some.injEq, Value.int.injEq, exists_eq_left', Nat.reduceLT, i20, kc0, kc17, kc22, kr0_9, kz, bq, bq2, bx0, bx9]
      intro t ht
      first | refine ⟨⟨?_, ?_, ?_, ?_, ?_, ?_, ?_, ?_, ?_, ?_, ?_, ?_⟩, rfl⟩ | refine ⟨?_, ?_, ?_, ?_, ?_, ?_, ?_, ?_, ?_, ?_, ?_, ?_⟩
      · (try simp only [K_pi])
        exact K_pT ht vk
      · (try simp only [Cn_pi_j22 hA, Cn_pT])
        exact vcn
      · (try simp only [Vq0_pi_j22 hA, Vq0_pT])
        exact v0
      · (try simp only [Vq1_pi_j22 hA, Vq1_pT])
        exact v1
      · (try simp only [Vq2_pi_j22 hA, Vq2_pT])
        exact v2
      · (try simp only [Vp_thr hA, Vp_pT])
        exact vp
      · (try simp only [Vl0_pi_j22 hA, Vl0_pT])
        exact vl0
      · (try simp only [Vl1_pi_j22 hA, Vl1_pT])
        exact vl1
      · (try simp only [Vlr_pi_j22 hA, Vlr_pT])
        exact vlr
      · (try simp only [Vsr_pi_j22 hA, Vsr_pT])
        exact vsr
      · (try simp only [Vc_pi_j22 hA, Vc_pT])
        exact vc
      · (try simp only [Tx_pi_j22 hA])
        exact Tx_pT ht tx
    · have y1 : ¬ q < 0 := fun z => bq (Or.inl z)
      have y2 : q < 3 := Classical.byContradiction fun z => bq (Or.inr z)
      have bq2 : (¬ q < 0 ∧ q < 3) = True := eq_true ⟨y1, y2⟩
      simp only [o304_0, o304_1, o304_2, o304_3, o304_4, o304_7, o304_8, o304_11, o304_14, o304_16, o304_17, o304_18, o304_20, o304_21, o304_22, o304_23, o74_0, o74_1, o74_4, o74_5, o74_6, o74_9, o74_10, o74_13, o74_14, o74_17, o197_0, o197_1, o197_2, o197_5, o197_8, o197_9, o197_12, o197_13, o197_14, o197_17, o197_18, o197_19, o197_22, o197_23, o197_26, o197_27, o197_30, o197_33, o197_34, o197_37, o197_38, o197_39, o197_42, hx_304_1, hx_304_2, c_X8_isThrown_, c_X8_isQueue, c_X5_checkQueue, c_X5_checkChoice, c_ref_4 (cs := A 18), c_X8_no (cs := A 30), mc_pi, mc_pl, mc_pT, mn_pi, mn_pl, mn_pT, mi_pi, mi_pl, mi_pT, ml_pi, ml_pl, ml_pT, mr_pi, mr_pl, mr_pT, mz_pi, mz_pl, mz_pT, mcs_0, mcs_r, Kn_v, Kn_0, Kn_x, mrf_some, true_and, and_true, and_false, or_false, not_true_eq_false, not_false_eq_true, false_implies, implies_true, forall_const, if_true, if_false, and_self, Nat.reduceEqDiff, Nat.reduceLeDiff, Nat.reduceSub, Nat.reduceAdd, Nat.zero_le, Nat.le_refl, i10, i01, lt_le, Int32.reduceSub, cl4, Kc_v, Sum.inl.injEq, Option.some.injEq, Value.int.injEq, exists_eq_left', Nat.reduceLT, hAe, i20, kc0, kc17, kc18, kc22, kc30, kc39, kn18, kn30, kr0_9, kr17_0, kr22_8, kz, bx0, bx9, y1, y2, v18, cl4]
      first | refine ⟨⟨?_, ?_, ?_, ?_, ?_, ?_, ?_, ?_, ?_, ?_, ?_, ?_⟩, rfl⟩ | refine ⟨?_, ?_, ?_, ?_, ?_, ?_, ?_, ?_, ?_, ?_, ?_, ?_⟩
      · (try simp only [K_pi, K_pl])
        exact vk
      · (try simp only [Cn_pi_j18 hA, Cn_pi_j22 hA, Cn_pi_j30 hA, Cn_pl])
        exact vcn
      · (try simp only [Vq0_pi_j18 hA, Vq0_pi_j22 hA, Vq0_pi_j30 hA, Vq0_pl])
        exact v0
      · (try simp only [Vq1_pi_j18 hA, Vq1_pi_j22 hA, Vq1_pi_j30 hA, Vq1_pl])
        exact v1
      · (try simp only [Vq2_pi_j18 hA, Vq2_pi_j22 hA, Vq2_pi_j30 hA, Vq2_pl])
        exact v2
      · (try simp only [Vp_pi_j18 hA, Vp_pi_j30 hA, Vp_thr hA, Vp_pl])
        exact vp
      · (try simp only [Vl0_pi_j18 hA, Vl0_pi_j22 hA, Vl0_pi_j30 hA, Vl0_pl])
        exact vl0
      · (try simp only [Vl1_pi_j18 hA, Vl1_pi_j22 hA, Vl1_pi_j30 hA, Vl1_pl])
        exact vl1
      · (try simp only [Vlr_pi_j18 hA, Vlr_pi_j22 hA, Vlr_pi_j30 hA, Vlr_pl_j39 hA])
        exact vlr
      · (try simp only [Vsr_pi_j18 hA, Vsr_pi_j22 hA, Vsr_pi_j30 hA, Vsr_pl_j39 hA])
        exact vsr
      · refine Vc_of (c := 4) vc (by decide) (fun k => ?_) (fun k => ?_) <;> simp only [mi_pi, mi_pl, hAe, Nat.reduceLT, Nat.reduceEqDiff, false_and, true_and, if_false]
      · (try simp only [Tx_pi_j18 hA, Tx_pi_j22 hA, Tx_pi_j30 hA, Tx_pl])
        exact tx

theorem hx_327_2 {l rest : List Value} {bc bs : Nat} {Q : MR → MH → Prop} {h : MH} : Kc Ok 327 3 6 l rest bc bs Q (.inr 2) h ↔ ∀ q : Nat, Ok 327 13 l [.ref q] h bc bs Q := Kc_x (by decide +kernel) (by decide +kernel)
theorem op_house {A : Nat → Nat} {h : MH} (R : Rl A h) {x : Int32} : Ok 327 0 [.ref (A 0), .int x, .ref (A 39), mk0] [] h 1 6 (fun r h1 => ∃ k : Int32, r = .inl (some (.int k)) ∧ g_c h1 (A 22) = 9 ∧ Ok 238 0 [.ref (A 22), .int x] [] h1 0 0 (fun r2 h2 => ∃ b : Int32, r2 = .inl (some (.int b)) ∧ Rl A h2 ∧ g_i h2 (A 22) 9 = k ∧ (k = 0 → g_l h2 (A 39) 0 = b.toInt64))) := by
  obtain ⟨vk, vcn, v0, v1, v2, vp, vl0, vl1, vlr, vsr, vc, tx⟩ := R
  have vk0 := vk
  have vcn0 := vcn
  (refine K_el vk0 ?_; intros hA kc0 kc1 kc2 kc3 kc4 kc5 kc6 kc7 kc8 kc9 kc10 kc11 kc12 kc13 kc14 kc15 kc16 kc17 kc18 kc19 kc20 kc21 kc22 kc23 kc24 kc25 kc26 kc27 kc28 kc29 kc30 kc31 kc32 kc33 kc34 kc35 kc36 kc37 kc38 kc39 kz kt kn3 kn4 kn18 kn21 kn23 kn24 kn25 kn26 kn27 kn29 kn30 kr0_0 kr0_1 kr0_2 kr0_3 kr0_4 kr0_5 kr0_7 kr0_8 kr0_9 kr0_10 kr1_0 kr2_0 kr5_0 kr5_1 kr6_0 kr6_1 kr7_0 kr7_1 kr8_0 kr9_0 kr10_0 kr11_0 kr12_0 kr13_0 kr14_0 kr15_0 kr16_0 kr17_0 kr19_0 kr19_1 kr22_0 kr22_1 kr22_2 kr22_3 kr22_4 kr22_5 kr22_7 kr22_8 kr25_0 kr25_1 kr25_2 kr26_0 kr26_1 kr26_2 kr29_0 kr29_1)
  (refine Cn_el vcn0 ?_; intros ki5_2 ki6_2 ki7_2 ki8_1 ki8_2 ki8_3 ki9_1 ki9_2 ki9_3 ki10_1 ki10_2 ki10_3 ki11_1 ki11_2 ki11_3 ki12_1 ki12_2 ki12_3 ki13_1 ki13_2 ki13_3 ki14_1 ki14_2 ki14_3 ki28_0 ki28_1 ki31_0 ki31_1 ki32_0 ki32_1 ki33_0 ki33_1 ki34_0 ki34_1 ki35_0 ki35_1 ki36_0 ki36_1)
  have hAe : ∀ i j, i < 40 → j < 40 → (A i = A j ↔ i = j) := hA
  by_cases bx0 : x < 0 <;> by_cases bx9 : 7 < x
  · exact absurd (Int32.lt_trans bx9 bx0) (by decide)
  · skip
    simp only [o327_0, o327_1, o327_2, o327_3, o327_13, o327_14, o327_15, o104_0, o104_1, o104_3, o104_6, o104_7, o104_10, o104_11, o238_0, o238_1, o238_2, o238_5, o238_6, o238_8, o238_11, o238_12, o238_15, o238_16, o238_19, o238_22, o238_23, o238_26, o238_27, o238_30, o238_31, o238_32, hx_327_2, c_X8_isThrown__, c_X5_checkChoice, mc_pi, mc_pT, mn_pi, mn_pT, mi_pi, mi_pT, ml_pi, ml_pT, mr_pi, mr_pT, mz_pT, mcs_0, mcs_r, Kn_v, Kn_0, Kn_x, mrf_some, true_and, and_true, false_and, or_false, not_true_eq_false, not_false_eq_true, false_implies, forall_const, if_true, if_false, and_self, Nat.reduceEqDiff, Nat.reduceLeDiff, Nat.reduceSub, Nat.reduceAdd, Nat.zero_le, Nat.le_refl, i10, lt_le, Sum.inl.injEq, Option.some.injEq, Value.int.injEq, exists_eq_left', Nat.reduceLT, hAe, kc0, kc17, kc18, kc22, kc30, kn18, kn30, kr0_9, kr17_0, kr22_8, kz, bx0, bx9]
    intro t ht
    first | refine ⟨⟨?_, ?_, ?_, ?_, ?_, ?_, ?_, ?_, ?_, ?_, ?_, ?_⟩, rfl⟩ | refine ⟨?_, ?_, ?_, ?_, ?_, ?_, ?_, ?_, ?_, ?_, ?_, ?_⟩
    · (try simp only [K_pi])
      exact K_pT ht vk
    · (try simp only [Cn_pi_j22 hA, Cn_pT])
      exact vcn
    · (try simp only [Vq0_pi_j22 hA, Vq0_pT])
      exact v0
    · (try simp only [Vq1_pi_j22 hA, Vq1_pT])
      exact v1
    · (try simp only [Vq2_pi_j22 hA, Vq2_pT])
      exact v2
    · (try simp only [Vp_thr hA, Vp_pT])
      exact vp
    · (try simp only [Vl0_pi_j22 hA, Vl0_pT])
      exact vl0
    · (try simp only [Vl1_pi_j22 hA, Vl1_pT])
      exact vl1
    · (try simp only [Vlr_pi_j22 hA, Vlr_pT])
      exact vlr
    · (try simp only [Vsr_pi_j22 hA, Vsr_pT])
      exact vsr
    · (try simp only [Vc_pi_j22 hA, Vc_pT])
      exact vc
    · (try simp only [Tx_pi_j22 hA])
      exact Tx_pT ht tx
  · skip
    simp only [o327_0, o327_1, o327_2, o327_3, o327_13, o327_14, o327_15, o104_0, o104_1, o104_3, o104_6, o104_7, o104_10, o104_11, o238_0, o238_1, o238_2, o238_5, o238_6, o238_8, o238_11, o238_12, o238_15, o238_16, o238_19, o238_22, o238_23, o238_26, o238_27, o238_30, o238_31, o238_32, hx_327_2, c_X8_isThrown__, c_X5_checkChoice, mc_pi, mc_pT, mn_pi, mn_pT, mi_pi, mi_pT, ml_pi, ml_pT, mr_pi, mr_pT, mz_pT, mcs_0, mcs_r, Kn_v, Kn_0, Kn_x, mrf_some, true_and, and_true, false_and, or_true, not_true_eq_false, not_false_eq_true, false_implies, forall_const, if_true, if_false, and_self, Nat.reduceEqDiff, Nat.reduceLeDiff, Nat.reduceSub, Nat.reduceAdd, Nat.zero_le, Nat.le_refl, i10, lt_le, Sum.inl.injEq, Option.some.injEq, Value.int.injEq, exists_eq_left', Nat.reduceLT, hAe, kc0, kc17, kc18, kc22, kc30, kn18, kn30, kr0_9, kr17_0, kr22_8, kz, bx0, bx9]
    intro t ht
    first | refine ⟨⟨?_, ?_, ?_, ?_, ?_, ?_, ?_, ?_, ?_, ?_, ?_, ?_⟩, rfl⟩ | refine ⟨?_, ?_, ?_, ?_, ?_, ?_, ?_, ?_, ?_, ?_, ?_, ?_⟩
    · (try simp only [K_pi])
      exact K_pT ht vk
    · (try simp only [Cn_pi_j22 hA, Cn_pT])
      exact vcn
    · (try simp only [Vq0_pi_j22 hA, Vq0_pT])
      exact v0
    · (try simp only [Vq1_pi_j22 hA, Vq1_pT])
      exact v1
    · (try simp only [Vq2_pi_j22 hA, Vq2_pT])
      exact v2
    · (try simp only [Vp_thr hA, Vp_pT])
      exact vp
    · (try simp only [Vl0_pi_j22 hA, Vl0_pT])
      exact vl0
    · (try simp only [Vl1_pi_j22 hA, Vl1_pT])
      exact vl1
    · (try simp only [Vlr_pi_j22 hA, Vlr_pT])
      exact vlr
    · (try simp only [Vsr_pi_j22 hA, Vsr_pT])
      exact vsr
    · (try simp only [Vc_pi_j22 hA, Vc_pT])
      exact vc
    · (try simp only [Tx_pi_j22 hA])
      exact Tx_pT ht tx
  · skip
    have hv : vp_in x 8 := h_in bx0 bx9
    have hc9 := (vc x.toNatClampNeg (h_lt hv)).symm
    simp only [o327_0, o327_1, o327_2, o327_3, o327_6, o327_7, o327_10, o327_13, o327_14, o327_15, o327_16, o327_17, o104_0, o104_1, o104_3, o104_6, o104_7, o104_10, o104_11, o104_14, o238_0, o238_1, o238_2, o238_5, o238_6, o238_8, o238_11, o238_12, o238_15, o238_16, o238_19, o238_22, o238_23, o238_26, o238_27, o238_30, o238_31, o238_32, hx_327_2, c_X8_isThrown__, c_X5_checkChoice, c_X0_told (cs := A 18), mc_pi, mc_pl, mc_pT, mn_pi, mn_pl, mn_pT, mi_pi, mi_pl, mi_pT, ml_pi, ml_pl, ml_pT, mr_pi, mr_pl, mr_pT, mz_pl, mz_pT, mcs_0, mcs_r, Kn_v, Kn_0, Kn_x, mrf_some, true_and, and_true, false_and, and_false, or_false, not_true_eq_false, not_false_eq_true, false_implies, implies_true, forall_const, if_true, if_false, and_self, Nat.reduceEqDiff, Nat.reduceLeDiff, Nat.reduceSub, Nat.reduceAdd, Nat.zero_le, Nat.le_refl, i10, i01, lt_le, Kc_v, Sum.inl.injEq, Option.some.injEq, Value.int.injEq, exists_eq_left', Nat.reduceLT, hAe, kc0, kc17, kc18, kc22, kc30, kc39, kn18, kn30, kr0_9, kr17_0, kr22_8, kz, bx0, bx9, hv, hc9]
    first | refine ⟨⟨?_, ?_, ?_, ?_, ?_, ?_, ?_, ?_, ?_, ?_, ?_, ?_⟩, rfl⟩ | refine ⟨?_, ?_, ?_, ?_, ?_, ?_, ?_, ?_, ?_, ?_, ?_, ?_⟩
    · (try simp only [K_pi, K_pl])
      exact vk
    · (try simp only [Cn_pi_j22 hA, Cn_pl])
      exact vcn
    · (try simp only [Vq0_pi_j22 hA, Vq0_pl])
      exact v0
    · (try simp only [Vq1_pi_j22 hA, Vq1_pl])
      exact v1
    · (try simp only [Vq2_pi_j22 hA, Vq2_pl])
      exact v2
    · (try simp only [Vp_thr hA, Vp_pl])
      exact vp
    · (try simp only [Vl0_pi_j22 hA, Vl0_pl])
      exact vl0
    · (try simp only [Vl1_pi_j22 hA, Vl1_pl])
      exact vl1
    · (try simp only [Vlr_pi_j22 hA, Vlr_pl_j39 hA])
      exact vlr
    · (try simp only [Vsr_pi_j22 hA, Vsr_pl_j39 hA])
      exact vsr
    · (try simp only [Vc_pi_j22 hA, Vc_pl])
      exact vc
    · (try simp only [Tx_pi_j22 hA, Tx_pl])
      exact tx

theorem op_knock {A : Nat → Nat} {h : MH} (R : Rl A h) : Ok 105 0 [.ref (A 0)] [] h 0 0 (fun r h1 => ∃ k : Int32, r = .inl (some (.int k)) ∧ g_c h1 (A 22) = 9 ∧ Ok 239 0 [.ref (A 22)] [] h1 0 0 (fun r2 h2 => ∃ b : Int32, r2 = .inl (some (.int b)) ∧ Rl A h2 ∧ g_i h2 (A 22) 9 = 0 ∧ k = b)) := by
  obtain ⟨vk, vcn, v0, v1, v2, vp, vl0, vl1, vlr, vsr, vc, tx⟩ := R
  have vk0 := vk
  have vcn0 := vcn
  (refine K_el vk0 ?_; intros hA kc0 kc1 kc2 kc3 kc4 kc5 kc6 kc7 kc8 kc9 kc10 kc11 kc12 kc13 kc14 kc15 kc16 kc17 kc18 kc19 kc20 kc21 kc22 kc23 kc24 kc25 kc26 kc27 kc28 kc29 kc30 kc31 kc32 kc33 kc34 kc35 kc36 kc37 kc38 kc39 kz kt kn3 kn4 kn18 kn21 kn23 kn24 kn25 kn26 kn27 kn29 kn30 kr0_0 kr0_1 kr0_2 kr0_3 kr0_4 kr0_5 kr0_7 kr0_8 kr0_9 kr0_10 kr1_0 kr2_0 kr5_0 kr5_1 kr6_0 kr6_1 kr7_0 kr7_1 kr8_0 kr9_0 kr10_0 kr11_0 kr12_0 kr13_0 kr14_0 kr15_0 kr16_0 kr17_0 kr19_0 kr19_1 kr22_0 kr22_1 kr22_2 kr22_3 kr22_4 kr22_5 kr22_7 kr22_8 kr25_0 kr25_1 kr25_2 kr26_0 kr26_1 kr26_2 kr29_0 kr29_1)
  (refine Cn_el vcn0 ?_; intros ki5_2 ki6_2 ki7_2 ki8_1 ki8_2 ki8_3 ki9_1 ki9_2 ki9_3 ki10_1 ki10_2 ki10_3 ki11_1 ki11_2 ki11_3 ki12_1 ki12_2 ki12_3 ki13_1 ki13_2 ki13_3 ki14_1 ki14_2 ki14_3 ki28_0 ki28_1 ki31_0 ki31_1 ki32_0 ki32_1 ki33_0 ki33_1 ki34_0 ki34_1 ki35_0 ki35_1 ki36_0 ki36_1)
  have hAe : ∀ i j, i < 40 → j < 40 → (A i = A j ↔ i = j) := hA
  have hc9 := (vc 7 (by decide)).symm
  simp only [o105_0, o105_1, o105_4, o105_7, o239_0, o239_1, o239_2, o239_5, o239_6, o239_9, o239_11, o239_12, o239_13, o239_14, o239_15, o239_16, o239_17, o239_20, o239_22, o239_23, c_X0_knocked (cs := A 18), mc_pi, mn_pi, mi_pi, mr_pi, mz_pi, mcs_0, Kn_v, mrf_some, kok_0, true_and, and_true, if_true, if_false, and_self, Nat.reduceEqDiff, Nat.zero_le, cl7, Sum.inl.injEq, Option.some.injEq, Value.int.injEq, exists_eq_left', Nat.reduceLT, hAe, kc0, kc17, kc18, kc22, kc30, kn18, kn30, kr0_9, kr17_0, kr22_8, kz, hc9, v78]
  first | refine ⟨⟨?_, ?_, ?_, ?_, ?_, ?_, ?_, ?_, ?_, ?_, ?_, ?_⟩, rfl⟩ | refine ⟨?_, ?_, ?_, ?_, ?_, ?_, ?_, ?_, ?_, ?_, ?_, ?_⟩
  · (try simp only [K_pi])
    exact vk
  · (try simp only [Cn_pi_j18 hA, Cn_pi_j22 hA, Cn_pi_j30 hA])
    exact vcn
  · (try simp only [Vq0_pi_j18 hA, Vq0_pi_j22 hA, Vq0_pi_j30 hA])
    exact v0
  · (try simp only [Vq1_pi_j18 hA, Vq1_pi_j22 hA, Vq1_pi_j30 hA])
    exact v1
  · (try simp only [Vq2_pi_j18 hA, Vq2_pi_j22 hA, Vq2_pi_j30 hA])
    exact v2
  · (try simp only [Vp_pi_j18 hA, Vp_pi_j30 hA, Vp_thr hA])
    exact vp
  · (try simp only [Vl0_pi_j18 hA, Vl0_pi_j22 hA, Vl0_pi_j30 hA])
    exact vl0
  · (try simp only [Vl1_pi_j18 hA, Vl1_pi_j22 hA, Vl1_pi_j30 hA])
    exact vl1
  · (try simp only [Vlr_pi_j18 hA, Vlr_pi_j22 hA, Vlr_pi_j30 hA])
    exact vlr
  · (try simp only [Vsr_pi_j18 hA, Vsr_pi_j22 hA, Vsr_pi_j30 hA])
    exact vsr
  · refine Vc_of (c := 7) vc (by decide) (fun k => ?_) (fun k => ?_) <;> simp only [mi_pi, hAe, Nat.reduceLT, Nat.reduceEqDiff, false_and, true_and, if_false, vc 7 (by decide)]
  · (try simp only [Tx_pi_j18 hA, Tx_pi_j22 hA, Tx_pi_j30 hA])
    exact tx
end

section
/-! THE OPS of the pipe -/
/-- what a state of the pipe is, said of its four numbers -/
def cPS (t : Int32 × Int32 × Int32 × Int32) : Prop := t.1 = Int32.ofNat t.1.toNatClampNeg ∧ (t.2.2.1 = -1 ∨ (t.2.2.1 = Int32.ofNat t.2.2.1.toNatClampNeg ∧ t.2.2.1.toNatClampNeg ≤ t.1.toNatClampNeg)) ∧ ((t.2.2.2 = 0 ∧ t.2.1 = 10 ∧ t.1.toNatClampNeg ≤ 10) ∨ (t.2.2.2 = 1 ∧ t.2.1 = Int32.ofNat t.2.1.toNatClampNeg ∧ t.1.toNatClampNeg ≤ t.2.1.toNatClampNeg ∧ t.2.1.toNatClampNeg ≤ 10))
theorem cPS_mem {t : Int32 × Int32 × Int32 × Int32} (k : cPS t) : t ∈ PS := by
  obtain ⟨p, l, m, d⟩ := t
  obtain ⟨hp, hm, hd⟩ := k
  dsimp only at hp hm hd
  have hm2 : m ∈ (-1 : Int32) :: (List.range (p.toNatClampNeg + 1)).map Int32.ofNat := by
    rcases hm with hm | ⟨e, hm⟩
    · exact List.mem_cons.2 (Or.inl hm)
    · exact List.mem_cons.2 (Or.inr (List.mem_map.2 ⟨m.toNatClampNeg, List.mem_range.2 (by omega), e.symm⟩))
  unfold PS
  rcases hd with ⟨d0, l10, h10⟩ | ⟨d1, hl, hpl, h10⟩
  · exact List.mem_append.2 (Or.inl (List.mem_flatMap.2 ⟨p.toNatClampNeg, List.mem_range.2 (by omega), List.mem_map.2 ⟨m, hm2, Prod.ext hp.symm (Prod.ext l10.symm (Prod.ext rfl d0.symm))⟩⟩))
  · exact List.mem_append.2 (Or.inr (List.mem_flatMap.2 ⟨l.toNatClampNeg, List.mem_range.2 (by omega), List.mem_flatMap.2 ⟨p.toNatClampNeg, List.mem_range.2 (by omega), List.mem_map.2 ⟨m, hm2, Prod.ext hp.symm (Prod.ext hl.symm (Prod.ext rfl d1.symm))⟩⟩⟩))
set_option maxRecDepth 100000 in
theorem pA : ∀ t ∈ PS, ((t.2.2.1 < 0 ∧ t.2.2.1 = -1) ∨ (¬ t.2.2.1 < 0 ∧ ¬ t.2.2.1 = -1)) ∧ (t.2.2.2 = 0 ∨ t.2.2.2 = 1) := by
  (try unfold rdy vp_in)
  decide +kernel
set_option maxRecDepth 100000 in
theorem pF : ∀ t ∈ PS, (t.2.1 - t.1 = 0 ∨ (¬ t.1 < 0 ∧ t.1 < 10 ∧ rdy 36 (1 + t.1) ∧ (1 + t.1, t.2.1, t.2.2.1, t.2.2.2) ∈ PS)) := by
  have z : ∀ t ∈ PS, (t.2.1 - t.1 = 0 ∨ (¬ t.1 < 0 ∧ t.1 < 10 ∧ rdy 36 (1 + t.1) ∧ cPS (1 + t.1, t.2.1, t.2.2.1, t.2.2.2))) := by
    (try unfold rdy vp_in)
    unfold cPS
    decide +kernel
  exact fun t ht => (z t ht).imp_right fun k => ⟨k.1, k.2.1, k.2.2.1, cPS_mem k.2.2.2⟩
set_option maxRecDepth 100000 in
theorem pR : ∀ t ∈ PS, (0, t.2.1, -1, t.2.2.2) ∈ PS := by
  have z : ∀ t ∈ PS, cPS (0, t.2.1, -1, t.2.2.2) := by
    (try unfold rdy vp_in)
    unfold cPS
    decide +kernel
  exact fun t ht => cPS_mem (z t ht)
set_option maxRecDepth 100000 in
theorem pK : ∀ t ∈ PS, (t.1, t.2.1, t.1, t.2.2.2) ∈ PS := by
  have z : ∀ t ∈ PS, cPS (t.1, t.2.1, t.1, t.2.2.2) := by
    (try unfold rdy vp_in)
    unfold cPS
    decide +kernel
  exact fun t ht => cPS_mem (z t ht)
set_option maxRecDepth 100000 in
theorem pB : ∀ t ∈ PS, (t.2.2.1 < 0 ∨ (t.2.2.1, t.2.1, t.2.2.1, t.2.2.2) ∈ PS) := by
  have z : ∀ t ∈ PS, (t.2.2.1 < 0 ∨ cPS (t.2.2.1, t.2.1, t.2.2.1, t.2.2.2)) := by
    (try unfold rdy vp_in)
    unfold cPS
    decide +kernel
  exact fun t ht => (z t ht).imp_right fun k => cPS_mem k
theorem pco (x : Int32) : x + 1 = 1 + x := Int32.add_comm x 1
theorem Cn_14_4 {A : Nat → Nat} {h : MH} {v : Int32} (hA : inj40 A) : Cn A (p_i h (A 14) 4 v) = Cn A h := by
  simp only [Cn, mi_pi, Nat.reduceEqDiff, and_false, if_false, (hA_5_14 hA), (hA_6_14 hA), (hA_7_14 hA), (hA_8_14 hA), (hA_9_14 hA), (hA_10_14 hA), (hA_11_14 hA), (hA_12_14 hA), (hA_13_14 hA), (hA_28_14 hA), (hA_31_14 hA), (hA_32_14 hA), (hA_33_14 hA), (hA_34_14 hA), (hA_35_14 hA), (hA_36_14 hA)]
theorem Cn_14_5 {A : Nat → Nat} {h : MH} {v : Int32} (hA : inj40 A) : Cn A (p_i h (A 14) 5 v) = Cn A h := by
  simp only [Cn, mi_pi, Nat.reduceEqDiff, and_false, if_false, (hA_5_14 hA), (hA_6_14 hA), (hA_7_14 hA), (hA_8_14 hA), (hA_9_14 hA), (hA_10_14 hA), (hA_11_14 hA), (hA_12_14 hA), (hA_13_14 hA), (hA_28_14 hA), (hA_31_14 hA), (hA_32_14 hA), (hA_33_14 hA), (hA_34_14 hA), (hA_35_14 hA), (hA_36_14 hA)]
theorem Cn_14_6 {A : Nat → Nat} {h : MH} {v : Int32} (hA : inj40 A) : Cn A (p_i h (A 14) 6 v) = Cn A h := by
  simp only [Cn, mi_pi, Nat.reduceEqDiff, and_false, if_false, (hA_5_14 hA), (hA_6_14 hA), (hA_7_14 hA), (hA_8_14 hA), (hA_9_14 hA), (hA_10_14 hA), (hA_11_14 hA), (hA_12_14 hA), (hA_13_14 hA), (hA_28_14 hA), (hA_31_14 hA), (hA_32_14 hA), (hA_33_14 hA), (hA_34_14 hA), (hA_35_14 hA), (hA_36_14 hA)]
theorem Cn_28_3 {A : Nat → Nat} {h : MH} {v : Int32} (hA : inj40 A) : Cn A (p_i h (A 28) 3 v) = Cn A h := by
  simp only [Cn, mi_pi, Nat.reduceEqDiff, and_false, if_false, false_and, (hA_5_28 hA), (hA_6_28 hA), (hA_7_28 hA), (hA_8_28 hA), (hA_9_28 hA), (hA_10_28 hA), (hA_11_28 hA), (hA_12_28 hA), (hA_13_28 hA), (hA_14_28 hA), (hA_31_28 hA), (hA_32_28 hA), (hA_33_28 hA), (hA_34_28 hA), (hA_35_28 hA), (hA_36_28 hA)]
theorem Cn_28_4 {A : Nat → Nat} {h : MH} {v : Int32} (hA : inj40 A) : Cn A (p_i h (A 28) 4 v) = Cn A h := by
  simp only [Cn, mi_pi, Nat.reduceEqDiff, and_false, if_false, (hA_5_28 hA), (hA_6_28 hA), (hA_7_28 hA), (hA_8_28 hA), (hA_9_28 hA), (hA_10_28 hA), (hA_11_28 hA), (hA_12_28 hA), (hA_13_28 hA), (hA_14_28 hA), (hA_31_28 hA), (hA_32_28 hA), (hA_33_28 hA), (hA_34_28 hA), (hA_35_28 hA), (hA_36_28 hA)]
theorem Cn_28_5 {A : Nat → Nat} {h : MH} {v : Int32} (hA : inj40 A) : Cn A (p_i h (A 28) 5 v) = Cn A h := by
  simp only [Cn, mi_pi, Nat.reduceEqDiff, and_false, if_false, (hA_5_28 hA), (hA_6_28 hA), (hA_7_28 hA), (hA_8_28 hA), (hA_9_28 hA), (hA_10_28 hA), (hA_11_28 hA), (hA_12_28 hA), (hA_13_28 hA), (hA_14_28 hA), (hA_31_28 hA), (hA_32_28 hA), (hA_33_28 hA), (hA_34_28 hA), (hA_35_28 hA), (hA_36_28 hA)]
end

section
theorem op_again {A : Nat → Nat} {h : MH} (R : Rl A h) : Ok 86 0 [.ref (A 0)] [] h 0 0 (fun r h1 => ∃ k : Int32, r = .inl (some (.int k)) ∧ g_c h1 (A 22) = 9 ∧ Ok 214 0 [.ref (A 22)] [] h1 0 0 (fun r2 h2 => ∃ b : Int32, r2 = .inl (some (.int b)) ∧ Rl A h2 ∧ g_i h2 (A 22) 9 = 0 ∧ k = b)) := by
  obtain ⟨vk, vcn, v0, v1, v2, vp, vl0, vl1, vlr, vsr, vc, tx⟩ := R
  have vk0 := vk
  have vcn0 := vcn
  (refine K_el vk0 ?_; intros hA kc0 kc1 kc2 kc3 kc4 kc5 kc6 kc7 kc8 kc9 kc10 kc11 kc12 kc13 kc14 kc15 kc16 kc17 kc18 kc19 kc20 kc21 kc22 kc23 kc24 kc25 kc26 kc27 kc28 kc29 kc30 kc31 kc32 kc33 kc34 kc35 kc36 kc37 kc38 kc39 kz kt kn3 kn4 kn18 kn21 kn23 kn24 kn25 kn26 kn27 kn29 kn30 kr0_0 kr0_1 kr0_2 kr0_3 kr0_4 kr0_5 kr0_7 kr0_8 kr0_9 kr0_10 kr1_0 kr2_0 kr5_0 kr5_1 kr6_0 kr6_1 kr7_0 kr7_1 kr8_0 kr9_0 kr10_0 kr11_0 kr12_0 kr13_0 kr14_0 kr15_0 kr16_0 kr17_0 kr19_0 kr19_1 kr22_0 kr22_1 kr22_2 kr22_3 kr22_4 kr22_5 kr22_7 kr22_8 kr25_0 kr25_1 kr25_2 kr26_0 kr26_1 kr26_2 kr29_0 kr29_1)
  (refine Cn_el vcn0 ?_; intros ki5_2 ki6_2 ki7_2 ki8_1 ki8_2 ki8_3 ki9_1 ki9_2 ki9_3 ki10_1 ki10_2 ki10_3 ki11_1 ki11_2 ki11_3 ki12_1 ki12_2 ki12_3 ki13_1 ki13_2 ki13_3 ki14_1 ki14_2 ki14_3 ki28_0 ki28_1 ki31_0 ki31_1 ki32_0 ki32_1 ki33_0 ki33_1 ki34_0 ki34_1 ki35_0 ki35_1 ki36_0 ki36_1)
  have hAe : ∀ i j, i < 40 → j < 40 → (A i = A j ↔ i = j) := hA
  have hp2 := vp
  obtain ⟨⟨p1, p2, p3, p4⟩, hpm⟩ := hp2
  replace p1 := p1.symm
  replace p2 := p2.symm
  replace p3 := p3.symm
  replace p4 := p4.symm
  rw [p1, p2, p3, p4] at hpm
  obtain ⟨pm, pd⟩ := pA _ hpm
  simp only at pm pd
  have hq9 := pR _ hpm
  simp only at hq9
  simp only [o86_0, o86_1, o86_4, o86_7, o86_8, o86_11, o86_12, o86_15, o86_18, o86_21, o214_0, o214_1, o214_2, o214_5, o214_6, o214_9, o214_12, o214_13, o214_14, o214_17, o214_20, o214_23, c_X3_rewind, c_X3_rests, c_X7_rests, c_X7_rewound, c_X0_done (cs := A 18), c_X8_done (cs := A 30), mc_pi, mn_pi, mi_pi, mr_pi, mz_pi, mcs_0, mcs_r, Kn_v, Kn_0, mrf_some, kok_0, true_and, and_true, and_false, if_true, if_false, and_self, Nat.reduceEqDiff, Nat.reduceLeDiff, Nat.reduceAdd, Nat.zero_le, Sum.inl.injEq, Option.some.injEq, Value.int.injEq, exists_eq_left', Nat.reduceLT, hAe, kc0, kc14, kc17, kc18, kc22, kc28, kc30, kn18, kn30, kr0_5, kr0_9, kr17_0, kr22_5, kr22_8, kz, p1, p2, pco]
  first | refine ⟨⟨?_, ?_, ?_, ?_, ?_, ?_, ?_, ?_, ?_, ?_, ?_, ?_⟩, rfl⟩ | refine ⟨?_, ?_, ?_, ?_, ?_, ?_, ?_, ?_, ?_, ?_, ?_, ?_⟩
  · (try simp only [K_pi])
    exact vk
  · (try simp only [Cn_pi_j18 hA, Cn_pi_j22 hA, Cn_pi_j30 hA, Cn_14_4 hA, Cn_14_6 hA, Cn_28_3 hA, Cn_28_5 hA])
    exact vcn
  · (try simp only [Vq0_pi_j18 hA, Vq0_pi_j22 hA, Vq0_pi_j30 hA, Vq0_pi_j14 hA, Vq0_pi_j28 hA])
    exact v0
  · (try simp only [Vq1_pi_j18 hA, Vq1_pi_j22 hA, Vq1_pi_j30 hA, Vq1_pi_j14 hA, Vq1_pi_j28 hA])
    exact v1
  · (try simp only [Vq2_pi_j18 hA, Vq2_pi_j22 hA, Vq2_pi_j30 hA, Vq2_pi_j14 hA, Vq2_pi_j28 hA])
    exact v2
  · simp only [Vp, mi_pi, hAe, Nat.reduceLT, Nat.reduceEqDiff, and_false, true_and, and_true, if_false, if_true, p1, p2, p3, p4, true_and, and_self]
    first | exact hq9 | exact ⟨⟨rfl, rfl, rfl, rfl⟩, hq9⟩ | (refine ⟨⟨?_, ?_, ?_, ?_⟩, hq9⟩ <;> first | rfl | trivial)
  · (try simp only [Vl0_pi_j18 hA, Vl0_pi_j22 hA, Vl0_pi_j30 hA, Vl0_pi_j14 hA, Vl0_pi_j28 hA])
    exact vl0
  · (try simp only [Vl1_pi_j18 hA, Vl1_pi_j22 hA, Vl1_pi_j30 hA, Vl1_pi_j14 hA, Vl1_pi_j28 hA])
    exact vl1
  · (try simp only [Vlr_pi_j18 hA, Vlr_pi_j22 hA, Vlr_pi_j30 hA, Vlr_pi_j14 hA, Vlr_pi_j28 hA])
    exact vlr
  · (try simp only [Vsr_pi_j18 hA, Vsr_pi_j22 hA, Vsr_pi_j30 hA, Vsr_pi_j14 hA, Vsr_pi_j28 hA])
    exact vsr
  · refine Vc_of (c := 0) vc (by decide) (fun k => ?_) (fun k => ?_) <;> simp only [mi_pi, hAe, Nat.reduceLT, Nat.reduceEqDiff, false_and, true_and, if_false, pco]
  · (try simp only [Tx_pi_j18 hA, Tx_pi_j22 hA, Tx_pi_j30 hA, Tx_pi_j14 hA, Tx_pi_j28 hA])
    exact tx

theorem op_pipeMark {A : Nat → Nat} {h : MH} (R : Rl A h) : Ok 87 0 [.ref (A 0)] [] h 0 0 (fun r h1 => ∃ k : Int32, r = .inl (some (.int k)) ∧ g_c h1 (A 22) = 9 ∧ Ok 215 0 [.ref (A 22)] [] h1 0 0 (fun r2 h2 => ∃ b : Int32, r2 = .inl (some (.int b)) ∧ Rl A h2 ∧ g_i h2 (A 22) 9 = 0 ∧ k = b)) := by
  obtain ⟨vk, vcn, v0, v1, v2, vp, vl0, vl1, vlr, vsr, vc, tx⟩ := R
  have vk0 := vk
  have vcn0 := vcn
  (refine K_el vk0 ?_; intros hA kc0 kc1 kc2 kc3 kc4 kc5 kc6 kc7 kc8 kc9 kc10 kc11 kc12 kc13 kc14 kc15 kc16 kc17 kc18 kc19 kc20 kc21 kc22 kc23 kc24 kc25 kc26 kc27 kc28 kc29 kc30 kc31 kc32 kc33 kc34 kc35 kc36 kc37 kc38 kc39 kz kt kn3 kn4 kn18 kn21 kn23 kn24 kn25 kn26 kn27 kn29 kn30 kr0_0 kr0_1 kr0_2 kr0_3 kr0_4 kr0_5 kr0_7 kr0_8 kr0_9 kr0_10 kr1_0 kr2_0 kr5_0 kr5_1 kr6_0 kr6_1 kr7_0 kr7_1 kr8_0 kr9_0 kr10_0 kr11_0 kr12_0 kr13_0 kr14_0 kr15_0 kr16_0 kr17_0 kr19_0 kr19_1 kr22_0 kr22_1 kr22_2 kr22_3 kr22_4 kr22_5 kr22_7 kr22_8 kr25_0 kr25_1 kr25_2 kr26_0 kr26_1 kr26_2 kr29_0 kr29_1)
  (refine Cn_el vcn0 ?_; intros ki5_2 ki6_2 ki7_2 ki8_1 ki8_2 ki8_3 ki9_1 ki9_2 ki9_3 ki10_1 ki10_2 ki10_3 ki11_1 ki11_2 ki11_3 ki12_1 ki12_2 ki12_3 ki13_1 ki13_2 ki13_3 ki14_1 ki14_2 ki14_3 ki28_0 ki28_1 ki31_0 ki31_1 ki32_0 ki32_1 ki33_0 ki33_1 ki34_0 ki34_1 ki35_0 ki35_1 ki36_0 ki36_1)
  have hAe : ∀ i j, i < 40 → j < 40 → (A i = A j ↔ i = j) := hA
  have hp2 := vp
  obtain ⟨⟨p1, p2, p3, p4⟩, hpm⟩ := hp2
  replace p1 := p1.symm
  replace p2 := p2.symm
  replace p3 := p3.symm
  replace p4 := p4.symm
  rw [p1, p2, p3, p4] at hpm
  obtain ⟨pm, pd⟩ := pA _ hpm
  simp only at pm pd
  have hq9 := pK _ hpm
  simp only at hq9
  simp only [o87_0, o87_1, o87_4, o87_7, o87_8, o87_11, o87_12, o87_15, o87_18, o87_21, o215_0, o215_1, o215_2, o215_5, o215_6, o215_9, o215_10, o215_13, o215_16, o215_19, o215_20, o215_21, o215_24, o215_27, o215_30, c_X3_setMark, c_X0_done (cs := A 18), c_X8_done (cs := A 30), mc_pi, mn_pi, mi_pi, mr_pi, mz_pi, mcs_0, Kn_v, Kn_0, mrf_some, kok_0, true_and, and_true, if_true, if_false, and_self, Nat.reduceEqDiff, Nat.zero_le, Sum.inl.injEq, Option.some.injEq, Value.int.injEq, exists_eq_left', Nat.reduceLT, hAe, kc0, kc14, kc17, kc18, kc22, kc28, kc30, kn18, kn30, kr0_5, kr0_9, kr17_0, kr22_5, kr22_8, kz, p1, p3, pco]
  first | refine ⟨⟨?_, ?_, ?_, ?_, ?_, ?_, ?_, ?_, ?_, ?_, ?_, ?_⟩, rfl⟩ | refine ⟨?_, ?_, ?_, ?_, ?_, ?_, ?_, ?_, ?_, ?_, ?_, ?_⟩
  · (try simp only [K_pi])
    exact vk
  · (try simp only [Cn_pi_j18 hA, Cn_pi_j22 hA, Cn_pi_j30 hA, Cn_14_6 hA, Cn_28_5 hA])
    exact vcn
  · (try simp only [Vq0_pi_j18 hA, Vq0_pi_j22 hA, Vq0_pi_j30 hA, Vq0_pi_j14 hA, Vq0_pi_j28 hA])
    exact v0
  · (try simp only [Vq1_pi_j18 hA, Vq1_pi_j22 hA, Vq1_pi_j30 hA, Vq1_pi_j14 hA, Vq1_pi_j28 hA])
    exact v1
  · (try simp only [Vq2_pi_j18 hA, Vq2_pi_j22 hA, Vq2_pi_j30 hA, Vq2_pi_j14 hA, Vq2_pi_j28 hA])
    exact v2
  · simp only [Vp, mi_pi, hAe, Nat.reduceLT, Nat.reduceEqDiff, and_false, true_and, and_true, if_false, if_true, p1, p2, p3, p4, true_and, and_self]
    first | exact hq9 | exact ⟨⟨rfl, rfl, rfl, rfl⟩, hq9⟩ | (refine ⟨⟨?_, ?_, ?_, ?_⟩, hq9⟩ <;> first | rfl | trivial)
  · (try simp only [Vl0_pi_j18 hA, Vl0_pi_j22 hA, Vl0_pi_j30 hA, Vl0_pi_j14 hA, Vl0_pi_j28 hA])
    exact vl0
  · (try simp only [Vl1_pi_j18 hA, Vl1_pi_j22 hA, Vl1_pi_j30 hA, Vl1_pi_j14 hA, Vl1_pi_j28 hA])
    exact vl1
  · (try simp only [Vlr_pi_j18 hA, Vlr_pi_j22 hA, Vlr_pi_j30 hA, Vlr_pi_j14 hA, Vlr_pi_j28 hA])
    exact vlr
  · (try simp only [Vsr_pi_j18 hA, Vsr_pi_j22 hA, Vsr_pi_j30 hA, Vsr_pi_j14 hA, Vsr_pi_j28 hA])
    exact vsr
  · refine Vc_of (c := 0) vc (by decide) (fun k => ?_) (fun k => ?_) <;> simp only [mi_pi, hAe, Nat.reduceLT, Nat.reduceEqDiff, false_and, true_and, if_false, pco]
  · (try simp only [Tx_pi_j18 hA, Tx_pi_j22 hA, Tx_pi_j30 hA, Tx_pi_j14 hA, Tx_pi_j28 hA])
    exact tx

theorem op_pipeBack {A : Nat → Nat} {h : MH} (R : Rl A h) : Ok 88 0 [.ref (A 0)] [] h 0 0 (fun r h1 => ∃ k : Int32, r = .inl (some (.int k)) ∧ g_c h1 (A 22) = 9 ∧ Ok 216 0 [.ref (A 22)] [] h1 0 0 (fun r2 h2 => ∃ b : Int32, r2 = .inl (some (.int b)) ∧ Rl A h2 ∧ g_i h2 (A 22) 9 = 0 ∧ k = b)) := by
  obtain ⟨vk, vcn, v0, v1, v2, vp, vl0, vl1, vlr, vsr, vc, tx⟩ := R
  have vk0 := vk
  have vcn0 := vcn
  (refine K_el vk0 ?_; intros hA kc0 kc1 kc2 kc3 kc4 kc5 kc6 kc7 kc8 kc9 kc10 kc11 kc12 kc13 kc14 kc15 kc16 kc17 kc18 kc19 kc20 kc21 kc22 kc23 kc24 kc25 kc26 kc27 kc28 kc29 kc30 kc31 kc32 kc33 kc34 kc35 kc36 kc37 kc38 kc39 kz kt kn3 kn4 kn18 kn21 kn23 kn24 kn25 kn26 kn27 kn29 kn30 kr0_0 kr0_1 kr0_2 kr0_3 kr0_4 kr0_5 kr0_7 kr0_8 kr0_9 kr0_10 kr1_0 kr2_0 kr5_0 kr5_1 kr6_0 kr6_1 kr7_0 kr7_1 kr8_0 kr9_0 kr10_0 kr11_0 kr12_0 kr13_0 kr14_0 kr15_0 kr16_0 kr17_0 kr19_0 kr19_1 kr22_0 kr22_1 kr22_2 kr22_3 kr22_4 kr22_5 kr22_7 kr22_8 kr25_0 kr25_1 kr25_2 kr26_0 kr26_1 kr26_2 kr29_0 kr29_1)
  (refine Cn_el vcn0 ?_; intros ki5_2 ki6_2 ki7_2 ki8_1 ki8_2 ki8_3 ki9_1 ki9_2 ki9_3 ki10_1 ki10_2 ki10_3 ki11_1 ki11_2 ki11_3 ki12_1 ki12_2 ki12_3 ki13_1 ki13_2 ki13_3 ki14_1 ki14_2 ki14_3 ki28_0 ki28_1 ki31_0 ki31_1 ki32_0 ki32_1 ki33_0 ki33_1 ki34_0 ki34_1 ki35_0 ki35_1 ki36_0 ki36_1)
  have hAe : ∀ i j, i < 40 → j < 40 → (A i = A j ↔ i = j) := hA
  have hp2 := vp
  obtain ⟨⟨p1, p2, p3, p4⟩, hpm⟩ := hp2
  replace p1 := p1.symm
  replace p2 := p2.symm
  replace p3 := p3.symm
  replace p4 := p4.symm
  rw [p1, p2, p3, p4] at hpm
  obtain ⟨pm, pd⟩ := pA _ hpm
  simp only at pm pd
  rcases pm with ⟨m1, m2⟩ | ⟨m1, m2⟩
  · skip
    simp only [o88_0, o88_1, o88_4, o88_7, o88_10, o88_11, o88_14, o88_15, o88_18, o88_19, o88_20, o88_23, o216_0, o216_1, o216_2, o216_5, o216_6, o216_9, o216_12, o216_15, o216_16, o216_17, o216_20, o216_21, o216_22, o216_25, o216_26, o216_29, o216_32, o216_35, o216_36, o216_37, o216_40, o216_43, c_X3_hasMark, c_ref_3 (cs := A 18), c_X8_no (cs := A 30), mc_pi, mn_pi, mi_pi, mr_pi, mz_pi, mcs_0, Kn_v, mrf_some, kok_0, true_and, and_true, not_true_eq_false, not_false_eq_true, false_implies, forall_const, if_true, if_false, and_self, Nat.reduceEqDiff, Nat.zero_le, lt_le, Int32.reduceSub, cl3, Sum.inl.injEq, Option.some.injEq, Value.int.injEq, exists_eq_left', Nat.reduceLT, hAe, kc0, kc14, kc17, kc18, kc22, kc28, kc30, kn18, kn30, kr0_5, kr0_9, kr17_0, kr22_5, kr22_8, kz, p1, p3, pco, m2, v18, cl3, m1z]
    first | refine ⟨⟨?_, ?_, ?_, ?_, ?_, ?_, ?_, ?_, ?_, ?_, ?_, ?_⟩, rfl⟩ | refine ⟨?_, ?_, ?_, ?_, ?_, ?_, ?_, ?_, ?_, ?_, ?_, ?_⟩
    · (try simp only [K_pi])
      exact vk
    · (try simp only [Cn_pi_j18 hA, Cn_pi_j22 hA, Cn_pi_j30 hA])
      exact vcn
    · (try simp only [Vq0_pi_j18 hA, Vq0_pi_j22 hA, Vq0_pi_j30 hA])
      exact v0
    · (try simp only [Vq1_pi_j18 hA, Vq1_pi_j22 hA, Vq1_pi_j30 hA])
      exact v1
    · (try simp only [Vq2_pi_j18 hA, Vq2_pi_j22 hA, Vq2_pi_j30 hA])
      exact v2
    · (try simp only [Vp_pi_j18 hA, Vp_pi_j30 hA, Vp_thr hA])
      exact vp
    · (try simp only [Vl0_pi_j18 hA, Vl0_pi_j22 hA, Vl0_pi_j30 hA])
      exact vl0
    · (try simp only [Vl1_pi_j18 hA, Vl1_pi_j22 hA, Vl1_pi_j30 hA])
      exact vl1
    · (try simp only [Vlr_pi_j18 hA, Vlr_pi_j22 hA, Vlr_pi_j30 hA])
      exact vlr
    · (try simp only [Vsr_pi_j18 hA, Vsr_pi_j22 hA, Vsr_pi_j30 hA])
      exact vsr
    · refine Vc_of (c := 3) vc (by decide) (fun k => ?_) (fun k => ?_) <;> simp only [mi_pi, hAe, Nat.reduceLT, Nat.reduceEqDiff, false_and, true_and, if_false, pco]
    · (try simp only [Tx_pi_j18 hA, Tx_pi_j22 hA, Tx_pi_j30 hA])
      exact tx
  · have hq9 := (pB _ hpm).resolve_left m1
    simp only at hq9
    simp only [o88_0, o88_1, o88_4, o88_7, o88_10, o88_11, o88_14, o88_15, o88_19, o88_20, o88_23, o88_26, o88_27, o88_30, o88_31, o88_34, o88_37, o88_40, o216_0, o216_1, o216_2, o216_5, o216_6, o216_9, o216_12, o216_15, o216_16, o216_17, o216_21, o216_22, o216_25, o216_26, o216_29, o216_32, o216_35, o216_36, o216_37, o216_40, o216_43, o216_46, c_X3_hasMark, c_X3_setBack, c_X0_done (cs := A 18), c_X8_done (cs := A 30), mc_pi, mn_pi, mi_pi, mr_pi, mz_pi, mcs_0, Kn_v, Kn_0, mrf_some, kok_0, true_and, and_true, not_true_eq_false, not_false_eq_true, false_implies, forall_const, if_true, if_false, and_self, Nat.reduceEqDiff, Nat.zero_le, i10, lt_le, Sum.inl.injEq, Option.some.injEq, Value.int.injEq, exists_eq_left', Nat.reduceLT, hAe, kc0, kc14, kc17, kc18, kc22, kc28, kc30, kn18, kn30, kr0_5, kr0_9, kr17_0, kr22_5, kr22_8, kz, p1, p3, pco, m1, m2]
    first | refine ⟨⟨?_, ?_, ?_, ?_, ?_, ?_, ?_, ?_, ?_, ?_, ?_, ?_⟩, rfl⟩ | refine ⟨?_, ?_, ?_, ?_, ?_, ?_, ?_, ?_, ?_, ?_, ?_, ?_⟩
    · (try simp only [K_pi])
      exact vk
    · (try simp only [Cn_pi_j18 hA, Cn_pi_j22 hA, Cn_pi_j30 hA, Cn_14_4 hA, Cn_28_3 hA])
      exact vcn
    · (try simp only [Vq0_pi_j18 hA, Vq0_pi_j22 hA, Vq0_pi_j30 hA, Vq0_pi_j14 hA, Vq0_pi_j28 hA])
      exact v0
    · (try simp only [Vq1_pi_j18 hA, Vq1_pi_j22 hA, Vq1_pi_j30 hA, Vq1_pi_j14 hA, Vq1_pi_j28 hA])
      exact v1
    · (try simp only [Vq2_pi_j18 hA, Vq2_pi_j22 hA, Vq2_pi_j30 hA, Vq2_pi_j14 hA, Vq2_pi_j28 hA])
      exact v2
    · simp only [Vp, mi_pi, hAe, Nat.reduceLT, Nat.reduceEqDiff, and_false, true_and, and_true, if_false, if_true, p1, p2, p3, p4, true_and, and_self]
      first | exact hq9 | exact ⟨⟨rfl, rfl, rfl, rfl⟩, hq9⟩ | (refine ⟨⟨?_, ?_, ?_, ?_⟩, hq9⟩ <;> first | rfl | trivial)
    · (try simp only [Vl0_pi_j18 hA, Vl0_pi_j22 hA, Vl0_pi_j30 hA, Vl0_pi_j14 hA, Vl0_pi_j28 hA])
      exact vl0
    · (try simp only [Vl1_pi_j18 hA, Vl1_pi_j22 hA, Vl1_pi_j30 hA, Vl1_pi_j14 hA, Vl1_pi_j28 hA])
      exact vl1
    · (try simp only [Vlr_pi_j18 hA, Vlr_pi_j22 hA, Vlr_pi_j30 hA, Vlr_pi_j14 hA, Vlr_pi_j28 hA])
      exact vlr
    · (try simp only [Vsr_pi_j18 hA, Vsr_pi_j22 hA, Vsr_pi_j30 hA, Vsr_pi_j14 hA, Vsr_pi_j28 hA])
      exact vsr
    · refine Vc_of (c := 0) vc (by decide) (fun k => ?_) (fun k => ?_) <;> simp only [mi_pi, hAe, Nat.reduceLT, Nat.reduceEqDiff, false_and, true_and, if_false, pco]
    · (try simp only [Tx_pi_j18 hA, Tx_pi_j22 hA, Tx_pi_j30 hA, Tx_pi_j14 hA, Tx_pi_j28 hA])
      exact tx
end

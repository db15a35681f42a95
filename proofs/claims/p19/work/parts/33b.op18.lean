theorem qpe : ((0 : Int32) = 1) = False ∧ ((0 : Int32) = 2) = False ∧ ((1 : Int32) = 0) = False ∧ ((1 : Int32) = 2) = False ∧ ((2 : Int32) = 0) = False ∧ ((2 : Int32) = 1) = False := ⟨by decide, by decide, by decide, by decide, by decide, by decide⟩
theorem hx_304_1 {l rest : List Value} {bc bs : Nat} {Q : MR → MH → Prop} {h : MH} : Kc Ok 304 4 7 l rest bc bs Q (.inr 1) h ↔ ∀ q : Nat, Ok 304 14 l [.ref q] h bc bs Q := Kc_x (by decide +kernel) (by decide +kernel)
theorem hx_304_2 {l rest : List Value} {bc bs : Nat} {Q : MR → MH → Prop} {h : MH} : Kc Ok 304 4 7 l rest bc bs Q (.inr 2) h ↔ ∀ q : Nat, Ok 304 18 l [.ref q] h bc bs Q := Kc_x (by decide +kernel) (by decide +kernel)
set_option maxHeartbeats 8000000 in
theorem op_pass {A : Nat → Nat} {h : MH} (R : Rl A h) {q p : Int32} : Ok 304 0 [.ref (A 0), .int q, .int p, .ref (A 39), mk0] [] h 3 18 (fun r h1 => ∃ k : Int32, r = .inl (some (.int k)) ∧ g_c h1 (A 22) = 9 ∧ Ok 197 0 [.ref (A 22), .int q, .int p, mk0] [] h1 0 0 (fun r2 h2 => ∃ b : Int32, r2 = .inl (some (.int b)) ∧ Rl A h2 ∧ g_i h2 (A 22) 9 = k ∧ (k = 0 → g_l h2 (A 39) 0 = b.toInt64))) := by
  obtain ⟨vk, vcn, v0, v1, v2, vp, vl0, vl1, vlr, vsr, vc, tx⟩ := R
  have vk0 := vk
  have vcn0 := vcn
  (refine K_el vk0 ?_; intros hA kc0 kc1 kc2 kc3 kc4 kc5 kc6 kc7 kc8 kc9 kc10 kc11 kc12 kc13 kc14 kc15 kc16 kc17 kc18 kc19 kc20 kc21 kc22 kc23 kc24 kc25 kc26 kc27 kc28 kc29 kc30 kc31 kc32 kc33 kc34 kc35 kc36 kc37 kc38 kc39 kz kt kn3 kn4 kn18 kn21 kn23 kn24 kn25 kn26 kn27 kn29 kn30 kr0_0 kr0_1 kr0_2 kr0_3 kr0_4 kr0_5 kr0_7 kr0_8 kr0_9 kr0_10 kr1_0 kr2_0 kr5_0 kr5_1 kr6_0 kr6_1 kr7_0 kr7_1 kr8_0 kr9_0 kr10_0 kr11_0 kr12_0 kr13_0 kr14_0 kr15_0 kr16_0 kr17_0 kr19_0 kr19_1 kr22_0 kr22_1 kr22_2 kr22_3 kr22_4 kr22_5 kr22_7 kr22_8 kr25_0 kr25_1 kr25_2 kr26_0 kr26_1 kr26_2 kr29_0 kr29_1)
  (refine Cn_el vcn0 ?_; intros ki5_2 ki6_2 ki7_2 ki8_1 ki8_2 ki8_3 ki9_1 ki9_2 ki9_3 ki10_1 ki10_2 ki10_3 ki11_1 ki11_2 ki11_3 ki12_1 ki12_2 ki12_3 ki13_1 ki13_2 ki13_3 ki14_1 ki14_2 ki14_3 ki28_0 ki28_1 ki31_0 ki31_1 ki32_0 ki32_1 ki33_0 ki33_1 ki34_0 ki34_1 ki35_0 ki35_1 ki36_0 ki36_1)
  have hAe : ∀ i j, i < 40 → j < 40 → (A i = A j ↔ i = j) := hA
  by_cases bp : p < 0 ∨ ¬ p < 3
  · have bp2 : (¬ p < 0 ∧ p < 3) = False := nrng bp
    by_cases bq : q < 0 ∨ ¬ q < 3
    · have bq2 : (¬ q < 0 ∧ q < 3) = False := nrng bq
      by_cases ee : q = p
      · subst ee
        simp only [o304_0, o304_1, o304_2, o304_3, o304_4, o304_14, o304_16, o304_17, o73_0, o73_1, o73_2, o197_0, o197_1, o197_2, o197_5, o197_8, o197_9, o197_12, o197_15, o197_16, o197_19, o197_20, o197_21, o197_22, o197_25, o197_26, o197_29, o197_30, o197_33, o197_36, o197_37, o197_38, o197_39, o197_40, o197_41, o197_44, o197_45, hx_304_1, c_X8_isThrown_, c_X8_isQueue, c_queueOf_bad, mc_pi, mc_pT, mn_pi, mn_pT, mi_pi, mi_pT, ml_pi, ml_pT, mr_pi, mr_pT, mz_pT, mcs_0, mcs_r, Kn_v, Kn_x, mrf_some, true_and, and_true, not_true_eq_false, not_false_eq_true, false_implies, forall_const, if_true, if_false, and_self, Nat.reduceLeDiff, Nat.reduceSub, Nat.reduceAdd, Nat.zero_le, Nat.le_refl, i10, Sum.inl.injEq, Option.some.injEq, Value.int.injEq, exists_eq_left', Nat.reduceLT, kc0, kc22, kc26, kn26, kr22_3, kz, bq, bq2]
        intro t ht
        first | refine ⟨⟨?_, ?_, ?_, ?_, ?_, ?_, ?_, ?_, ?_, ?_, ?_, ?_⟩, rfl⟩ | refine ⟨?_, ?_, ?_, ?_, ?_, ?_, ?_, ?_, ?_, ?_, ?_, ?_⟩
        · (try simp only [K_pi])
          exact K_pT ht vk
        · (try simp only [Cn_pi_j22 hA, Cn_pT])
          exact vcn
        · (try simp only [Vq0_pi_j22 hA, Vq0_pT])
          exact v0
        · (try simp only [Vq1_pi_j22 hA, Vq1_pT])
          exact v1
        · (try simp only [Vq2_pi_j22 hA, Vq2_pT])
          exact v2
        · (try simp only [Vp_thr hA, Vp_pT])
          exact vp
        · (try simp only [Vl0_pi_j22 hA, Vl0_pT])
          exact vl0
        · (try simp only [Vl1_pi_j22 hA, Vl1_pT])
          exact vl1
        · (try simp only [Vlr_pi_j22 hA, Vlr_pT])
          exact vlr
        · (try simp only [Vsr_pi_j22 hA, Vsr_pT])
          exact vsr
        · (try simp only [Vc_pi_j22 hA, Vc_pT])
          exact vc
        · (try simp only [Tx_pi_j22 hA])
          exact Tx_pT ht tx
      · skip
        simp only [o304_0, o304_1, o304_2, o304_3, o304_4, o304_14, o304_16, o304_17, o73_0, o73_1, o73_2, o197_0, o197_1, o197_2, o197_5, o197_8, o197_9, o197_12, o197_15, o197_16, o197_19, o197_20, o197_21, o197_22, o197_25, o197_26, o197_29, o197_30, o197_33, o197_36, o197_37, o197_38, o197_39, o197_40, o197_41, o197_44, o197_45, hx_304_1, c_X8_isThrown_, c_X8_isQueue, c_queueOf_bad, mc_pi, mc_pT, mn_pi, mn_pT, mi_pi, mi_pT, ml_pi, ml_pT, mr_pi, mr_pT, mz_pT, mcs_0, mcs_r, Kn_v, Kn_x, mrf_some, true_and, and_true, not_true_eq_false, not_false_eq_true, false_implies, forall_const, if_true, if_false, and_self, Nat.reduceLeDiff, Nat.reduceSub, Nat.reduceAdd, Nat.zero_le, Nat.le_refl, i10, Sum.inl.injEq, Option.some.injEq, Value.int.injEq, exists_eq_left', Nat.reduceLT, kc0, kc22, kc26, kn26, kr22_3, kz, bq, bq2, bp2, ee]
        intro t ht
        first | refine ⟨⟨?_, ?_, ?_, ?_, ?_, ?_, ?_, ?_, ?_, ?_, ?_, ?_⟩, rfl⟩ | refine ⟨?_, ?_, ?_, ?_, ?_, ?_, ?_, ?_, ?_, ?_, ?_, ?_⟩
        · (try simp only [K_pi])
          exact K_pT ht vk
        · (try simp only [Cn_pi_j22 hA, Cn_pT])
          exact vcn
        · (try simp only [Vq0_pi_j22 hA, Vq0_pT])
          exact v0
        · (try simp only [Vq1_pi_j22 hA, Vq1_pT])
          exact v1
        · (try simp only [Vq2_pi_j22 hA, Vq2_pT])
          exact v2
        · (try simp only [Vp_thr hA, Vp_pT])
          exact vp
        · (try simp only [Vl0_pi_j22 hA, Vl0_pT])
          exact vl0
        · (try simp only [Vl1_pi_j22 hA, Vl1_pT])
          exact vl1
        · (try simp only [Vlr_pi_j22 hA, Vlr_pT])
          exact vlr
        · (try simp only [Vsr_pi_j22 hA, Vsr_pT])
          exact vsr
        · (try simp only [Vc_pi_j22 hA, Vc_pT])
          exact vc
        · (try simp only [Tx_pi_j22 hA])
          exact Tx_pT ht tx
    · have y1 : ¬ q < 0 := fun z => bq (Or.inl z)
      have y2 : q < 3 := Classical.byContradiction fun z => bq (Or.inr z)
      have bq2 : (¬ q < 0 ∧ q < 3) = True := eq_true ⟨y1, y2⟩
      rcases q_cases y1 y2 with rfl | rfl | rfl
      · have ee : ((0 : Int32) = p) = False := eq_false (fun z => by rw [← z] at bp; exact absurd bp (by decide))
        simp only [o304_0, o304_1, o304_2, o304_3, o304_4, o304_14, o304_16, o304_17, o73_0, o73_1, o73_2, o73_5, o73_6, o73_7, o73_8, o197_0, o197_1, o197_2, o197_5, o197_8, o197_9, o197_12, o197_15, o197_16, o197_19, o197_20, o197_21, o197_22, o197_25, o197_26, o197_29, o197_30, o197_33, o197_36, o197_37, o197_38, o197_39, o197_40, o197_41, o197_44, o197_45, o197_46, hx_304_1, c_X8_isThrown_, c_X8_isQueue, c_queueOf_bad, c_queueOf_0, mc_pi, mc_pT, mn_pi, mn_pT, mi_pi, mi_pT, ml_pi, ml_pT, mr_pi, mr_pT, mz_pT, mcs_0, mcs_r, Kn_v, Kn_x, mrf_some, true_and, and_true, not_true_eq_false, not_false_eq_true, false_implies, forall_const, if_true, if_false, and_self, Nat.reduceLeDiff, Nat.reduceSub, Nat.reduceAdd, Nat.zero_le, Nat.le_refl, i10, Int32.reduceLT, cl0, Sum.inl.injEq, Option.some.injEq, Value.int.injEq, exists_eq_left', Nat.reduceLT, kc0, kc22, kc26, kc34, kn26, kr0_2, kr22_3, kr26_0, kz, bp, bp2, ee, vq3]
        intro t ht
        first | refine ⟨⟨?_, ?_, ?_, ?_, ?_, ?_, ?_, ?_, ?_, ?_, ?_, ?_⟩, rfl⟩ | refine ⟨?_, ?_, ?_, ?_, ?_, ?_, ?_, ?_, ?_, ?_, ?_, ?_⟩
        · (try simp only [K_pi])
          exact K_pT ht vk
        · (try simp only [Cn_pi_j22 hA, Cn_pT])
          exact vcn
        · (try simp only [Vq0_pi_j22 hA, Vq0_pT])
          exact v0
        · (try simp only [Vq1_pi_j22 hA, Vq1_pT])
          exact v1
        · (try simp only [Vq2_pi_j22 hA, Vq2_pT])
          exact v2
        · (try simp only [Vp_thr hA, Vp_pT])
          exact vp
        · (try simp only [Vl0_pi_j22 hA, Vl0_pT])
          exact vl0
        · (try simp only [Vl1_pi_j22 hA, Vl1_pT])
          exact vl1
        · (try simp only [Vlr_pi_j22 hA, Vlr_pT])
          exact vlr
        · (try simp only [Vsr_pi_j22 hA, Vsr_pT])
          exact vsr
        · (try simp only [Vc_pi_j22 hA, Vc_pT])
          exact vc
        · (try simp only [Tx_pi_j22 hA])
          exact Tx_pT ht tx
      · have ee : ((1 : Int32) = p) = False := eq_false (fun z => by rw [← z] at bp; exact absurd bp (by decide))
        simp only [o304_0, o304_1, o304_2, o304_3, o304_4, o304_14, o304_16, o304_17, o73_0, o73_1, o73_2, o73_5, o73_6, o73_7, o73_8, o197_0, o197_1, o197_2, o197_5, o197_8, o197_9, o197_12, o197_15, o197_16, o197_19, o197_20, o197_21, o197_22, o197_25, o197_26, o197_29, o197_30, o197_33, o197_36, o197_37, o197_38, o197_39, o197_40, o197_41, o197_44, o197_45, o197_46, hx_304_1, c_X8_isThrown_, c_X8_isQueue, c_queueOf_bad, c_queueOf_1, mc_pi, mc_pT, mn_pi, mn_pT, mi_pi, mi_pT, ml_pi, ml_pT, mr_pi, mr_pT, mz_pT, mcs_0, mcs_r, Kn_v, Kn_x, mrf_some, true_and, and_true, not_true_eq_false, not_false_eq_true, false_implies, forall_const, if_true, if_false, and_self, Nat.reduceLeDiff, Nat.reduceSub, Nat.reduceAdd, Nat.zero_le, Nat.le_refl, i10, Int32.reduceLT, cl1, Sum.inl.injEq, Option.some.injEq, Value.int.injEq, exists_eq_left', Nat.reduceLT, kc0, kc22, kc26, kc35, kn26, kr0_3, kr22_3, kr26_1, kz, bp, bp2, ee, vq3]
        intro t ht
        first | refine ⟨⟨?_, ?_, ?_, ?_, ?_, ?_, ?_, ?_, ?_, ?_, ?_, ?_⟩, rfl⟩ | refine ⟨?_, ?_, ?_, ?_, ?_, ?_, ?_, ?_, ?_, ?_, ?_, ?_⟩
        · (try simp only [K_pi])
          exact K_pT ht vk
        · (try simp only [Cn_pi_j22 hA, Cn_pT])
          exact vcn
        · (try simp only [Vq0_pi_j22 hA, Vq0_pT])
          exact v0
        · (try simp only [Vq1_pi_j22 hA, Vq1_pT])
          exact v1
        · (try simp only [Vq2_pi_j22 hA, Vq2_pT])
          exact v2
        · (try simp only [Vp_thr hA, Vp_pT])
          exact vp
        · (try simp only [Vl0_pi_j22 hA, Vl0_pT])
          exact vl0
        · (try simp only [Vl1_pi_j22 hA, Vl1_pT])
          exact vl1
        · (try simp only [Vlr_pi_j22 hA, Vlr_pT])
          exact vlr
        · (try simp only [Vsr_pi_j22 hA, Vsr_pT])
          exact vsr
        · (try simp only [Vc_pi_j22 hA, Vc_pT])
          exact vc
        · (try simp only [Tx_pi_j22 hA])
          exact Tx_pT ht tx
      · have ee : ((2 : Int32) = p) = False := eq_false (fun z => by rw [← z] at bp; exact absurd bp (by decide))
        simp only [o304_0, o304_1, o304_2, o304_3, o304_4, o304_14, o304_16, o304_17, o73_0, o73_1, o73_2, o73_5, o73_6, o73_7, o73_8, o197_0, o197_1, o197_2, o197_5, o197_8, o197_9, o197_12, o197_15, o197_16, o197_19, o197_20, o197_21, o197_22, o197_25, o197_26, o197_29, o197_30, o197_33, o197_36, o197_37, o197_38, o197_39, o197_40, o197_41, o197_44, o197_45, o197_46, hx_304_1, c_X8_isThrown_, c_X8_isQueue, c_queueOf_bad, c_queueOf_2, mc_pi, mc_pT, mn_pi, mn_pT, mi_pi, mi_pT, ml_pi, ml_pT, mr_pi, mr_pT, mz_pT, mcs_0, mcs_r, Kn_v, Kn_x, mrf_some, true_and, and_true, not_true_eq_false, not_false_eq_true, false_implies, forall_const, if_true, if_false, and_self, Nat.reduceLeDiff, Nat.reduceSub, Nat.reduceAdd, Nat.zero_le, Nat.le_refl, i10, Int32.reduceLT, cl2, Sum.inl.injEq, Option.some.injEq, Value.int.injEq, exists_eq_left', Nat.reduceLT, kc0, kc22, kc26, kc36, kn26, kr0_4, kr22_3, kr26_2, kz, bp, bp2, ee, vq3]
        intro t ht
        first | refine ⟨⟨?_, ?_, ?_, ?_, ?_, ?_, ?_, ?_, ?_, ?_, ?_, ?_⟩, rfl⟩ | refine ⟨?_, ?_, ?_, ?_, ?_, ?_, ?_, ?_, ?_, ?_, ?_, ?_⟩
        · (try simp only [K_pi])
          exact K_pT ht vk
        · (try simp only [Cn_pi_j22 hA, Cn_pT])
          exact vcn
        · (try simp only [Vq0_pi_j22 hA, Vq0_pT])
          exact v0
        · (try simp only [Vq1_pi_j22 hA, Vq1_pT])
          exact v1
        · (try simp only [Vq2_pi_j22 hA, Vq2_pT])
          exact v2
        · (try simp only [Vp_thr hA, Vp_pT])
          exact vp
        · (try simp only [Vl0_pi_j22 hA, Vl0_pT])
          exact vl0
        · (try simp only [Vl1_pi_j22 hA, Vl1_pT])
          exact vl1
        · (try simp only [Vlr_pi_j22 hA, Vlr_pT])
          exact vlr
        · (try simp only [Vsr_pi_j22 hA, Vsr_pT])
          exact vsr
        · (try simp only [Vc_pi_j22 hA, Vc_pT])
          exact vc
        · (try simp only [Tx_pi_j22 hA])
          exact Tx_pT ht tx
  · have y3 : ¬ p < 0 := fun z => bp (Or.inl z)
    have y4 : p < 3 := Classical.byContradiction fun z => bp (Or.inr z)
    have bp2 : (¬ p < 0 ∧ p < 3) = True := eq_true ⟨y3, y4⟩
    by_cases bq : q < 0 ∨ ¬ q < 3
    · have bq2 : (¬ q < 0 ∧ q < 3) = False := nrng bq
      have ee : (q = p) = False := eq_false (fun z => bp (z ▸ bq))
      simp only [o304_0, o304_1, o304_2, o304_3, o304_4, o304_14, o304_16, o304_17, o73_0, o73_1, o73_2, o197_0, o197_1, o197_2, o197_5, o197_8, o197_9, o197_12, o197_15, o197_16, o197_19, o197_20, o197_21, o197_22, o197_25, o197_26, o197_29, o197_30, o197_33, o197_36, o197_37, o197_38, o197_39, o197_40, o197_41, o197_44, o197_45, hx_304_1, c_X8_isThrown_, c_X8_isQueue, c_queueOf_bad, mc_pi, mc_pT, mn_pi, mn_pT, mi_pi, mi_pT, ml_pi, ml_pT, mr_pi, mr_pT, mz_pT, mcs_0, mcs_r, Kn_v, Kn_x, mrf_some, true_and, and_true, not_true_eq_false, not_false_eq_true, false_implies, forall_const, if_true, if_false, and_self, Nat.reduceLeDiff, Nat.reduceSub, Nat.reduceAdd, Nat.zero_le, Nat.le_refl, i10, Sum.inl.injEq, Option.some.injEq, Value.int.injEq, exists_eq_left', Nat.reduceLT, kc0, kc22, kc26, kn26, kr22_3, kz, bq, bq2, bp2, ee]
      intro t ht
      first | refine ⟨⟨?_, ?_, ?_, ?_, ?_, ?_, ?_, ?_, ?_, ?_, ?_, ?_⟩, rfl⟩ | refine ⟨?_, ?_, ?_, ?_, ?_, ?_, ?_, ?_, ?_, ?_, ?_, ?_⟩
      · (try simp only [K_pi])
        exact K_pT ht vk
      · (try simp only [Cn_pi_j22 hA, Cn_pT])
        exact vcn
      · (try simp only [Vq0_pi_j22 hA, Vq0_pT])
        exact v0
      · (try simp only [Vq1_pi_j22 hA, Vq1_pT])
        exact v1
      · (try simp only [Vq2_pi_j22 hA, Vq2_pT])
        exact v2
      · (try simp only [Vp_thr hA, Vp_pT])
        exact vp
      · (try simp only [Vl0_pi_j22 hA, Vl0_pT])
        exact vl0
      · (try simp only [Vl1_pi_j22 hA, Vl1_pT])
        exact vl1
      · (try simp only [Vlr_pi_j22 hA, Vlr_pT])
        exact vlr
      · (try simp only [Vsr_pi_j22 hA, Vsr_pT])
        exact vsr
      · (try simp only [Vc_pi_j22 hA, Vc_pT])
        exact vc
      · (try simp only [Tx_pi_j22 hA])
        exact Tx_pT ht tx
    · have y1 : ¬ q < 0 := fun z => bq (Or.inl z)
      have y2 : q < 3 := Classical.byContradiction fun z => bq (Or.inr z)
      have bq2 : (¬ q < 0 ∧ q < 3) = True := eq_true ⟨y1, y2⟩
      rcases q_cases y1 y2 with rfl | rfl | rfl
      · rcases q_cases y3 y4 with rfl | rfl | rfl
        · skip
          simp only [o304_0, o304_1, o304_2, o304_3, o304_4, o304_18, o304_20, o304_21, o73_0, o73_1, o73_2, o73_5, o73_6, o73_7, o73_8, o73_11, o73_13, o73_14, o73_15, o73_18, o73_28, o73_29, o197_0, o197_1, o197_2, o197_5, o197_8, o197_9, o197_12, o197_15, o197_16, o197_19, o197_20, o197_21, o197_22, o197_25, o197_26, o197_29, o197_30, o197_33, o197_36, o197_37, o197_38, o197_39, o197_40, o197_41, o197_44, o197_45, o197_46, hx_304_2, c_X8_isThrown_, c_X8_isQueue, c_queueOf_0, mc_pi, mc_pT, mn_pi, mn_pT, mi_pi, mi_pT, ml_pi, ml_pT, mr_pi, mr_pT, mz_pT, mcs_0, mcs_r, Kn_v, mrf_some, true_and, and_true, and_false, not_true_eq_false, not_false_eq_true, false_implies, forall_const, if_true, if_false, and_self, Nat.reduceLeDiff, Nat.reduceSub, Nat.reduceAdd, Nat.zero_le, Nat.le_refl, i10, Int32.reduceLT, cl0, Sum.inl.injEq, Option.some.injEq, Value.int.injEq, exists_eq_left', Nat.reduceLT, i20, kc0, kc5, kc22, kc26, kc34, kn26, kr0_2, kr22_3, kr26_0, kz, vq3]
          intro t ht
          first | refine ⟨⟨?_, ?_, ?_, ?_, ?_, ?_, ?_, ?_, ?_, ?_, ?_, ?_⟩, rfl⟩ | refine ⟨?_, ?_, ?_, ?_, ?_, ?_, ?_, ?_, ?_, ?_, ?_, ?_⟩
          · (try simp only [K_pi])
            exact K_pT ht vk
          · (try simp only [Cn_pi_j22 hA, Cn_pT])
            exact vcn
          · (try simp only [Vq0_pi_j22 hA, Vq0_pT])
            exact v0
          · (try simp only [Vq1_pi_j22 hA, Vq1_pT])
            exact v1
          · (try simp only [Vq2_pi_j22 hA, Vq2_pT])
            exact v2
          · (try simp only [Vp_thr hA, Vp_pT])
            exact vp
          · (try simp only [Vl0_pi_j22 hA, Vl0_pT])
            exact vl0
          · (try simp only [Vl1_pi_j22 hA, Vl1_pT])
            exact vl1
          · (try simp only [Vlr_pi_j22 hA, Vlr_pT])
            exact vlr
          · (try simp only [Vsr_pi_j22 hA, Vsr_pT])
            exact vsr
          · (try simp only [Vc_pi_j22 hA, Vc_pT])
            exact vc
          · (try simp only [Tx_pi_j22 hA])
            exact Tx_pT ht tx
        · obtain ⟨N, t2, u2, rc2, rm2, a1, a2, a3, a4, a5⟩ := pas01 vk vcn v0.2 v1.2 vlr
          have hTi := v0.1.symm
          have hTj := v1.1.symm
          replace a5 := fun (m : MH) (Q : MR → MH → Prop) => a5 m Q
          simp only [o304_0, o304_1, o304_2, o304_3, o304_4, o304_7, o304_8, o304_11, o304_18, o304_20, o304_21, o304_22, o304_23, o73_0, o73_1, o73_2, o73_5, o73_6, o73_7, o73_8, o73_11, o73_13, o73_14, o73_15, o73_18, o73_28, o73_29, o73_32, o73_34, o73_35, o73_67, o73_68, o73_71, o73_73, o73_76, o197_0, o197_1, o197_2, o197_5, o197_8, o197_9, o197_12, o197_15, o197_16, o197_19, o197_20, o197_21, o197_22, o197_25, o197_26, o197_29, o197_30, o197_33, o197_36, o197_37, o197_38, o197_39, o197_80, o197_81, o197_82, o197_85, hx_304_2, c_X8_isThrown_, c_X8_isQueue, c_queueOf_0, c_queueOf_1, c_X1_lying (w := A 8) (r := A 9), c_X0_done (cs := A 18), c_X8_done (cs := A 30), a4, a5, mc_pi, mc_pl, mc_pT, mn_pi, mn_pl, mi_pi, mi_pl, mi_pT, ml_pi, ml_pl, ml_pT, mr_pi, mr_pl, mz_pi, mz_pl, mz_pT, mcs_0, mcs_r, Kn_v, mrf_some, true_and, and_true, false_and, not_true_eq_false, not_false_eq_true, false_implies, implies_true, forall_const, if_true, if_false, and_self, Nat.reduceEqDiff, Nat.reduceLeDiff, Nat.reduceSub, Nat.reduceAdd, Nat.zero_le, Nat.le_refl, i10, i01, Int32.reduceLT, Kc_v, Sum.inl.injEq, Option.some.injEq, Value.int.injEq, exists_eq_left', Nat.reduceLT, hAe, i20, kc0, kc5, kc8, kc9, kc17, kc18, kc22, kc30, kc39, kn18, kn30, kr0_2, kr0_3, kr0_9, kr5_0, kr5_1, kr17_0, kr22_8, kz, hTi, hTj, icw0_j18 hA, icw0_j22 hA, imw0_j22 hA, icw0_j30 hA, imw0_j30 hA, icw1_j18 hA, icw1_j22 hA, imw1_j22 hA, icw1_j30 hA, imw1_j30 hA, c_cW, n_cW, r_cW, z_cW, l_cW, c_mW, n_mW, r_mW, z_mW, l_mW, pL_c, pL_n, pL_r, pL_i, pL_z, pL_l, K_pi, K_pl, K_cW, K_pL, Cn_pi_j18 hA, Cn_pi_j22 hA, Cn_pl, Cn_cW0 hA, Cn_cW1 hA, Cn_pL3 hA, vk, vcn, mT0_pi_j18 hA, mT0_pi_j22 hA, mT0_pl, mT0_cW hA, l_cW, l_mW, mT1_pi_j18 hA, mT1_pi_j22 hA, mT1_pl, mT1_cW hA, mT_pL, mT0_cW hA, mT1_cW hA, mTx0_cW1 hA, mTx1_cW0 hA]
          first | refine ⟨⟨?_, ?_, ?_, ?_, ?_, ?_, ?_, ?_, ?_, ?_, ?_, ?_⟩, rfl⟩ | refine ⟨?_, ?_, ?_, ?_, ?_, ?_, ?_, ?_, ?_, ?_, ?_, ?_⟩
          · (try simp only [K_pi, K_pl, K_cW, K_mW, K_pL])
            exact vk
          · (try simp only [Cn_pi_j18 hA, Cn_pi_j22 hA, Cn_pi_j30 hA, Cn_pl, Cn_cW0 hA, Cn_cW1 hA, Cn_mW0 hA, Cn_mW1 hA, Cn_pL3 hA, Cn_pL23 hA])
            exact vcn
          · simp only [Vq0_pi_j30 hA, Vq0_mW1 hA, Vq0_mW1 hA, Vq0_mW hA, cT_pL, cT0_pi_j18 hA, cT0_pi_j22 hA, cT0_pl, cT0_cW hA, cT0_cW1 hA]
            exact ⟨trivial, a1⟩
          · simp only [Vq1_pi_j30 hA, Vq1_mW hA, cT_pL, cT1_pi_j18 hA, cT1_pi_j22 hA, cT1_pl, cT1_cW hA, cT1_mWo0 hA]
            exact ⟨trivial, a2⟩
          · (try simp only [Vq2_pi_j18 hA, Vq2_pi_j22 hA, Vq2_pi_j30 hA, Vq2_pl, Vq2_cW0 hA, Vq2_cW1 hA, Vq2_mW0 hA, Vq2_mW1 hA, Vq2_pL3 hA, Vq2_pL23 hA])
            exact v2
          · (try simp only [Vp_pi_j18 hA, Vp_pi_j30 hA, Vp_thr hA, Vp_pl, Vp_cW0 hA, Vp_cW1 hA, Vp_mW0 hA, Vp_mW1 hA, Vp_pL3 hA, Vp_pL23 hA])
            exact vp
          · (try simp only [Vl0_pi_j18 hA, Vl0_pi_j22 hA, Vl0_pi_j30 hA, Vl0_pl, Vl0_cW0 hA, Vl0_cW1 hA, Vl0_mW0 hA, Vl0_mW1 hA, Vl0_pL3 hA, Vl0_pL23 hA])
            exact vl0
          · (try simp only [Vl1_pi_j18 hA, Vl1_pi_j22 hA, Vl1_pi_j30 hA, Vl1_pl, Vl1_cW0 hA, Vl1_cW1 hA, Vl1_mW0 hA, Vl1_mW1 hA, Vl1_pL3 hA, Vl1_pL23 hA])
            exact vl1
          · simp only [Vlr, l_cW, l_mW, ml_pi, ml_pl, hAe, Nat.reduceLT, Nat.reduceEqDiff, false_and, if_false, if_true, pL_l]
            exact a3
          · (try simp only [Vsr_pi_j18 hA, Vsr_pi_j22 hA, Vsr_pi_j30 hA, Vsr_pl_j39 hA, Vsr_cW0 hA, Vsr_cW1 hA, Vsr_mW0 hA, Vsr_mW1 hA, Vsr_pL3 hA, Vsr_pL23 hA])
            exact vsr
          · refine Vc_of (c := 0) vc (by decide) (fun k => ?_) (fun k => ?_) <;> simp only [mi_pi, mi_pl, hAe, Nat.reduceLT, Nat.reduceEqDiff, false_and, true_and, if_false, pL_i, icw0_j18 hA, imw0_j18 hA, icw0_j30 hA, imw0_j30 hA, icw1_j18 hA, imw1_j18 hA, icw1_j30 hA, imw1_j30 hA]
          · (try simp only [Tx_pi_j18 hA, Tx_pi_j22 hA, Tx_pi_j30 hA, Tx_pl, Tx_cW0 hA, Tx_cW1 hA, Tx_mW0 hA, Tx_mW1 hA, Tx_pL3 hA, Tx_pL23 hA])
            exact tx
        · obtain ⟨N, t2, u2, rc2, rm2, a1, a2, a3, a4, a5⟩ := pas02 vk vcn v0.2 v2.2 vlr
          have hTi := v0.1.symm
          have hTj := v2.1.symm
          replace a5 := fun (m : MH) (Q : MR → MH → Prop) => a5 m Q
          simp only [o304_0, o304_1, o304_2, o304_3, o304_4, o304_7, o304_8, o304_11, o304_18, o304_20, o304_21, o304_22, o304_23, o73_0, o73_1, o73_2, o73_5, o73_6, o73_7, o73_8, o73_11, o73_13, o73_14, o73_15, o73_18, o73_28, o73_29, o73_32, o73_34, o73_35, o73_67, o73_68, o73_71, o73_73, o73_76, o197_0, o197_1, o197_2, o197_5, o197_8, o197_9, o197_12, o197_15, o197_16, o197_19, o197_20, o197_21, o197_22, o197_25, o197_26, o197_29, o197_30, o197_33, o197_36, o197_37, o197_38, o197_39, o197_80, o197_81, o197_82, o197_85, hx_304_2, c_X8_isThrown_, c_X8_isQueue, c_queueOf_0, c_queueOf_2, c_X1_lying (w := A 8) (r := A 9), c_X0_done (cs := A 18), c_X8_done (cs := A 30), a4, a5, mc_pi, mc_pl, mc_pT, mn_pi, mn_pl, mi_pi, mi_pl, mi_pT, ml_pi, ml_pl, ml_pT, mr_pi, mr_pl, mz_pi, mz_pl, mz_pT, mcs_0, mcs_r, Kn_v, mrf_some, true_and, and_true, false_and, not_true_eq_false, not_false_eq_true, false_implies, implies_true, forall_const, if_true, if_false, and_self, Nat.reduceEqDiff, Nat.reduceLeDiff, Nat.reduceSub, Nat.reduceAdd, Nat.zero_le, Nat.le_refl, i10, Int32.reduceLT, Kc_v, Sum.inl.injEq, Option.some.injEq, Value.int.injEq, exists_eq_left', Nat.reduceLT, hAe, i20, kc0, kc5, kc8, kc9, kc17, kc18, kc22, kc30, kc39, kn18, kn30, kr0_2, kr0_4, kr0_9, kr5_0, kr5_1, kr17_0, kr22_8, kz, qpe, hTi, hTj, icw0_j18 hA, icw0_j22 hA, imw0_j22 hA, icw0_j30 hA, imw0_j30 hA, icw2_j18 hA, icw2_j22 hA, imw2_j22 hA, icw2_j30 hA, imw2_j30 hA, c_cW, n_cW, r_cW, z_cW, l_cW, c_mW, n_mW, r_mW, z_mW, l_mW, pL_c, pL_n, pL_r, pL_i, pL_z, pL_l, K_pi, K_pl, K_cW, K_pL, Cn_pi_j18 hA, Cn_pi_j22 hA, Cn_pl, Cn_cW0 hA, Cn_cW2 hA, Cn_pL3 hA, vk, vcn, mT0_pi_j18 hA, mT0_pi_j22 hA, mT0_pl, mT0_cW hA, l_cW, l_mW, mT2_pi_j18 hA, mT2_pi_j22 hA, mT2_pl, mT2_cW hA, mT_pL, mT0_cW hA, mT2_cW hA, mTx0_cW2 hA, mTx2_cW0 hA]
          first | refine ⟨⟨?_, ?_, ?_, ?_, ?_, ?_, ?_, ?_, ?_, ?_, ?_, ?_⟩, rfl⟩ | refine ⟨?_, ?_, ?_, ?_, ?_, ?_, ?_, ?_, ?_, ?_, ?_, ?_⟩
          · (try simp only [K_pi, K_pl, K_cW, K_mW, K_pL])
            exact vk
          · (try simp only [Cn_pi_j18 hA, Cn_pi_j22 hA, Cn_pi_j30 hA, Cn_pl, Cn_cW0 hA, Cn_cW2 hA, Cn_mW0 hA, Cn_mW2 hA, Cn_pL3 hA, Cn_pL23 hA])
            exact vcn
          · simp only [Vq0_pi_j30 hA, Vq0_mW2 hA, Vq0_mW2 hA, Vq0_mW hA, cT_pL, cT0_pi_j18 hA, cT0_pi_j22 hA, cT0_pl, cT0_cW hA, cT0_cW2 hA]
            exact ⟨trivial, a1⟩
          · (try simp only [Vq1_pi_j18 hA, Vq1_pi_j22 hA, Vq1_pi_j30 hA, Vq1_pl, Vq1_cW0 hA, Vq1_cW2 hA, Vq1_mW0 hA, Vq1_mW2 hA, Vq1_pL3 hA, Vq1_pL23 hA])
            exact v1
          · simp only [Vq2_pi_j30 hA, Vq2_mW hA, cT_pL, cT2_pi_j18 hA, cT2_pi_j22 hA, cT2_pl, cT2_cW hA, cT2_mWo0 hA]
            exact ⟨trivial, a2⟩
          · (try simp only [Vp_pi_j18 hA, Vp_pi_j30 hA, Vp_thr hA, Vp_pl, Vp_cW0 hA, Vp_cW2 hA, Vp_mW0 hA, Vp_mW2 hA, Vp_pL3 hA, Vp_pL23 hA])
            exact vp
          · (try simp only [Vl0_pi_j18 hA, Vl0_pi_j22 hA, Vl0_pi_j30 hA, Vl0_pl, Vl0_cW0 hA, Vl0_cW2 hA, Vl0_mW0 hA, Vl0_mW2 hA, Vl0_pL3 hA, Vl0_pL23 hA])
            exact vl0
          · (try simp only [Vl1_pi_j18 hA, Vl1_pi_j22 hA, Vl1_pi_j30 hA, Vl1_pl, Vl1_cW0 hA, Vl1_cW2 hA, Vl1_mW0 hA, Vl1_mW2 hA, Vl1_pL3 hA, Vl1_pL23 hA])
            exact vl1
          · simp only [Vlr, l_cW, l_mW, ml_pi, ml_pl, hAe, Nat.reduceLT, Nat.reduceEqDiff, false_and, if_false, if_true, pL_l]
            exact a3
          · (try simp only [Vsr_pi_j18 hA, Vsr_pi_j22 hA, Vsr_pi_j30 hA, Vsr_pl_j39 hA, Vsr_cW0 hA, Vsr_cW2 hA, Vsr_mW0 hA, Vsr_mW2 hA, Vsr_pL3 hA, Vsr_pL23 hA])
            exact vsr
          · refine Vc_of (c := 0) vc (by decide) (fun k => ?_) (fun k => ?_) <;> simp only [mi_pi, mi_pl, hAe, Nat.reduceLT, Nat.reduceEqDiff, false_and, true_and, if_false, pL_i, icw0_j18 hA, imw0_j18 hA, icw0_j30 hA, imw0_j30 hA, icw2_j18 hA, imw2_j18 hA, icw2_j30 hA, imw2_j30 hA]
          · (try simp only [Tx_pi_j18 hA, Tx_pi_j22 hA, Tx_pi_j30 hA, Tx_pl, Tx_cW0 hA, Tx_cW2 hA, Tx_mW0 hA, Tx_mW2 hA, Tx_pL3 hA, Tx_pL23 hA])
            exact tx
      · rcases q_cases y3 y4 with rfl | rfl | rfl
        · obtain ⟨N, t2, u2, rc2, rm2, a1, a2, a3, a4, a5⟩ := pas10 vk vcn v1.2 v0.2 vlr
          have hTi := v1.1.symm
          have hTj := v0.1.symm
          replace a5 := fun (m : MH) (Q : MR → MH → Prop) => a5 m Q
          simp only [o304_0, o304_1, o304_2, o304_3, o304_4, o304_7, o304_8, o304_11, o304_18, o304_20, o304_21, o304_22, o304_23, o73_0, o73_1, o73_2, o73_5, o73_6, o73_7, o73_8, o73_11, o73_13, o73_14, o73_15, o73_18, o73_28, o73_29, o73_32, o73_34, o73_35, o73_67, o73_68, o73_71, o73_73, o73_76, o197_0, o197_1, o197_2, o197_5, o197_8, o197_9, o197_12, o197_15, o197_16, o197_19, o197_20, o197_21, o197_22, o197_25, o197_26, o197_29, o197_30, o197_33, o197_36, o197_37, o197_38, o197_39, o197_80, o197_81, o197_82, o197_85, hx_304_2, c_X8_isThrown_, c_X8_isQueue, c_queueOf_1, c_queueOf_0, c_X1_lying (w := A 10) (r := A 11), c_X0_done (cs := A 18), c_X8_done (cs := A 30), a4, a5, mc_pi, mc_pl, mc_pT, mn_pi, mn_pl, mi_pi, mi_pl, mi_pT, ml_pi, ml_pl, ml_pT, mr_pi, mr_pl, mz_pi, mz_pl, mz_pT, mcs_0, mcs_r, Kn_v, mrf_some, true_and, and_true, false_and, not_true_eq_false, not_false_eq_true, false_implies, implies_true, forall_const, if_true, if_false, and_self, Nat.reduceEqDiff, Nat.reduceLeDiff, Nat.reduceSub, Nat.reduceAdd, Nat.zero_le, Nat.le_refl, i10, Int32.reduceLT, Kc_v, Sum.inl.injEq, Option.some.injEq, Value.int.injEq, exists_eq_left', Nat.reduceLT, hAe, i20, kc0, kc6, kc10, kc11, kc17, kc18, kc22, kc30, kc39, kn18, kn30, kr0_2, kr0_3, kr0_9, kr6_0, kr6_1, kr17_0, kr22_8, kz, hTi, hTj, icw1_j18 hA, icw1_j22 hA, imw1_j22 hA, icw1_j30 hA, imw1_j30 hA, icw0_j18 hA, icw0_j22 hA, imw0_j22 hA, icw0_j30 hA, imw0_j30 hA, c_cW, n_cW, r_cW, z_cW, l_cW, c_mW, n_mW, r_mW, z_mW, l_mW, pL_c, pL_n, pL_r, pL_i, pL_z, pL_l, K_pi, K_pl, K_cW, K_pL, Cn_pi_j18 hA, Cn_pi_j22 hA, Cn_pl, Cn_cW1 hA, Cn_cW0 hA, Cn_pL3 hA, vk, vcn, mT1_pi_j18 hA, mT1_pi_j22 hA, mT1_pl, mT1_cW hA, l_cW, l_mW, mT0_pi_j18 hA, mT0_pi_j22 hA, mT0_pl, mT0_cW hA, mT_pL, mT1_cW hA, mT0_cW hA, mTx1_cW0 hA, mTx0_cW1 hA]
          first | refine ⟨⟨?_, ?_, ?_, ?_, ?_, ?_, ?_, ?_, ?_, ?_, ?_, ?_⟩, rfl⟩ | refine ⟨?_, ?_, ?_, ?_, ?_, ?_, ?_, ?_, ?_, ?_, ?_, ?_⟩
          · (try simp only [K_pi, K_pl, K_cW, K_mW, K_pL])
            exact vk
          · (try simp only [Cn_pi_j18 hA, Cn_pi_j22 hA, Cn_pi_j30 hA, Cn_pl, Cn_cW1 hA, Cn_cW0 hA, Cn_mW1 hA, Cn_mW0 hA, Cn_pL3 hA, Cn_pL23 hA])
            exact vcn
          · simp only [Vq0_pi_j30 hA, Vq0_mW hA, cT_pL, cT0_pi_j18 hA, cT0_pi_j22 hA, cT0_pl, cT0_cW hA, cT0_mWo1 hA]
            exact ⟨trivial, a2⟩
          · simp only [Vq1_pi_j30 hA, Vq1_mW0 hA, Vq1_mW0 hA, Vq1_mW hA, cT_pL, cT1_pi_j18 hA, cT1_pi_j22 hA, cT1_pl, cT1_cW hA, cT1_cW0 hA]
            exact ⟨trivial, a1⟩
          · (try simp only [Vq2_pi_j18 hA, Vq2_pi_j22 hA, Vq2_pi_j30 hA, Vq2_pl, Vq2_cW1 hA, Vq2_cW0 hA, Vq2_mW1 hA, Vq2_mW0 hA, Vq2_pL3 hA, Vq2_pL23 hA])
            exact v2
          · (try simp only [Vp_pi_j18 hA, Vp_pi_j30 hA, Vp_thr hA, Vp_pl, Vp_cW1 hA, Vp_cW0 hA, Vp_mW1 hA, Vp_mW0 hA, Vp_pL3 hA, Vp_pL23 hA])
            exact vp
          · (try simp only [Vl0_pi_j18 hA, Vl0_pi_j22 hA, Vl0_pi_j30 hA, Vl0_pl, Vl0_cW1 hA, Vl0_cW0 hA, Vl0_mW1 hA, Vl0_mW0 hA, Vl0_pL3 hA, Vl0_pL23 hA])
            exact vl0
          · (try simp only [Vl1_pi_j18 hA, Vl1_pi_j22 hA, Vl1_pi_j30 hA, Vl1_pl, Vl1_cW1 hA, Vl1_cW0 hA, Vl1_mW1 hA, Vl1_mW0 hA, Vl1_pL3 hA, Vl1_pL23 hA])
            exact vl1
          · simp only [Vlr, l_cW, l_mW, ml_pi, ml_pl, hAe, Nat.reduceLT, Nat.reduceEqDiff, false_and, if_false, if_true, pL_l]
            exact a3
          · (try simp only [Vsr_pi_j18 hA, Vsr_pi_j22 hA, Vsr_pi_j30 hA, Vsr_pl_j39 hA, Vsr_cW1 hA, Vsr_cW0 hA, Vsr_mW1 hA, Vsr_mW0 hA, Vsr_pL3 hA, Vsr_pL23 hA])
            exact vsr
          · refine Vc_of (c := 0) vc (by decide) (fun k => ?_) (fun k => ?_) <;> simp only [mi_pi, mi_pl, hAe, Nat.reduceLT, Nat.reduceEqDiff, false_and, true_and, if_false, pL_i, icw1_j18 hA, imw1_j18 hA, icw1_j30 hA, imw1_j30 hA, icw0_j18 hA, imw0_j18 hA, icw0_j30 hA, imw0_j30 hA]
          · (try simp only [Tx_pi_j18 hA, Tx_pi_j22 hA, Tx_pi_j30 hA, Tx_pl, Tx_cW1 hA, Tx_cW0 hA, Tx_mW1 hA, Tx_mW0 hA, Tx_pL3 hA, Tx_pL23 hA])
            exact tx
        · skip
          simp only [o304_0, o304_1, o304_2, o304_3, o304_4, o304_18, o304_20, o304_21, o73_0, o73_1, o73_2, o73_5, o73_6, o73_7, o73_8, o73_11, o73_13, o73_14, o73_15, o73_18, o73_28, o73_29, o197_0, o197_1, o197_2, o197_5, o197_8, o197_9, o197_12, o197_15, o197_16, o197_19, o197_20, o197_21, o197_22, o197_25, o197_26, o197_29, o197_30, o197_33, o197_36, o197_37, o197_38, o197_39, o197_40, o197_41, o197_44, o197_45, o197_46, hx_304_2, c_X8_isThrown_, c_X8_isQueue, c_queueOf_1, mc_pi, mc_pT, mn_pi, mn_pT, mi_pi, mi_pT, ml_pi, ml_pT, mr_pi, mr_pT, mz_pT, mcs_0, mcs_r, Kn_v, mrf_some, true_and, and_true, and_false, not_true_eq_false, not_false_eq_true, false_implies, forall_const, if_true, if_false, and_self, Nat.reduceLeDiff, Nat.reduceSub, Nat.reduceAdd, Nat.zero_le, Nat.le_refl, i10, Int32.reduceLT, cl1, Sum.inl.injEq, Option.some.injEq, Value.int.injEq, exists_eq_left', Nat.reduceLT, i20, kc0, kc6, kc22, kc26, kc35, kn26, kr0_3, kr22_3, kr26_1, kz, vq3]
          intro t ht
          first | refine ⟨⟨?_, ?_, ?_, ?_, ?_, ?_, ?_, ?_, ?_, ?_, ?_, ?_⟩, rfl⟩ | refine ⟨?_, ?_, ?_, ?_, ?_, ?_, ?_, ?_, ?_, ?_, ?_, ?_⟩
          · (try simp only [K_pi])
            exact K_pT ht vk
          · (try simp only [Cn_pi_j22 hA, Cn_pT])
            exact vcn
          · (try simp only [Vq0_pi_j22 hA, Vq0_pT])
            exact v0
          · (try simp only [Vq1_pi_j22 hA, Vq1_pT])
            exact v1
          · (try simp only [Vq2_pi_j22 hA, Vq2_pT])
            exact v2
          · (try simp only [Vp_thr hA, Vp_pT])
            exact vp
          · (try simp only [Vl0_pi_j22 hA, Vl0_pT])
            exact vl0
          · (try simp only [Vl1_pi_j22 hA, Vl1_pT])
            exact vl1
          · (try simp only [Vlr_pi_j22 hA, Vlr_pT])
            exact vlr
          · (try simp only [Vsr_pi_j22 hA, Vsr_pT])
            exact vsr
          · (try simp only [Vc_pi_j22 hA, Vc_pT])
            exact vc
          · (try simp only [Tx_pi_j22 hA])
            exact Tx_pT ht tx
        · obtain ⟨N, t2, u2, rc2, rm2, a1, a2, a3, a4, a5⟩ := pas12 vk vcn v1.2 v2.2 vlr
          have hTi := v1.1.symm
          have hTj := v2.1.symm
          replace a5 := fun (m : MH) (Q : MR → MH → Prop) => a5 m Q
          simp only [o304_0, o304_1, o304_2, o304_3, o304_4, o304_7, o304_8, o304_11, o304_18, o304_20, o304_21, o304_22, o304_23, o73_0, o73_1, o73_2, o73_5, o73_6, o73_7, o73_8, o73_11, o73_13, o73_14, o73_15, o73_18, o73_28, o73_29, o73_32, o73_34, o73_35, o73_67, o73_68, o73_71, o73_73, o73_76, o197_0, o197_1, o197_2, o197_5, o197_8, o197_9, o197_12, o197_15, o197_16, o197_19, o197_20, o197_21, o197_22, o197_25, o197_26, o197_29, o197_30, o197_33, o197_36, o197_37, o197_38, o197_39, o197_80, o197_81, o197_82, o197_85, hx_304_2, c_X8_isThrown_, c_X8_isQueue, c_queueOf_1, c_queueOf_2, c_X1_lying (w := A 10) (r := A 11), c_X0_done (cs := A 18), c_X8_done (cs := A 30), a4, a5, mc_pi, mc_pl, mc_pT, mn_pi, mn_pl, mi_pi, mi_pl, mi_pT, ml_pi, ml_pl, ml_pT, mr_pi, mr_pl, mz_pi, mz_pl, mz_pT, mcs_0, mcs_r, Kn_v, mrf_some, true_and, and_true, false_and, not_true_eq_false, not_false_eq_true, false_implies, implies_true, forall_const, if_true, if_false, and_self, Nat.reduceEqDiff, Nat.reduceLeDiff, Nat.reduceSub, Nat.reduceAdd, Nat.zero_le, Nat.le_refl, i10, Int32.reduceLT, Kc_v, Sum.inl.injEq, Option.some.injEq, Value.int.injEq, exists_eq_left', Nat.reduceLT, hAe, i20, kc0, kc6, kc10, kc11, kc17, kc18, kc22, kc30, kc39, kn18, kn30, kr0_3, kr0_4, kr0_9, kr6_0, kr6_1, kr17_0, kr22_8, kz, qpe, hTi, hTj, icw1_j18 hA, icw1_j22 hA, imw1_j22 hA, icw1_j30 hA, imw1_j30 hA, icw2_j18 hA, icw2_j22 hA, imw2_j22 hA, icw2_j30 hA, imw2_j30 hA, c_cW, n_cW, r_cW, z_cW, l_cW, c_mW, n_mW, r_mW, z_mW, l_mW, pL_c, pL_n, pL_r, pL_i, pL_z, pL_l, K_pi, K_pl, K_cW, K_pL, Cn_pi_j18 hA, Cn_pi_j22 hA, Cn_pl, Cn_cW1 hA, Cn_cW2 hA, Cn_pL3 hA, vk, vcn, mT1_pi_j18 hA, mT1_pi_j22 hA, mT1_pl, mT1_cW hA, l_cW, l_mW, mT2_pi_j18 hA, mT2_pi_j22 hA, mT2_pl, mT2_cW hA, mT_pL, mT1_cW hA, mT2_cW hA, mTx1_cW2 hA, mTx2_cW1 hA]
          first | refine ⟨⟨?_, ?_, ?_, ?_, ?_, ?_, ?_, ?_, ?_, ?_, ?_, ?_⟩, rfl⟩ | refine ⟨?_, ?_, ?_, ?_, ?_, ?_, ?_, ?_, ?_, ?_, ?_, ?_⟩
          · (try simp only [K_pi, K_pl, K_cW, K_mW, K_pL])
            exact vk
          · (try simp only [Cn_pi_j18 hA, Cn_pi_j22 hA, Cn_pi_j30 hA, Cn_pl, Cn_cW1 hA, Cn_cW2 hA, Cn_mW1 hA, Cn_mW2 hA, Cn_pL3 hA, Cn_pL23 hA])
            exact vcn
          · (try simp only [Vq0_pi_j18 hA, Vq0_pi_j22 hA, Vq0_pi_j30 hA, Vq0_pl, Vq0_cW1 hA, Vq0_cW2 hA, Vq0_mW1 hA, Vq0_mW2 hA, Vq0_pL3 hA, Vq0_pL23 hA])
            exact v0
          · simp only [Vq1_pi_j30 hA, Vq1_mW2 hA, Vq1_mW2 hA, Vq1_mW hA, cT_pL, cT1_pi_j18 hA, cT1_pi_j22 hA, cT1_pl, cT1_cW hA, cT1_cW2 hA]
            exact ⟨trivial, a1⟩
          · simp only [Vq2_pi_j30 hA, Vq2_mW hA, cT_pL, cT2_pi_j18 hA, cT2_pi_j22 hA, cT2_pl, cT2_cW hA, cT2_mWo1 hA]
            exact ⟨trivial, a2⟩
          · (try simp only [Vp_pi_j18 hA, Vp_pi_j30 hA, Vp_thr hA, Vp_pl, Vp_cW1 hA, Vp_cW2 hA, Vp_mW1 hA, Vp_mW2 hA, Vp_pL3 hA, Vp_pL23 hA])
            exact vp
          · (try simp only [Vl0_pi_j18 hA, Vl0_pi_j22 hA, Vl0_pi_j30 hA, Vl0_pl, Vl0_cW1 hA, Vl0_cW2 hA, Vl0_mW1 hA, Vl0_mW2 hA, Vl0_pL3 hA, Vl0_pL23 hA])
            exact vl0
          · (try simp only [Vl1_pi_j18 hA, Vl1_pi_j22 hA, Vl1_pi_j30 hA, Vl1_pl, Vl1_cW1 hA, Vl1_cW2 hA, Vl1_mW1 hA, Vl1_mW2 hA, Vl1_pL3 hA, Vl1_pL23 hA])
            exact vl1
          · simp only [Vlr, l_cW, l_mW, ml_pi, ml_pl, hAe, Nat.reduceLT, Nat.reduceEqDiff, false_and, if_false, if_true, pL_l]
            exact a3
          · (try simp only [Vsr_pi_j18 hA, Vsr_pi_j22 hA, Vsr_pi_j30 hA, Vsr_pl_j39 hA, Vsr_cW1 hA, Vsr_cW2 hA, Vsr_mW1 hA, Vsr_mW2 hA, Vsr_pL3 hA, Vsr_pL23 hA])
            exact vsr
          · refine Vc_of (c := 0) vc (by decide) (fun k => ?_) (fun k => ?_) <;> simp only [mi_pi, mi_pl, hAe, Nat.reduceLT, Nat.reduceEqDiff, false_and, true_and, if_false, pL_i, icw1_j18 hA, imw1_j18 hA, icw1_j30 hA, imw1_j30 hA, icw2_j18 hA, imw2_j18 hA, icw2_j30 hA, imw2_j30 hA]
          · (try simp only [Tx_pi_j18 hA, Tx_pi_j22 hA, Tx_pi_j30 hA, Tx_pl, Tx_cW1 hA, Tx_cW2 hA, Tx_mW1 hA, Tx_mW2 hA, Tx_pL3 hA, Tx_pL23 hA])
            exact tx
      · rcases q_cases y3 y4 with rfl | rfl | rfl
        · obtain ⟨N, t2, u2, rc2, rm2, a1, a2, a3, a4, a5⟩ := pas20 vk vcn v2.2 v0.2 vlr
          have hTi := v2.1.symm
          have hTj := v0.1.symm
          replace a5 := fun (m : MH) (Q : MR → MH → Prop) => a5 m Q
          simp only [o304_0, o304_1, o304_2, o304_3, o304_4, o304_7, o304_8, o304_11, o304_18, o304_20, o304_21, o304_22, o304_23, o73_0, o73_1, o73_2, o73_5, o73_6, o73_7, o73_8, o73_11, o73_13, o73_14, o73_15, o73_18, o73_28, o73_29, o73_32, o73_34, o73_35, o73_67, o73_68, o73_71, o73_73, o73_76, o197_0, o197_1, o197_2, o197_5, o197_8, o197_9, o197_12, o197_15, o197_16, o197_19, o197_20, o197_21, o197_22, o197_25, o197_26, o197_29, o197_30, o197_33, o197_36, o197_37, o197_38, o197_39, o197_80, o197_81, o197_82, o197_85, hx_304_2, c_X8_isThrown_, c_X8_isQueue, c_queueOf_2, c_queueOf_0, c_X1_lying (w := A 12) (r := A 13), c_X0_done (cs := A 18), c_X8_done (cs := A 30), a4, a5, mc_pi, mc_pl, mc_pT, mn_pi, mn_pl, mi_pi, mi_pl, mi_pT, ml_pi, ml_pl, ml_pT, mr_pi, mr_pl, mz_pi, mz_pl, mz_pT, mcs_0, mcs_r, Kn_v, mrf_some, true_and, and_true, false_and, not_true_eq_false, not_false_eq_true, false_implies, implies_true, forall_const, if_true, if_false, and_self, Nat.reduceEqDiff, Nat.reduceLeDiff, Nat.reduceSub, Nat.reduceAdd, Nat.zero_le, Nat.le_refl, i10, Int32.reduceLT, Kc_v, Sum.inl.injEq, Option.some.injEq, Value.int.injEq, exists_eq_left', Nat.reduceLT, hAe, i20, kc0, kc7, kc12, kc13, kc17, kc18, kc22, kc30, kc39, kn18, kn30, kr0_2, kr0_4, kr0_9, kr7_0, kr7_1, kr17_0, kr22_8, kz, hTi, hTj, icw2_j18 hA, icw2_j22 hA, imw2_j22 hA, icw2_j30 hA, imw2_j30 hA, icw0_j18 hA, icw0_j22 hA, imw0_j22 hA, icw0_j30 hA, imw0_j30 hA, c_cW, n_cW, r_cW, z_cW, l_cW, c_mW, n_mW, r_mW, z_mW, l_mW, pL_c, pL_n, pL_r, pL_i, pL_z, pL_l, K_pi, K_pl, K_cW, K_pL, Cn_pi_j18 hA, Cn_pi_j22 hA, Cn_pl, Cn_cW2 hA, Cn_cW0 hA, Cn_pL3 hA, vk, vcn, mT2_pi_j18 hA, mT2_pi_j22 hA, mT2_pl, mT2_cW hA, l_cW, l_mW, mT0_pi_j18 hA, mT0_pi_j22 hA, mT0_pl, mT0_cW hA, mT_pL, mT2_cW hA, mT0_cW hA, mTx2_cW0 hA, mTx0_cW2 hA]
          first | refine ⟨⟨?_, ?_, ?_, ?_, ?_, ?_, ?_, ?_, ?_, ?_, ?_, ?_⟩, rfl⟩ | refine ⟨?_, ?_, ?_, ?_, ?_, ?_, ?_, ?_, ?_, ?_, ?_, ?_⟩
          · (try simp only [K_pi, K_pl, K_cW, K_mW, K_pL])
            exact vk
          · (try simp only [Cn_pi_j18 hA, Cn_pi_j22 hA, Cn_pi_j30 hA, Cn_pl, Cn_cW2 hA, Cn_cW0 hA, Cn_mW2 hA, Cn_mW0 hA, Cn_pL3 hA, Cn_pL23 hA])
            exact vcn
          · simp only [Vq0_pi_j30 hA, Vq0_mW hA, cT_pL, cT0_pi_j18 hA, cT0_pi_j22 hA, cT0_pl, cT0_cW hA, cT0_mWo2 hA]
            exact ⟨trivial, a2⟩
          · (try simp only [Vq1_pi_j18 hA, Vq1_pi_j22 hA, Vq1_pi_j30 hA, Vq1_pl, Vq1_cW2 hA, Vq1_cW0 hA, Vq1_mW2 hA, Vq1_mW0 hA, Vq1_pL3 hA, Vq1_pL23 hA])
            exact v1
          · simp only [Vq2_pi_j30 hA, Vq2_mW0 hA, Vq2_mW0 hA, Vq2_mW hA, cT_pL, cT2_pi_j18 hA, cT2_pi_j22 hA, cT2_pl, cT2_cW hA, cT2_cW0 hA]
            exact ⟨trivial, a1⟩
          · (try simp only [Vp_pi_j18 hA, Vp_pi_j30 hA, Vp_thr hA, Vp_pl, Vp_cW2 hA, Vp_cW0 hA, Vp_mW2 hA, Vp_mW0 hA, Vp_pL3 hA, Vp_pL23 hA])
            exact vp
          · (try simp only [Vl0_pi_j18 hA, Vl0_pi_j22 hA, Vl0_pi_j30 hA, Vl0_pl, Vl0_cW2 hA, Vl0_cW0 hA, Vl0_mW2 hA, Vl0_mW0 hA, Vl0_pL3 hA, Vl0_pL23 hA])
            exact vl0
          · (try simp only [Vl1_pi_j18 hA, Vl1_pi_j22 hA, Vl1_pi_j30 hA, Vl1_pl, Vl1_cW2 hA, Vl1_cW0 hA, Vl1_mW2 hA, Vl1_mW0 hA, Vl1_pL3 hA, Vl1_pL23 hA])
            exact vl1
          · simp only [Vlr, l_cW, l_mW, ml_pi, ml_pl, hAe, Nat.reduceLT, Nat.reduceEqDiff, false_and, if_false, if_true, pL_l]
            exact a3
          · (try simp only [Vsr_pi_j18 hA, Vsr_pi_j22 hA, Vsr_pi_j30 hA, Vsr_pl_j39 hA, Vsr_cW2 hA, Vsr_cW0 hA, Vsr_mW2 hA, Vsr_mW0 hA, Vsr_pL3 hA, Vsr_pL23 hA])
            exact vsr
          · refine Vc_of (c := 0) vc (by decide) (fun k => ?_) (fun k => ?_) <;> simp only [mi_pi, mi_pl, hAe, Nat.reduceLT, Nat.reduceEqDiff, false_and, true_and, if_false, pL_i, icw2_j18 hA, imw2_j18 hA, icw2_j30 hA, imw2_j30 hA, icw0_j18 hA, imw0_j18 hA, icw0_j30 hA, imw0_j30 hA]
          · (try simp only [Tx_pi_j18 hA, Tx_pi_j22 hA, Tx_pi_j30 hA, Tx_pl, Tx_cW2 hA, Tx_cW0 hA, Tx_mW2 hA, Tx_mW0 hA, Tx_pL3 hA, Tx_pL23 hA])
            exact tx
        · obtain ⟨N, t2, u2, rc2, rm2, a1, a2, a3, a4, a5⟩ := pas21 vk vcn v2.2 v1.2 vlr
          have hTi := v2.1.symm
          have hTj := v1.1.symm
          replace a5 := fun (m : MH) (Q : MR → MH → Prop) => a5 m Q
          simp only [o304_0, o304_1, o304_2, o304_3, o304_4, o304_7, o304_8, o304_11, o304_18, o304_20, o304_21, o304_22, o304_23, o73_0, o73_1, o73_2, o73_5, o73_6, o73_7, o73_8, o73_11, o73_13, o73_14, o73_15, o73_18, o73_28, o73_29, o73_32, o73_34, o73_35, o73_67, o73_68, o73_71, o73_73, o73_76, o197_0, o197_1, o197_2, o197_5, o197_8, o197_9, o197_12, o197_15, o197_16, o197_19, o197_20, o197_21, o197_22, o197_25, o197_26, o197_29, o197_30, o197_33, o197_36, o197_37, o197_38, o197_39, o197_80, o197_81, o197_82, o197_85, hx_304_2, c_X8_isThrown_, c_X8_isQueue, c_queueOf_2, c_queueOf_1, c_X1_lying (w := A 12) (r := A 13), c_X0_done (cs := A 18), c_X8_done (cs := A 30), a4, a5, mc_pi, mc_pl, mc_pT, mn_pi, mn_pl, mi_pi, mi_pl, mi_pT, ml_pi, ml_pl, ml_pT, mr_pi, mr_pl, mz_pi, mz_pl, mz_pT, mcs_0, mcs_r, Kn_v, mrf_some, true_and, and_true, false_and, not_true_eq_false, not_false_eq_true, false_implies, implies_true, forall_const, if_true, if_false, and_self, Nat.reduceEqDiff, Nat.reduceLeDiff, Nat.reduceSub, Nat.reduceAdd, Nat.zero_le, Nat.le_refl, i10, Int32.reduceLT, Kc_v, Sum.inl.injEq, Option.some.injEq, Value.int.injEq, exists_eq_left', Nat.reduceLT, hAe, i20, kc0, kc7, kc12, kc13, kc17, kc18, kc22, kc30, kc39, kn18, kn30, kr0_3, kr0_4, kr0_9, kr7_0, kr7_1, kr17_0, kr22_8, kz, qpe, hTi, hTj, icw2_j18 hA, icw2_j22 hA, imw2_j22 hA, icw2_j30 hA, imw2_j30 hA, icw1_j18 hA, icw1_j22 hA, imw1_j22 hA, icw1_j30 hA, imw1_j30 hA, c_cW, n_cW, r_cW, z_cW, l_cW, c_mW, n_mW, r_mW, z_mW, l_mW, pL_c, pL_n, pL_r, pL_i, pL_z, pL_l, K_pi, K_pl, K_cW, K_pL, Cn_pi_j18 hA, Cn_pi_j22 hA, Cn_pl, Cn_cW2 hA, Cn_cW1 hA, Cn_pL3 hA, vk, vcn, mT2_pi_j18 hA, mT2_pi_j22 hA, mT2_pl, mT2_cW hA, l_cW, l_mW, mT1_pi_j18 hA, mT1_pi_j22 hA, mT1_pl, mT1_cW hA, mT_pL, mT2_cW hA, mT1_cW hA, mTx2_cW1 hA, mTx1_cW2 hA]
          first | refine ⟨⟨?_, ?_, ?_, ?_, ?_, ?_, ?_, ?_, ?_, ?_, ?_, ?_⟩, rfl⟩ | refine ⟨?_, ?_, ?_, ?_, ?_, ?_, ?_, ?_, ?_, ?_, ?_, ?_⟩
          · (try simp only [K_pi, K_pl, K_cW, K_mW, K_pL])
            exact vk
          · (try simp only [Cn_pi_j18 hA, Cn_pi_j22 hA, Cn_pi_j30 hA, Cn_pl, Cn_cW2 hA, Cn_cW1 hA, Cn_mW2 hA, Cn_mW1 hA, Cn_pL3 hA, Cn_pL23 hA])
            exact vcn
          · (try simp only [Vq0_pi_j18 hA, Vq0_pi_j22 hA, Vq0_pi_j30 hA, Vq0_pl, Vq0_cW2 hA, Vq0_cW1 hA, Vq0_mW2 hA, Vq0_mW1 hA, Vq0_pL3 hA, Vq0_pL23 hA])
            exact v0
          · simp only [Vq1_pi_j30 hA, Vq1_mW hA, cT_pL, cT1_pi_j18 hA, cT1_pi_j22 hA, cT1_pl, cT1_cW hA, cT1_mWo2 hA]
            exact ⟨trivial, a2⟩
          · simp only [Vq2_pi_j30 hA, Vq2_mW1 hA, Vq2_mW1 hA, Vq2_mW hA, cT_pL, cT2_pi_j18 hA, cT2_pi_j22 hA, cT2_pl, cT2_cW hA, cT2_cW1 hA]
            exact ⟨trivial, a1⟩
          · (try simp only [Vp_pi_j18 hA, Vp_pi_j30 hA, Vp_thr hA, Vp_pl, Vp_cW2 hA, Vp_cW1 hA, Vp_mW2 hA, Vp_mW1 hA, Vp_pL3 hA, Vp_pL23 hA])
            exact vp
          · (try simp only [Vl0_pi_j18 hA, Vl0_pi_j22 hA, Vl0_pi_j30 hA, Vl0_pl, Vl0_cW2 hA, Vl0_cW1 hA, Vl0_mW2 hA, Vl0_mW1 hA, Vl0_pL3 hA, Vl0_pL23 hA])
            exact vl0
          · (try simp only [Vl1_pi_j18 hA, Vl1_pi_j22 hA, Vl1_pi_j30 hA, Vl1_pl, Vl1_cW2 hA, Vl1_cW1 hA, Vl1_mW2 hA, Vl1_mW1 hA, Vl1_pL3 hA, Vl1_pL23 hA])
            exact vl1
          · simp only [Vlr, l_cW, l_mW, ml_pi, ml_pl, hAe, Nat.reduceLT, Nat.reduceEqDiff, false_and, if_false, if_true, pL_l]
            exact a3
          · (try simp only [Vsr_pi_j18 hA, Vsr_pi_j22 hA, Vsr_pi_j30 hA, Vsr_pl_j39 hA, Vsr_cW2 hA, Vsr_cW1 hA, Vsr_mW2 hA, Vsr_mW1 hA, Vsr_pL3 hA, Vsr_pL23 hA])
            exact vsr
          · refine Vc_of (c := 0) vc (by decide) (fun k => ?_) (fun k => ?_) <;> simp only [mi_pi, mi_pl, hAe, Nat.reduceLT, Nat.reduceEqDiff, false_and, true_and, if_false, pL_i, icw2_j18 hA, imw2_j18 hA, icw2_j30 hA, imw2_j30 hA, icw1_j18 hA, imw1_j18 hA, icw1_j30 hA, imw1_j30 hA]
          · (try simp only [Tx_pi_j18 hA, Tx_pi_j22 hA, Tx_pi_j30 hA, Tx_pl, Tx_cW2 hA, Tx_cW1 hA, Tx_mW2 hA, Tx_mW1 hA, Tx_pL3 hA, Tx_pL23 hA])
            exact tx
        · skip
          simp only [o304_0, o304_1, o304_2, o304_3, o304_4, o304_18, o304_20, o304_21, o73_0, o73_1, o73_2, o73_5, o73_6, o73_7, o73_8, o73_11, o73_13, o73_14, o73_15, o73_18, o73_28, o73_29, o197_0, o197_1, o197_2, o197_5, o197_8, o197_9, o197_12, o197_15, o197_16, o197_19, o197_20, o197_21, o197_22, o197_25, o197_26, o197_29, o197_30, o197_33, o197_36, o197_37, o197_38, o197_39, o197_40, o197_41, o197_44, o197_45, o197_46, hx_304_2, c_X8_isThrown_, c_X8_isQueue, c_queueOf_2, mc_pi, mc_pT, mn_pi, mn_pT, mi_pi, mi_pT, ml_pi, ml_pT, mr_pi, mr_pT, mz_pT, mcs_0, mcs_r, Kn_v, mrf_some, true_and, and_true, and_false, not_true_eq_false, not_false_eq_true, false_implies, forall_const, if_true, if_false, and_self, Nat.reduceLeDiff, Nat.reduceSub, Nat.reduceAdd, Nat.zero_le, Nat.le_refl, i10, Int32.reduceLT, cl2, Sum.inl.injEq, Option.some.injEq, Value.int.injEq, exists_eq_left', Nat.reduceLT, i20, kc0, kc7, kc22, kc26, kc36, kn26, kr0_4, kr22_3, kr26_2, kz, vq3]
          intro t ht
          first | refine ⟨⟨?_, ?_, ?_, ?_, ?_, ?_, ?_, ?_, ?_, ?_, ?_, ?_⟩, rfl⟩ | refine ⟨?_, ?_, ?_, ?_, ?_, ?_, ?_, ?_, ?_, ?_, ?_, ?_⟩
          · (try simp only [K_pi])
            exact K_pT ht vk
          · (try simp only [Cn_pi_j22 hA, Cn_pT])
            exact vcn
          · (try simp only [Vq0_pi_j22 hA, Vq0_pT])
            exact v0
          · (try simp only [Vq1_pi_j22 hA, Vq1_pT])
            exact v1
          · (try simp only [Vq2_pi_j22 hA, Vq2_pT])
            exact v2
          · (try simp only [Vp_thr hA, Vp_pT])
            exact vp
          · (try simp only [Vl0_pi_j22 hA, Vl0_pT])
            exact vl0
          · (try simp only [Vl1_pi_j22 hA, Vl1_pT])
            exact vl1
          · (try simp only [Vlr_pi_j22 hA, Vlr_pT])
            exact vlr
          · (try simp only [Vsr_pi_j22 hA, Vsr_pT])
            exact vsr
          · (try simp only [Vc_pi_j22 hA, Vc_pT])
            exact vc
          · (try simp only [Tx_pi_j22 hA])
            exact Tx_pT ht tx


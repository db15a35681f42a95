section
theorem qpe : ((0 : Int32) = 1) = False ∧ ((0 : Int32) = 2) = False ∧ ((1 : Int32) = 0) = False ∧ ((1 : Int32) = 2) = False ∧ ((2 : Int32) = 0) = False ∧ ((2 : Int32) = 1) = False := ⟨by decide, by decide, by decide, by decide, by decide, by decide⟩
theorem hx_303_1 {l rest : List Value} {bc bs : Nat} {Q : MR → MH → Prop} {h : MH} : Kc Ok 303 4 7 l rest bc bs Q (.inr 1) h ↔ ∀ q : Nat, Ok 303 14 l [.ref q] h bc bs Q := Kc_x (by decide +kernel) (by decide +kernel)
theorem hx_303_2 {l rest : List Value} {bc bs : Nat} {Q : MR → MH → Prop} {h : MH} : Kc Ok 303 4 7 l rest bc bs Q (.inr 2) h ↔ ∀ q : Nat, Ok 303 18 l [.ref q] h bc bs Q := Kc_x (by decide +kernel) (by decide +kernel)
set_option maxHeartbeats 8000000 in
theorem op_pass {A : Nat → Nat} {h : MH} (R : Rl A h) {q p : Int32} : Ok 303 0 [.ref (A 0), .int q, .int p, .ref (A 39), mk0] [] h 3 18 (fun r h1 => ∃ k : Int32, r = .inl (some (.int k)) ∧ g_c h1 (A 22) = 9 ∧ Ok 196 0 [.ref (A 22), .int q, .int p, mk0] [] h1 0 0 (fun r2 h2 => ∃ b : Int32, r2 = .inl (some (.int b)) ∧ Rl A h2 ∧ g_i h2 (A 22) 9 = k ∧ (k = 0 → g_l h2 (A 39) 0 = b.toInt64))) := by
  obtain ⟨vk, vcn, v0, v1, v2, vp, vl0, vl1, vlr, vsr, vc, tx⟩ := R
  have vk0 := vk
  have vcn0 := vcn
  (refine K_el vk0 ?_; intros hA kc0 kc1 kc2 kc3 kc4 kc5 kc6 kc7 kc8 kc9 kc10 kc11 kc12 kc13 kc14 kc15 kc16 kc17 kc18 kc19 kc20 kc21 kc22 kc23 kc24 kc25 kc26 kc27 kc28 kc29 kc30 kc31 kc32 kc33 kc34 kc35 kc36 kc37 kc38 kc39 kz kt kn3 kn4 kn18 kn21 kn23 kn24 kn25 kn26 kn27 kn29 kn30 kr0_0 kr0_1 kr0_2 kr0_3 kr0_4 kr0_5 kr0_7 kr0_8 kr0_9 kr0_10 kr1_0 kr2_0 kr5_0 kr5_1 kr6_0 kr6_1 kr7_0 kr7_1 kr8_0 kr9_0 kr10_0 kr11_0 kr12_0 kr13_0 kr14_0 kr15_0 kr16_0 kr17_0 kr19_0 kr19_1 kr22_0 kr22_1 kr22_2 kr22_3 kr22_4 kr22_5 kr22_7 kr22_8 kr25_0 kr25_1 kr25_2 kr26_0 kr26_1 kr26_2 kr29_0 kr29_1)
  (refine Cn_el vcn0 ?_; intros ki5_2 ki6_2 ki7_2 ki8_1 ki8_2 ki8_3 ki9_1 ki9_2 ki9_3 ki10_1 ki10_2 ki10_3 ki11_1 ki11_2 ki11_3 ki12_1 ki12_2 ki12_3 ki13_1 ki13_2 ki13_3 ki14_1 ki14_2 ki14_3 ki28_0 ki28_1 ki31_0 ki31_1 ki32_0 ki32_1 ki33_0 ki33_1 ki34_0 ki34_1 ki35_0 ki35_1 ki36_0 ki36_1)
  have hAe : ∀ i j, i < 40 → j < 40 → (A i = A j ↔ i = j) := hA
  by_cases bp : p < 0 ∨ ¬ p < 3
  · have bp2 : (¬ p < 0 ∧ p < 3) = False := nrng bp
    by_cases bq : q < 0 ∨ ¬ q < 3
    · have bq2 : (¬ q < 0 ∧ q < 3) = False := nrng bq
      by_cases ee : q = p
      · subst ee
        simp only [o303_0, o303_1, o303_2, o303_3, o303_4, o303_14, o303_16, o303_17, o73_0, o73_1, o73_2, o196_0, o196_1, o196_2, o196_5, o196_8, o196_9, o196_12, o196_15, o196_16, o196_19, o196_20, o196_21, o196_22, o196_25, o196_26, o196_29, o196_30, o196_33, o196_36, o196_37, o196_38, o196_39, o196_40, o196_41, o196_44, o196_45, hx_303_1, c_X8_isThrown_, c_X8_isQueue, c_queueOf_bad, mc_pi, mc_pT, mn_pi, mn_pT, mi_pi, mi_pT, ml_pi, ml_pT, mr_pi, mr_pT, mz_pT, mcs_0, mcs_r, Kn_v, Kn_x, mrf_some, true_and, and_true, not_true_eq_false, not_false_eq_true, false_implies, forall_const, if_true, if_false, and_self, Nat.reduceLeDiff, Nat.reduceSub, Nat.reduceAdd, Nat.zero_le, Nat.le_refl, i10, Sum.inl.injEq, Option.some.injEq, Value.int.injEq, exists_eq_left', Nat.reduceLT, kc0, kc22, kc26, kn26, kr22_3, kz, bq, bq2]
        intro t ht
        first | refine ⟨⟨?_, ?_, ?_, ?_, ?_, ?_, ?_, ?_, ?_, ?_, ?_, ?_⟩, rfl⟩ | refine ⟨?_, ?_, ?_, ?_, ?_, ?_, ?_, ?_, ?_, ?_, ?_, ?_⟩
        · (try simp only [K_pi])
          exact K_pT ht vk
        · (try simp only [Cn_pi_j22 hA, Cn_pT])
          exact vcn
        · (try simp only [Vq0_pi_j22 hA, Vq0_pT])
          exact v0
        · (try simp only [Vq1_pi_j22 hA, Vq1_pT])
          exact v1
        · (try simp only [Vq2_pi_j22 hA, Vq2_pT])
          exact v2
        · (try simp only [Vp_thr hA, Vp_pT])
          exact vp
        · (try simp only [Vl0_pi_j22 hA, Vl0_pT])
          exact vl0
        · (try simp only [Vl1_pi_j22 hA, Vl1_pT])
          exact vl1
        · (try simp only [Vlr_pi_j22 hA, Vlr_pT])
          exact vlr
        · (try simp only [Vsr_pi_j22 hA, Vsr_pT])
          exact vsr
        · (try simp only [Vc_pi_j22 hA, Vc_pT])
          exact vc
        · (try simp only [Tx_pi_j22 hA])
          exact Tx_pT ht tx
      · skip
        simp only [o303_0, o303_1, o303_2, o303_3, o303_4, o303_14, o303_16, o303_17, o73_0, o73_1, o73_2, o196_0, o196_1, o196_2, o196_5, o196_8, o196_9, o196_12, o196_15, o196_16, o196_19, o196_20, o196_21, o196_22, o196_25, o196_26, o196_29, o196_30, o196_33, o196_36, o196_37, o196_38, o196_39, o196_40, o196_41, o196_44, o196_45, hx_303_1, c_X8_isThrown_, c_X8_isQueue, c_queueOf_bad, mc_pi, mc_pT, mn_pi, mn_pT, mi_pi, mi_pT, ml_pi, ml_pT, mr_pi, mr_pT, mz_pT, mcs_0, mcs_r, Kn_v, Kn_x, mrf_some, true_and, and_true, not_true_eq_false, not_false_eq_true, false_implies, forall_const, if_true, if_false, and_self, Nat.reduceLeDiff, Nat.reduceSub, Nat.reduceAdd, Nat.zero_le, Nat.le_refl, i10, Sum.inl.injEq, Option.some.injEq, Value.int.injEq, exists_eq_left', Nat.reduceLT, kc0, kc22, kc26, kn26, kr22_3, kz, bq, bq2, bp2, ee]
        intro t ht
        first | refine ⟨⟨?_, ?_, ?_, ?_, ?_, ?_, ?_, ?_, ?_, ?_, ?_, ?_⟩, rfl⟩ | refine ⟨?_, ?_, ?_, ?_, ?_, ?_, ?_, ?_, ?_, ?_, ?_, ?_⟩
        · (try simp only [K_pi])
          exact K_pT ht vk
        · (try simp only [Cn_pi_j22 hA, Cn_pT])
          exact vcn
        · (try simp only [Vq0_pi_j22 hA, Vq0_pT])
          exact v0
        · (try simp only [Vq1_pi_j22 hA, Vq1_pT])
          exact v1
        · (try simp only [Vq2_pi_j22 hA, Vq2_pT])
          exact v2
        · (try simp only [Vp_thr hA, Vp_pT])
          exact vp
        · (try simp only [Vl0_pi_j22 hA, Vl0_pT])
          exact vl0
        · (try simp only [Vl1_pi_j22 hA, Vl1_pT])
          exact vl1
        · (try simp only [Vlr_pi_j22 hA, Vlr_pT])
          exact vlr
        · (try simp only [Vsr_pi_j22 hA, Vsr_pT])
          exact vsr
        · (try simp only [Vc_pi_j22 hA, Vc_pT])
          exact vc
        · (try simp only [Tx_pi_j22 hA])
          exact Tx_pT ht tx
    · have y1 : ¬ q < 0 := fun z => bq (Or.inl z)
      have y2 : q < 3 := Classical.byContradiction fun z => bq (Or.inr z)
      have bq2 : (¬ q < 0 ∧ q < 3) = True := eq_true ⟨y1, y2⟩
      rcases q_cases y1 y2 with rfl | rfl | rfl
      · have ee : ((0 : Int32) = p) = False := eq_false (fun z => by rw [← z] at bp; exact absurd bp (by decide))
        simp only [o303_0, o303_1, o303_2, o303_3, o303_4, o303_14, o303_16, o303_17, o73_0, o73_1, o73_2, o73_5, o73_6, o73_7, o73_8, o196_0, o196_1, o196_2, o196_5, o196_8, o196_9, o196_12, o196_15, o196_16, o196_19, o196_20, o196_21, o196_22, o196_25, o196_26, o196_29, o196_30, o196_33, o196_36, o196_37, o196_38, o196_39, o196_40, o196_41, o196_44, o196_45, o196_46, hx_303_1, c_X8_isThrown_, c_X8_isQueue, c_queueOf_bad, c_queueOf_0, mc_pi, mc_pT, mn_pi, mn_pT, mi_pi, mi_pT, ml_pi, ml_pT, mr_pi, mr_pT, mz_pT, mcs_0, mcs_r, Kn_v, Kn_x, mrf_some, true_and, and_true, not_true_eq_false, not_false_eq_true, false_implies, forall_const, if_true, if_false, and_self, Nat.reduceLeDiff, Nat.reduceSub, Nat.reduceAdd, Nat.zero_le, Nat.le_refl, i10, Int32.reduceLT, cl0, Sum.inl.injEq, Option.some.injEq, Value.int.injEq, exists_eq_left', Nat.reduceLT, kc0, kc22, kc26, kc34, kn26, kr0_2, kr22_3, kr26_0, kz, bp, bp2, ee, vq3]
        intro t ht
        first | refine ⟨⟨?_, ?_, ?_, ?_, ?_, ?_, ?_, ?_, ?_, ?_, ?_, ?_⟩, rfl⟩ | refine ⟨?_, ?_, ?_, ?_, ?_, ?_, ?_, ?_, ?_, ?_, ?_, ?_⟩
        · (try simp only [K_pi])
          exact K_pT ht vk
        · (try simp only [Cn_pi_j22 hA, Cn_pT])
          exact vcn
        · (try simp only [Vq0_pi_j22 hA, Vq0_pT])
          exact v0
        · (try simp only [Vq1_pi_j22 hA, Vq1_pT])
          exact v1
        · (try simp only [Vq2_pi_j22 hA, Vq2_pT])
          exact v2
        · (try simp only [Vp_thr hA, Vp_pT])
          exact vp
        · (try simp only [Vl0_pi_j22 hA, Vl0_pT])
          exact vl0
        · (try simp only [Vl1_pi_j22 hA, Vl1_pT])
          exact vl1
        · (try simp only [Vlr_pi_j22 hA, Vlr_pT])
          exact vlr
        · (try simp only [Vsr_pi_j22 hA, Vsr_pT])
          exact vsr
        · (try simp only [Vc_pi_j22 hA, Vc_pT])
          exact vc
        · (try simp only [Tx_pi_j22 hA])
          exact Tx_pT ht tx
      · have ee : ((1 : Int32) = p) = False := eq_false (fun z => by rw [← z] at bp; exact absurd bp (by decide))
        simp only [o303_0, o303_1, o303_2, o303_3, o303_4, o303_14, o303_16, o303_17, o73_0, o73_1, o73_2, o73_5, o73_6, o73_7, o73_8, o196_0, o196_1, o196_2, o196_5, o196_8, o196_9, o196_12, o196_15, o196_16, o196_19, o196_20, o196_21, o196_22, o196_25, o196_26, o196_29, o196_30, o196_33, o196_36, o196_37, o196_38, o196_39, o196_40, o196_41, o196_44, o196_45, o196_46, hx_303_1, c_X8_isThrown_, c_X8_isQueue, c_queueOf_bad, c_queueOf_1, mc_pi, mc_pT, mn_pi, mn_pT, mi_pi, mi_pT, ml_pi, ml_pT, mr_pi, mr_pT, mz_pT, mcs_0, mcs_r, Kn_v, Kn_x, mrf_some, true_and, and_true, not_true_eq_false, not_false_eq_true, false_implies, forall_const, if_true, if_false, and_self, Nat.reduceLeDiff, Nat.reduceSub, Nat.reduceAdd, Nat.zero_le, Nat.le_refl, i10, Int32.reduceLT, cl1, Sum.inl.injEq, Option.some.injEq, Value.int.injEq, exists_eq_left', Nat.reduceLT, kc0, kc22, kc26, kc35, kn26, kr0_3, kr22_3, kr26_1, kz, bp, bp2, ee, vq3]
        intro t ht
        first | refine ⟨⟨?_, ?_, ?_, ?_, ?_, ?_, ?_, ?_, ?_, ?_, ?_, ?_⟩, rfl⟩ | refine ⟨?_, ?_, ?_, ?_, ?_, ?_, ?_, ?_, ?_, ?_, ?_, ?_⟩
        · (try simp only [K_pi])
          exact K_pT ht vk
        · (try simp only [Cn_pi_j22 hA, Cn_pT])
          exact vcn
        · (try simp only [Vq0_pi_j22 hA, Vq0_pT])
          exact v0
        · (try simp only [Vq1_pi_j22 hA, Vq1_pT])
          exact v1
        · (try simp only [Vq2_pi_j22 hA, Vq2_pT])
          exact v2
        · (try simp only [Vp_thr hA, Vp_pT])
          exact vp
        · (try simp only [Vl0_pi_j22 hA, Vl0_pT])
          exact vl0
        · (try simp only [Vl1_pi_j22 hA, Vl1_pT])
          exact vl1
        · (try simp only [Vlr_pi_j22 hA, Vlr_pT])
          exact vlr
        · (try simp only [Vsr_pi_j22 hA, Vsr_pT])
          exact vsr
        · (try simp only [Vc_pi_j22 hA, Vc_pT])
          exact vc
        · (try simp only [Tx_pi_j22 hA])
          exact Tx_pT ht tx
      · have ee : ((2 : Int32) = p) = False := eq_false (fun z => by rw [← z] at bp; exact absurd bp (by decide))
        simp only [o303_0, o303_1, o303_2, o303_3, o303_4, o303_14, o303_16, o303_17, o73_0, o73_1, o73_2, o73_5, o73_6, o73_7, o73_8, o196_0, o196_1, o196_2, o196_5, o196_8, o196_9, o196_12, o196_15, o196_16, o196_19, o196_20, o196_21, o196_22, o196_25, o196_26, o196_29, o196_30, o196_33, o196_36, o196_37, o196_38, o196_39, o196_40, o196_41, o196_44, o196_45, o196_46, hx_303_1, c_X8_isThrown_, c_X8_isQueue, c_queueOf_bad, c_queueOf_2, mc_pi, mc_pT, mn_pi, mn_pT, mi_pi, mi_pT, ml_pi, ml_pT, mr_pi, mr_pT, mz_pT, mcs_0, mcs_r, Kn_v, Kn_x, mrf_some, true_and, and_true, not_true_eq_false, not_false_eq_true, false_implies, forall_const, if_true, if_false, and_self, Nat.reduceLeDiff, Nat.reduceSub, Nat.reduceAdd, Nat.zero_le, Nat.le_refl, i10, Int32.reduceLT, cl2, Sum.inl.injEq, Option.some.injEq, Value.int.injEq, exists_eq_left', Nat.reduceLT, kc0, kc22, kc26, kc36, kn26, kr0_4, kr22_3, kr26_2, kz, bp, bp2, ee, vq3]
        intro t ht
        first | refine ⟨⟨?_, ?_, ?_, ?_, ?_, ?_, ?_, ?_, ?_, ?_, ?_, ?_⟩, rfl⟩ | refine ⟨?_, ?_, ?_, ?_, ?_, ?_, ?_, ?_, ?_, ?_, ?_, ?_⟩
        · (try simp only [K_pi])
          exact K_pT ht vk
        · (try simp only [Cn_pi_j22 hA, Cn_pT])
          exact vcn
        · (try simp only [Vq0_pi_j22 hA, Vq0_pT])
          exact v0
        · (try simp only [Vq1_pi_j22 hA, Vq1_pT])
          exact v1
        · (try simp only [Vq2_pi_j22 hA, Vq2_pT])
          exact v2
        · (try simp only [Vp_thr hA, Vp_pT])
          exact vp
        · (try simp only [Vl0_pi_j22 hA, Vl0_pT])
          exact vl0
        · (try simp only [Vl1_pi_j22 hA, Vl1_pT])
          exact vl1
        · (try simp only [Vlr_pi_j22 hA, Vlr_pT])
          exact vlr
        · (try simp only [Vsr_pi_j22 hA, Vsr_pT])
          exact vsr
        · (try simp only [Vc_pi_j22 hA, Vc_pT])
          exact vc
        · (try simp only [Tx_pi_j22 hA])
          exact Tx_pT ht tx
  · have y3 : ¬ p < 0 := fun z => bp (Or.inl z)
    have y4 : p < 3 := Classical.byContradiction fun z => bp (Or.inr z)
    have bp2 : (¬ p < 0 ∧ p < 3) = True := eq_true ⟨y3, y4⟩
    by_cases bq : q < 0 ∨ ¬ q < 3
    · have bq2 : (¬ q < 0 ∧ q < 3) = False := nrng bq
      have ee : (q = p) = False := eq_false (fun z => bp (z ▸ bq))
      simp only [o303_0, o303_1, o303_2, o303_3, o303_4, o303_14, o303_16, o303_17, o73_0, o73_1, o73_2, o196_0, o196_1, o196_2, o196_5, o196_8, o196_9, o196_12, o196_15, o196_16, o196_19, o196_20, o196_21, o196_22, o196_25, o196_26, o196_29, o196_30, o196_33, o196_36, o196_37, o196_38, o196_39, o196_40, o196_41, o196_44, o196_45, hx_303_1, c_X8_isThrown_, c_X8_isQueue, c_queueOf_bad, mc_pi, mc_pT, mn_pi, mn_pT, mi_pi, mi_pT, ml_pi, ml_pT, mr_pi, mr_pT, mz_pT, mcs_0, mcs_r, Kn_v, Kn_x, mrf_some, true_and, and_true, not_true_eq_false, not_false_eq_true, false_implies, forall_const, if_true, if_false, and_self, Nat.reduceLeDiff, Nat.reduceSub, Nat.reduceAdd, Nat.zero_le, Nat.le_refl, i10, Sum.inl.injEq, Option.some.injEq, Value.int.injEq, exists_eq_left', Nat.reduceLT, kc0, kc22, kc26, kn26, kr22_3, kz, bq, bq2, bp2, ee]
      intro t ht
      first | refine ⟨⟨?_, ?_, ?_, ?_, ?_, ?_, ?_, ?_, ?_, ?_, ?_, ?_⟩, rfl⟩ | refine ⟨?_, ?_, ?_, ?_, ?_, ?_, ?_, ?_, ?_, ?_, ?_, ?_⟩
      · (try simp only [K_pi])
        exact K_pT ht vk
      · (try simp only [Cn_pi_j22 hA, Cn_pT])
        exact vcn
      · (try simp only [Vq0_pi_j22 hA, Vq0_pT])
        exact v0
      · (try simp only [Vq1_pi_j22 hA, Vq1_pT])
        exact v1
      · (try simp only [Vq2_pi_j22 hA, Vq2_pT])
        exact v2
      · (try simp only [Vp_thr hA, Vp_pT])
        exact vp
      · (try simp only [Vl0_pi_j22 hA, Vl0_pT])
        exact vl0
      · (try simp only [Vl1_pi_j22 hA, Vl1_pT])
        exact vl1
      · (try simp only [Vlr_pi_j22 hA, Vlr_pT])
        exact vlr
      · (try simp only [Vsr_pi_j22 hA, Vsr_pT])
        exact vsr
      · (try simp only [Vc_pi_j22 hA, Vc_pT])
        exact vc
      · (try simp only [Tx_pi_j22 hA])
        exact Tx_pT ht tx
    · have y1 : ¬ q < 0 := fun z => bq (Or.inl z)
      have y2 : q < 3 := Classical.byContradiction fun z => bq (Or.inr z)
      have bq2 : (¬ q < 0 ∧ q < 3) = True := eq_true ⟨y1, y2⟩
      rcases q_cases y1 y2 with rfl | rfl | rfl
      · rcases q_cases y3 y4 with rfl | rfl | rfl
        · skip
          simp only [o303_0, o303_1, o303_2, o303_3, o303_4, o303_18, o303_20, o303_21, o73_0, o73_1, o73_2, o73_5, o73_6, o73_7, o73_8, o73_11, o73_13, o73_14, o73_15, o73_18, o73_28, o73_29, o196_0, o196_1, o196_2, o196_5, o196_8, o196_9, o196_12, o196_15, o196_16, o196_19, o196_20, o196_21, o196_22, o196_25, o196_26, o196_29, o196_30, o196_33, o196_36, o196_37, o196_38, o196_39, o196_40, o196_41, o196_44, o196_45, o196_46, hx_303_2, c_X8_isThrown_, c_X8_isQueue, c_queueOf_0, mc_pi, mc_pT, mn_pi, mn_pT, mi_pi, mi_pT, ml_pi, ml_pT, mr_pi, mr_pT, mz_pT, mcs_0, mcs_r, Kn_v, mrf_some, true_and, and_true, and_false, not_true_eq_false, not_false_eq_true, false_implies, forall_const, if_true, if_false, and_self, Nat.reduceLeDiff, Nat.reduceSub, Nat.reduceAdd, Nat.zero_le, Nat.le_refl, i10, Int32.reduceLT, cl0, Sum.inl.injEq, Option.some.injEq, Value.int.injEq, exists_eq_left', Nat.reduceLT, i20, kc0, kc5, kc22, kc26, kc34, kn26, kr0_2, kr22_3, kr26_0, kz, vq3]
          intro t ht
          first | refine ⟨⟨?_, ?_, ?_, ?_, ?_, ?_, ?_, ?_, ?_, ?_, ?_, ?_⟩, rfl⟩ | refine ⟨?_, ?_, ?_, ?_, ?_, ?_, ?_, ?_, ?_, ?_, ?_, ?_⟩
          · (try simp only [K_pi])
            exact K_pT ht vk
          · (try simp only [Cn_pi_j22 hA, Cn_pT])
            exact vcn
          · (try simp only [Vq0_pi_j22 hA, Vq0_pT])
            exact v0
          · (try simp only [Vq1_pi_j22 hA, Vq1_pT])
            exact v1
          · (try simp only [Vq2_pi_j22 hA, Vq2_pT])
            exact v2
          · (try simp only [Vp_thr hA, Vp_pT])
            exact vp
          · (try simp only [Vl0_pi_j22 hA, Vl0_pT])
            exact vl0
          · (try simp only [Vl1_pi_j22 hA, Vl1_pT])
            exact vl1
          · (try simp only [Vlr_pi_j22 hA, Vlr_pT])
            exact vlr
          · (try simp only [Vsr_pi_j22 hA, Vsr_pT])
            exact vsr
          · (try simp only [Vc_pi_j22 hA, Vc_pT])
            exact vc
          · (try simp only [Tx_pi_j22 hA])
            exact Tx_pT ht tx
        · obtain ⟨N, t2, u2, rc2, rm2, a1, a2, a3, a4, a5⟩ := pas01 vk vcn v0.2 v1.2 vlr
          have hTi := v0.1.symm
          have hTj := v1.1.symm
          replace a5 := fun (m : MH) (Q : MR → MH → Prop) => a5 m Q
          simp only [o303_0, o303_1, o303_2, o303_3, o303_4, o303_7, o303_8, o303_11, o303_18, o303_20, o303_21, o303_22, o303_23, o73_0, o73_1, o73_2, o73_5, o73_6, o73_7, o73_8, o73_11, o73_13, o73_14, o73_15, o73_18, o73_28, o73_29, o73_32, o73_34, o73_35, o73_67, o73_68, o73_71, o73_73, o73_76, o196_0, o196_1, o196_2, o196_5, o196_8, o196_9, o196_12, o196_15, o196_16, o196_19, o196_20, o196_21, o196_22, o196_25, o196_26, o196_29, o196_30, o196_33, o196_36, o196_37, o196_38, o196_39, o196_80, o196_81, o196_82, o196_85, hx_303_2, c_X8_isThrown_, c_X8_isQueue, c_queueOf_0, c_queueOf_1, c_X1_lying (w := A 8) (r := A 9), c_X0_done (cs := A 18), c_X8_done (cs := A 30), a4, a5, mc_pi, mc_pl, mc_pT, mn_pi, mn_pl, mi_pi, mi_pl, mi_pT, ml_pi, ml_pl, ml_pT, mr_pi, mr_pl, mz_pi, mz_pl, mz_pT, mcs_0, mcs_r, Kn_v, mrf_some, true_and, and_true, false_and, not_true_eq_false, not_false_eq_true, false_implies, implies_true, forall_const, if_true, if_false, and_self, Nat.reduceEqDiff, Nat.reduceLeDiff, Nat.reduceSub, Nat.reduceAdd, Nat.zero_le, Nat.le_refl, i10, i01, Int32.reduceLT, Kc_v, Sum.inl.injEq, Option.some.injEq, Value.int.injEq, exists_eq_left', Nat.reduceLT, hAe, i20, kc0, kc5, kc8, kc9, kc17, kc18, kc22, kc30, kc39, kn18, kn30, kr0_2, kr0_3, kr0_9, kr5_0, kr5_1, kr17_0, kr22_8, kz, hTi, hTj, icw0_j18 hA, icw0_j22 hA, imw0_j22 hA, icw0_j30 hA, imw0_j30 hA, icw1_j18 hA, icw1_j22 hA, imw1_j22 hA, icw1_j30 hA, imw1_j30 hA, c_cW, n_cW, r_cW, z_cW, l_cW, c_mW, n_mW, r_mW, z_mW, l_mW, pL_c, pL_n, pL_r, pL_i, pL_z, pL_l, K_pi, K_pl, K_cW, K_pL, Cn_pi_j18 hA, Cn_pi_j22 hA, Cn_pl, Cn_cW0 hA, Cn_cW1 hA, Cn_pL3 hA, vk, vcn, mT0_pi_j18 hA, mT0_pi_j22 hA, mT0_pl, mT0_cW hA, l_cW, l_mW, mT1_pi_j18 hA, mT1_pi_j22 hA, mT1_pl, mT1_cW hA, mT_pL, mT0_cW hA, mT1_cW hA, mTx0_cW1 hA, mTx1_cW0 hA]
          first | refine ⟨⟨?_, ?_, ?_, ?_, ?_, ?_, ?_, ?_, ?_, ?_, ?_, ?_⟩, rfl⟩ | refine ⟨?_, ?_, ?_, ?_, ?_, ?_, ?_, ?_, ?_, ?_, ?_, ?_⟩
          · (try simp only [K_pi, K_pl, K_cW, K_mW, K_pL])
            exact vk
          · (try simp only [Cn_pi_j18 hA, Cn_pi_j22 hA, Cn_pi_j30 hA, Cn_pl, Cn_cW0 hA, Cn_cW1 hA, Cn_mW0 hA, Cn_mW1 hA, Cn_pL3 hA, Cn_pL23 hA])
            exact vcn
          · simp only [Vq0_pi_j30 hA, Vq0_mW1 hA, Vq0_mW1 hA, Vq0_mW hA, cT_pL, cT0_pi_j18 hA, cT0_pi_j22 hA, cT0_pl, cT0_cW hA, cT0_cW1 hA]
            exact ⟨trivial, a1⟩
          · simp only [Vq1_pi_j30 hA, Vq1_mW hA, cT_pL, cT1_pi_j18 hA, cT1_pi_j22 hA, cT1_pl, cT1_cW hA, cT1_mWo0 hA]
            exact ⟨trivial, a2⟩
          · (try simp only [Vq2_pi_j18 hA, Vq2_pi_j22 hA, Vq2_pi_j30 hA, Vq2_pl, Vq2_cW0 hA, Vq2_cW1 hA, Vq2_mW0 hA, Vq2_mW1 hA, Vq2_pL3 hA, Vq2_pL23 hA])
            exact v2
          · (try simp only [Vp_pi_j18 hA, Vp_pi_j30 hA, Vp_thr hA, Vp_pl, Vp_cW0 hA, Vp_cW1 hA, Vp_mW0 hA, Vp_mW1 hA, Vp_pL3 hA, Vp_pL23 hA])
            exact vp
          · (try simp only [Vl0_pi_j18 hA, Vl0_pi_j22 hA, Vl0_pi_j30 hA, Vl0_pl, Vl0_cW0 hA, Vl0_cW1 hA, Vl0_mW0 hA, Vl0_mW1 hA, Vl0_pL3 hA, Vl0_pL23 hA])
            exact vl0
          · (try simp only [Vl1_pi_j18 hA, Vl1_pi_j22 hA, Vl1_pi_j30 hA, Vl1_pl, Vl1_cW0 hA, Vl1_cW1 hA, Vl1_mW0 hA, Vl1_mW1 hA, Vl1_pL3 hA, Vl1_pL23 hA])
            exact vl1
          · simp only [Vlr, l_cW, l_mW, ml_pi, ml_pl, hAe, Nat.reduceLT, Nat.reduceEqDiff, false_and, if_false, if_true, pL_l]
            exact a3
          · (try simp only [Vsr_pi_j18 hA, Vsr_pi_j22 hA, Vsr_pi_j30 hA, Vsr_pl_j39 hA, Vsr_cW0 hA, Vsr_cW1 hA, Vsr_mW0 hA, Vsr_mW1 hA, Vsr_pL3 hA, Vsr_pL23 hA])
            exact vsr
          · refine Vc_of (c := 0) vc (by decide) (fun k => ?_) (fun k => ?_) <;> simp only [mi_pi, mi_pl, hAe, Nat.reduceLT, Nat.reduceEqDiff, false_and, true_and, if_false, pL_i, icw0_j18 hA, imw0_j18 hA, icw0_j30 hA, imw0_j30 hA, icw1_j18 hA, imw1_j18 hA, icw1_j30 hA, imw1_j30 hA]
          · (try simp only [Tx_pi_j18 hA, Tx_pi_j22 hA, Tx_pi_j30 hA, Tx_pl, Tx_cW0 hA, Tx_cW1 hA, Tx_mW0 hA, Tx_mW1 hA, Tx_pL3 hA, Tx_pL23 hA])
            exact tx
        · obtain ⟨N, t2, u2, rc2, rm2, a1, a2, a3, a4, a5⟩ := pas02 vk vcn v0.2 v2.2 vlr
          have hTi := v0.1.symm
          have hTj := v2.1.symm
          replace a5 := fun (m : MH) (Q : MR → MH → Prop) => a5 m Q
          simp only [o303_0, o303_1, o303_2, o303_3, o303_4, o303_7, o303_8, o303_11, o303_18, o303_20, o303_21, o303_22, o303_23, o73_0, o73_1, o73_2, o73_5, o73_6, o73_7, o73_8, o73_11, o73_13, o73_14, o73_15, o73_18, o73_28, o73_29, o73_32, o73_34, o73_35, o73_67, o73_68, o73_71, o73_73, o73_76, o196_0, o196_1, o196_2, o196_5, o196_8, o196_9, o196_12, o196_15, o196_16, o196_19, o196_20, o196_21, o196_22, o196_25, o196_26, o196_29, o196_30, o196_33, o196_36, o196_37, o196_38, o196_39, o196_80, o196_81, o196_82, o196_85, hx_303_2, c_X8_isThrown_, c_X8_isQueue, c_queueOf_0, c_queueOf_2, c_X1_lying (w := A 8) (r := A 9), c_X0_done (cs := A 18), c_X8_done (cs := A 30), a4, a5, mc_pi, mc_pl, mc_pT, mn_pi, mn_pl, mi_pi, mi_pl, mi_pT, ml_pi, ml_pl, ml_pT, mr_pi, mr_pl, mz_pi, mz_pl, mz_pT, mcs_0, mcs_r, Kn_v, mrf_some, true_and, and_true, false_and, not_true_eq_false, not_false_eq_true, false_implies, implies_true, forall_const, if_true, if_false, and_self, Nat.reduceEqDiff, Nat.reduceLeDiff, Nat.reduceSub, Nat.reduceAdd, Nat.zero_le, Nat.le_refl, i10, Int32.reduceLT, Kc_v, Sum.inl.injEq, Option.some.injEq, Value.int.injEq, exists_eq_left', Nat.reduceLT, hAe, i20, kc0, kc5, kc8, kc9, kc17, kc18, kc22, kc30, kc39, kn18, kn30, kr0_2, kr0_4, kr0_9, kr5_0, kr5_1, kr17_0, kr22_8, kz, qpe, hTi, hTj, icw0_j18 hA, icw0_j22 hA, imw0_j22 hA, icw0_j30 hA, imw0_j30 hA, icw2_j18 hA, icw2_j22 hA, imw2_j22 hA, icw2_j30 hA, imw2_j30 hA, c_cW, n_cW, r_cW, z_cW, l_cW, c_mW, n_mW, r_mW, z_mW, l_mW, pL_c, pL_n, pL_r, pL_i, pL_z, pL_l, K_pi, K_pl, K_cW, K_pL, Cn_pi_j18 hA, Cn_pi_j22 hA, Cn_pl, Cn_cW0 hA, Cn_cW2 hA, Cn_pL3 hA, vk, vcn, mT0_pi_j18 hA, mT0_pi_j22 hA, mT0_pl, mT0_cW hA, l_cW, l_mW, mT2_pi_j18 hA, mT2_pi_j22 hA, mT2_pl, mT2_cW hA, mT_pL, mT0_cW hA, mT2_cW hA, mTx0_cW2 hA, mTx2_cW0 hA]
          first | refine ⟨⟨?_, ?_, ?_, ?_, ?_, ?_, ?_, ?_, ?_, ?_, ?_, ?_⟩, rfl⟩ | refine ⟨?_, ?_, ?_, ?_, ?_, ?_, ?_, ?_, ?_, ?_, ?_, ?_⟩
          · (try simp only [K_pi, K_pl, K_cW, K_mW, K_pL])
            exact vk
          · (try simp only [Cn_pi_j18 hA, Cn_pi_j22 hA, Cn_pi_j30 hA, Cn_pl, Cn_cW0 hA, Cn_cW2 hA, Cn_mW0 hA, Cn_mW2 hA, Cn_pL3 hA, Cn_pL23 hA])
            exact vcn
          · simp only [Vq0_pi_j30 hA, Vq0_mW2 hA, Vq0_mW2 hA, Vq0_mW hA, cT_pL, cT0_pi_j18 hA, cT0_pi_j22 hA, cT0_pl, cT0_cW hA, cT0_cW2 hA]
            exact ⟨trivial, a1⟩
          · (try simp only [Vq1_pi_j18 hA, Vq1_pi_j22 hA, Vq1_pi_j30 hA, Vq1_pl, Vq1_cW0 hA, Vq1_cW2 hA, Vq1_mW0 hA, Vq1_mW2 hA, Vq1_pL3 hA, Vq1_pL23 hA])
            exact v1
          · simp only [Vq2_pi_j30 hA, Vq2_mW hA, cT_pL, cT2_pi_j18 hA, cT2_pi_j22 hA, cT2_pl, cT2_cW hA, cT2_mWo0 hA]
            exact ⟨trivial, a2⟩
          · (try simp only [Vp_pi_j18 hA, Vp_pi_j30 hA, Vp_thr hA, Vp_pl, Vp_cW0 hA, Vp_cW2 hA, Vp_mW0 hA, Vp_mW2 hA, Vp_pL3 hA, Vp_pL23 hA])
            exact vp
          · (try simp only [Vl0_pi_j18 hA, Vl0_pi_j22 hA, Vl0_pi_j30 hA, Vl0_pl, Vl0_cW0 hA, Vl0_cW2 hA, Vl0_mW0 hA, Vl0_mW2 hA, Vl0_pL3 hA, Vl0_pL23 hA])
            exact vl0
          · (try simp only [Vl1_pi_j18 hA, Vl1_pi_j22 hA, Vl1_pi_j30 hA, Vl1_pl, Vl1_cW0 hA, Vl1_cW2 hA, Vl1_mW0 hA, Vl1_mW2 hA, Vl1_pL3 hA, Vl1_pL23 hA])
            exact vl1
          · simp only [Vlr, l_cW, l_mW, ml_pi, ml_pl, hAe, Nat.reduceLT, Nat.reduceEqDiff, false_and, if_false, if_true, pL_l]
            exact a3
          · (try simp only [Vsr_pi_j18 hA, Vsr_pi_j22 hA, Vsr_pi_j30 hA, Vsr_pl_j39 hA, Vsr_cW0 hA, Vsr_cW2 hA, Vsr_mW0 hA, Vsr_mW2 hA, Vsr_pL3 hA, Vsr_pL23 hA])
            exact vsr
          · refine Vc_of (c := 0) vc (by decide) (fun k => ?_) (fun k => ?_) <;> simp only [mi_pi, mi_pl, hAe, Nat.reduceLT, Nat.reduceEqDiff, false_and, true_and, if_false, pL_i, icw0_j18 hA, imw0_j18 hA, icw0_j30 hA, imw0_j30 hA, icw2_j18 hA, imw2_j18 hA, icw2_j30 hA, imw2_j30 hA]
          · (try simp only [Tx_pi_j18 hA, Tx_pi_j22 hA, Tx_pi_j30 hA, Tx_pl, Tx_cW0 hA, Tx_cW2 hA, Tx_mW0 hA, Tx_mW2 hA, Tx_pL3 hA, Tx_pL23 hA])
            exact tx
      · rcases q_cases y3 y4 with rfl | rfl | rfl
        · obtain ⟨N, t2, u2, rc2, rm2, a1, a2, a3, a4, a5⟩ := pas10 vk vcn v1.2 v0.2 vlr
          have hTi := v1.1.symm
          have hTj := v0.1.symm
          replace a5 := fun (m : MH) (Q : MR → MH → Prop) => a5 m Q
          simp only [o303_0, o303_1, o303_2, o303_3, o303_4, o303_7, o303_8, o303_11, o303_18, o303_20, o303_21, o303_22, o303_23, o73_0, o73_1, o73_2, o73_5, o73_6, o73_7, o73_8, o73_11, o73_13, o73_14, o73_15, o73_18, o73_28, o73_29, o73_32, o73_34, o73_35, o73_67, o73_68, o73_71, o73_73, o73_76, o196_0, o196_1, o196_2, o196_5, o196_8, o196_9, o196_12, o196_15, o196_16, o196_19, o196_20, o196_21, o196_22, o196_25, o196_26, o196_29, o196_30, o196_33, o196_36, o196_37, o196_38, o196_39, o196_80, o196_81, o196_82, o196_85, hx_303_2, c_X8_isThrown_, c_X8_isQueue, c_queueOf_1, c_queueOf_0, c_X1_lying (w := A 10) (r := A 11), c_X0_done (cs := A 18), c_X8_done (cs := A 30), a4, a5, mc_pi, mc_pl, mc_pT, mn_pi, mn_pl, mi_pi, mi_pl, mi_pT, ml_pi, ml_pl, ml_pT, mr_pi, mr_pl, mz_pi, mz_pl, mz_pT, mcs_0, mcs_r, Kn_v, mrf_some, true_and, and_true, false_and, not_true_eq_false, not_false_eq_true, false_implies, implies_true, forall_const, if_true, if_false, and_self, Nat.reduceEqDiff, Nat.reduceLeDiff, Nat.reduceSub, Nat.reduceAdd, Nat.zero_le, Nat.le_refl, i10, Int32.reduceLT, Kc_v, Sum.inl.injEq, Option.some.injEq, Value.int.injEq, exists_eq_left', Nat.reduceLT, hAe, i20, kc0, kc6, kc10, kc11, kc17, kc18, kc22, kc30, kc39, kn18, kn30, kr0_2, kr0_3, kr0_9, kr6_0, kr6_1, kr17_0, kr22_8, kz, hTi, hTj, icw1_j18 hA, icw1_j22 hA, imw1_j22 hA, icw1_j30 hA, imw1_j30 hA, icw0_j18 hA, icw0_j22 hA, imw0_j22 hA, icw0_j30 hA, imw0_j30 hA, c_cW, n_cW, r_cW, z_cW, l_cW, c_mW, n_mW, r_mW, z_mW, l_mW, pL_c, pL_n, pL_r, pL_i, pL_z, pL_l, K_pi, K_pl, K_cW, K_pL, Cn_pi_j18 hA, Cn_pi_j22 hA, Cn_pl, Cn_cW1 hA, Cn_cW0 hA, Cn_pL3 hA, vk, vcn, mT1_pi_j18 hA, mT1_pi_j22 hA, mT1_pl, mT1_cW hA, l_cW, l_mW, mT0_pi_j18 hA, mT0_pi_j22 hA, mT0_pl, mT0_cW hA, mT_pL, mT1_cW hA, mT0_cW hA, mTx1_cW0 hA, mTx0_cW1 hA]
          first | refine ⟨⟨?_, ?_, ?_, ?_, ?_, ?_, ?_, ?_, ?_, ?_, ?_, ?_⟩, rfl⟩ | refine ⟨?_, ?_, ?_, ?_, ?_, ?_, ?_, ?_, ?_, ?_, ?_, ?_⟩
          · (try simp only [K_pi, K_pl, K_cW, K_mW, K_pL])
            exact vk
          · (try simp only [Cn_pi_j18 hA, Cn_pi_j22 hA, Cn_pi_j30 hA, Cn_pl, Cn_cW1 hA, Cn_cW0 hA, Cn_mW1 hA, Cn_mW0 hA, Cn_pL3 hA, Cn_pL23 hA])
            exact vcn
          · simp only [Vq0_pi_j30 hA, Vq0_mW hA, cT_pL, cT0_pi_j18 hA, cT0_pi_j22 hA, cT0_pl, cT0_cW hA, cT0_mWo1 hA]
            exact ⟨trivial, a2⟩
          · simp only [Vq1_pi_j30 hA, Vq1_mW0 hA, Vq1_mW0 hA, Vq1_mW hA, cT_pL, cT1_pi_j18 hA, cT1_pi_j22 hA, cT1_pl, cT1_cW hA, cT1_cW0 hA]
            exact ⟨trivial, a1⟩
          · (try simp only [Vq2_pi_j18 hA, Vq2_pi_j22 hA, Vq2_pi_j30 hA, Vq2_pl, Vq2_cW1 hA, Vq2_cW0 hA, Vq2_mW1 hA, Vq2_mW0 hA, Vq2_pL3 hA, Vq2_pL23 hA])
            exact v2
          · (try simp only [Vp_pi_j18 hA, Vp_pi_j30 hA, Vp_thr hA, Vp_pl, Vp_cW1 hA, Vp_cW0 hA, Vp_mW1 hA, Vp_mW0 hA, Vp_pL3 hA, Vp_pL23 hA])
            exact vp
          · (try simp only [Vl0_pi_j18 hA, Vl0_pi_j22 hA, Vl0_pi_j30 hA, Vl0_pl, Vl0_cW1 hA, Vl0_cW0 hA, Vl0_mW1 hA, Vl0_mW0 hA, Vl0_pL3 hA, Vl0_pL23 hA])
            exact vl0
          · (try simp only [Vl1_pi_j18 hA, Vl1_pi_j22 hA, Vl1_pi_j30 hA, Vl1_pl, Vl1_cW1 hA, Vl1_cW0 hA, Vl1_mW1 hA, Vl1_mW0 hA, Vl1_pL3 hA, Vl1_pL23 hA])
            exact vl1
          · simp only [Vlr, l_cW, l_mW, ml_pi, ml_pl, hAe, Nat.reduceLT, Nat.reduceEqDiff, false_and, if_false, if_true, pL_l]
            exact a3
          · (try simp only [Vsr_pi_j18 hA, Vsr_pi_j22 hA, Vsr_pi_j30 hA, Vsr_pl_j39 hA, Vsr_cW1 hA, Vsr_cW0 hA, Vsr_mW1 hA, Vsr_mW0 hA, Vsr_pL3 hA, Vsr_pL23 hA])
            exact vsr
          · refine Vc_of (c := 0) vc (by decide) (fun k => ?_) (fun k => ?_) <;> simp only [mi_pi, mi_pl, hAe, Nat.reduceLT, Nat.reduceEqDiff, false_and, true_and, if_false, pL_i, icw1_j18 hA, imw1_j18 hA, icw1_j30 hA, imw1_j30 hA, icw0_j18 hA, imw0_j18 hA, icw0_j30 hA, imw0_j30 hA]
          · (try simp only [Tx_pi_j18 hA, Tx_pi_j22 hA, Tx_pi_j30 hA, Tx_pl, Tx_cW1 hA, Tx_cW0 hA, Tx_mW1 hA, Tx_mW0 hA, Tx_pL3 hA, Tx_pL23 hA])
            exact tx
        · skip
          simp only [o303_0, o303_1, o303_2, o303_3, o303_4, o303_18, o303_20, o303_21, o73_0, o73_1, o73_2, o73_5, o73_6, o73_7, o73_8, o73_11, o73_13, o73_14, o73_15, o73_18, o73_28, o73_29, o196_0, o196_1, o196_2, o196_5, o196_8, o196_9, o196_12, o196_15, o196_16, o196_19, o196_20, o196_21, o196_22, o196_25, o196_26, o196_29, o196_30, o196_33, o196_36, o196_37, o196_38, o196_39, o196_40, o196_41, o196_44, o196_45, o196_46, hx_303_2, c_X8_isThrown_, c_X8_isQueue, c_queueOf_1, mc_pi, mc_pT, mn_pi, mn_pT, mi_pi, mi_pT, ml_pi, ml_pT, mr_pi, mr_pT, mz_pT, mcs_0, mcs_r, Kn_v, mrf_some, true_and, and_true, and_false, not_true_eq_false, not_false_eq_true, false_implies, forall_const, if_true, if_false, and_self, Nat.reduceLeDiff, Nat.reduceSub, Nat.reduceAdd, Nat.zero_le, Nat.le_refl, i10, Int32.reduceLT, cl1, Sum.inl.injEq, Option.some.injEq, Value.int.injEq, exists_eq_left', Nat.reduceLT, i20, kc0, kc6, kc22, kc26, kc35, kn26, kr0_3, kr22_3, kr26_1, kz, vq3]
          intro t ht
          first | refine ⟨⟨?_, ?_, ?_, ?_, ?_, ?_, ?_, ?_, ?_, ?_, ?_, ?_⟩, rfl⟩ | refine ⟨?_, ?_, ?_, ?_, ?_, ?_, ?_, ?_, ?_, ?_, ?_, ?_⟩
          · (try simp only [K_pi])
            exact K_pT ht vk
          · (try simp only [Cn_pi_j22 hA, Cn_pT])
            exact vcn
          · (try simp only [Vq0_pi_j22 hA, Vq0_pT])
            exact v0
          · (try simp only [Vq1_pi_j22 hA, Vq1_pT])
            exact v1
          · (try simp only [Vq2_pi_j22 hA, Vq2_pT])
            exact v2
          · (try simp only [Vp_thr hA, Vp_pT])
            exact vp
          · (try simp only [Vl0_pi_j22 hA, Vl0_pT])
            exact vl0
          · (try simp only [Vl1_pi_j22 hA, Vl1_pT])
            exact vl1
          · (try simp only [Vlr_pi_j22 hA, Vlr_pT])
            exact vlr
          · (try simp only [Vsr_pi_j22 hA, Vsr_pT])
            exact vsr
          · (try simp only [Vc_pi_j22 hA, Vc_pT])
            exact vc
          · (try simp only [Tx_pi_j22 hA])
            exact Tx_pT ht tx
        · obtain ⟨N, t2, u2, rc2, rm2, a1, a2, a3, a4, a5⟩ := pas12 vk vcn v1.2 v2.2 vlr
          have hTi := v1.1.symm
          have hTj := v2.1.symm
          replace a5 := fun (m : MH) (Q : MR → MH → Prop) => a5 m Q
          simp only [o303_0, o303_1, o303_2, o303_3, o303_4, o303_7, o303_8, o303_11, o303_18, o303_20, o303_21, o303_22, o303_23, o73_0, o73_1, o73_2, o73_5, o73_6, o73_7, o73_8, o73_11, o73_13, o73_14, o73_15, o73_18, o73_28, o73_29, o73_32, o73_34, o73_35, o73_67, o73_68, o73_71, o73_73, o73_76, o196_0, o196_1, o196_2, o196_5, o196_8, o196_9, o196_12, o196_15, o196_16, o196_19, o196_20, o196_21, o196_22, o196_25, o196_26, o196_29, o196_30, o196_33, o196_36, o196_37, o196_38, o196_39, o196_80, o196_81, o196_82, o196_85, hx_303_2, c_X8_isThrown_, c_X8_isQueue, c_queueOf_1, c_queueOf_2, c_X1_lying (w := A 10) (r := A 11), c_X0_done (cs := A 18), c_X8_done (cs := A 30), a4, a5, mc_pi, mc_pl, mc_pT, mn_pi, mn_pl, mi_pi, mi_pl, mi_pT, ml_pi, ml_pl, ml_pT, mr_pi, mr_pl, mz_pi, mz_pl, mz_pT, mcs_0, mcs_r, Kn_v, mrf_some, true_and, and_true, false_and, not_true_eq_false, not_false_eq_true, false_implies, implies_true, forall_const, if_true, if_false, and_self, Nat.reduceEqDiff, Nat.reduceLeDiff, Nat.reduceSub, Nat.reduceAdd, Nat.zero_le, Nat.le_refl, i10, Int32.reduceLT, Kc_v, Sum.inl.injEq, Option.some.injEq, Value.int.injEq, exists_eq_left', Nat.reduceLT, hAe, i20, kc0, kc6, kc10, kc11, kc17, kc18, kc22, kc30, kc39, kn18, kn30, kr0_3, kr0_4, kr0_9, kr6_0, kr6_1, kr17_0, kr22_8, kz, qpe, hTi, hTj, icw1_j18 hA, icw1_j22 hA, imw1_j22 hA, icw1_j30 hA, imw1_j30 hA, icw2_j18 hA, icw2_j22 hA, imw2_j22 hA, icw2_j30 hA, imw2_j30 hA, c_cW, n_cW, r_cW, z_cW, l_cW, c_mW, n_mW, r_mW, z_mW, l_mW, pL_c, pL_n, pL_r, pL_i, pL_z, pL_l, K_pi, K_pl, K_cW, K_pL, Cn_pi_j18 hA, Cn_pi_j22 hA, Cn_pl, Cn_cW1 hA, Cn_cW2 hA, Cn_pL3 hA, vk, vcn, mT1_pi_j18 hA, mT1_pi_j22 hA, mT1_pl, mT1_cW hA, l_cW, l_mW, mT2_pi_j18 hA, mT2_pi_j22 hA, mT2_pl, mT2_cW hA, mT_pL, mT1_cW hA, mT2_cW hA, mTx1_cW2 hA, mTx2_cW1 hA]
          first | refine ⟨⟨?_, ?_, ?_, ?_, ?_, ?_, ?_, ?_, ?_, ?_, ?_, ?_⟩, rfl⟩ | refine ⟨?_, ?_, ?_, ?_, ?_, ?_, ?_, ?_, ?_, ?_, ?_, ?_⟩
          · (try simp only [K_pi, K_pl, K_cW, K_mW, K_pL])
            exact vk
          · (try simp only [Cn_pi_j18 hA, Cn_pi_j22 hA, Cn_pi_j30 hA, Cn_pl, Cn_cW1 hA, Cn_cW2 hA, Cn_mW1 hA, Cn_mW2 hA, Cn_pL3 hA, Cn_pL23 hA])
            exact vcn
          · (try simp only [Vq0_pi_j18 hA, Vq0_pi_j22 hA, Vq0_pi_j30 hA, Vq0_pl, Vq0_cW1 hA, Vq0_cW2 hA, Vq0_mW1 hA, Vq0_mW2 hA, Vq0_pL3 hA, Vq0_pL23 hA])
            exact v0
          · simp only [Vq1_pi_j30 hA, Vq1_mW2 hA, Vq1_mW2 hA, Vq1_mW hA, cT_pL, cT1_pi_j18 hA, cT1_pi_j22 hA, cT1_pl, cT1_cW hA, cT1_cW2 hA]
            exact ⟨trivial, a1⟩
          · simp only [Vq2_pi_j30 hA, Vq2_mW hA, cT_pL, cT2_pi_j18 hA, cT2_pi_j22 hA, cT2_pl, cT2_cW hA, cT2_mWo1 hA]
            exact ⟨trivial, a2⟩
          · (try simp only [Vp_pi_j18 hA, Vp_pi_j30 hA, Vp_thr hA, Vp_pl, Vp_cW1 hA, Vp_cW2 hA, Vp_mW1 hA, Vp_mW2 hA, Vp_pL3 hA, Vp_pL23 hA])
            exact vp
          · (try simp only [Vl0_pi_j18 hA, Vl0_pi_j22 hA, Vl0_pi_j30 hA, Vl0_pl, Vl0_cW1 hA, Vl0_cW2 hA, Vl0_mW1 hA, Vl0_mW2 hA, Vl0_pL3 hA, Vl0_pL23 hA])
            exact vl0
          · (try simp only [Vl1_pi_j18 hA, Vl1_pi_j22 hA, Vl1_pi_j30 hA, Vl1_pl, Vl1_cW1 hA, Vl1_cW2 hA, Vl1_mW1 hA, Vl1_mW2 hA, Vl1_pL3 hA, Vl1_pL23 hA])
            exact vl1
          · simp only [Vlr, l_cW, l_mW, ml_pi, ml_pl, hAe, Nat.reduceLT, Nat.reduceEqDiff, false_and, if_false, if_true, pL_l]
            exact a3
          · (try simp only [Vsr_pi_j18 hA, Vsr_pi_j22 hA, Vsr_pi_j30 hA, Vsr_pl_j39 hA, Vsr_cW1 hA, Vsr_cW2 hA, Vsr_mW1 hA, Vsr_mW2 hA, Vsr_pL3 hA, Vsr_pL23 hA])
            exact vsr
          · refine Vc_of (c := 0) vc (by decide) (fun k => ?_) (fun k => ?_) <;> simp only [mi_pi, mi_pl, hAe, Nat.reduceLT, Nat.reduceEqDiff, false_and, true_and, if_false, pL_i, icw1_j18 hA, imw1_j18 hA, icw1_j30 hA, imw1_j30 hA, icw2_j18 hA, imw2_j18 hA, icw2_j30 hA, imw2_j30 hA]
          · (try simp only [Tx_pi_j18 hA, Tx_pi_j22 hA, Tx_pi_j30 hA, Tx_pl, Tx_cW1 hA, Tx_cW2 hA, Tx_mW1 hA, Tx_mW2 hA, Tx_pL3 hA, Tx_pL23 hA])
            exact tx
      · rcases q_cases y3 y4 with rfl | rfl | rfl
        · obtain ⟨N, t2, u2, rc2, rm2, a1, a2, a3, a4, a5⟩ := pas20 vk vcn v2.2 v0.2 vlr
          have hTi := v2.1.symm
          have hTj := v0.1.symm
          replace a5 := fun (m : MH) (Q : MR → MH → Prop) => a5 m Q
          simp only [o303_0, o303_1, o303_2, o303_3, o303_4, o303_7, o303_8, o303_11, o303_18, o303_20, o303_21, o303_22, o303_23, o73_0, o73_1, o73_2, o73_5, o73_6, o73_7, o73_8, o73_11, o73_13, o73_14, o73_15, o73_18, o73_28, o73_29, o73_32, o73_34, o73_35, o73_67, o73_68, o73_71, o73_73, o73_76, o196_0, o196_1, o196_2, o196_5, o196_8, o196_9, o196_12, o196_15, o196_16, o196_19, o196_20, o196_21, o196_22, o196_25, o196_26, o196_29, o196_30, o196_33, o196_36, o196_37, o196_38, o196_39, o196_80, o196_81, o196_82, o196_85, hx_303_2, c_X8_isThrown_, c_X8_isQueue, c_queueOf_2, c_queueOf_0, c_X1_lying (w := A 12) (r := A 13), c_X0_done (cs := A 18), c_X8_done (cs := A 30), a4, a5, mc_pi, mc_pl, mc_pT, mn_pi, mn_pl, mi_pi, mi_pl, mi_pT, ml_pi, ml_pl, ml_pT, mr_pi, mr_pl, mz_pi, mz_pl, mz_pT, mcs_0, mcs_r, Kn_v, mrf_some, true_and, and_true, false_and, not_true_eq_false, not_false_eq_true, false_implies, implies_true, forall_const, if_true, if_false, and_self, Nat.reduceEqDiff, Nat.reduceLeDiff, Nat.reduceSub, Nat.reduceAdd, Nat.zero_le, Nat.le_refl, i10, Int32.reduceLT, Kc_v, Sum.inl.injEq, Option.some.injEq, Value.int.injEq, exists_eq_left', Nat.reduceLT, hAe, i20, kc0, kc7, kc12, kc13, kc17, kc18, kc22, kc30, kc39, kn18, kn30, kr0_2, kr0_4, kr0_9, kr7_0, kr7_1, kr17_0, kr22_8, kz, hTi, hTj, icw2_j18 hA, icw2_j22 hA, imw2_j22 hA, icw2_j30 hA, imw2_j30 hA, icw0_j18 hA, icw0_j22 hA, imw0_j22 hA, icw0_j30 hA, imw0_j30 hA, c_cW, n_cW, r_cW, z_cW, l_cW, c_mW, n_mW, r_mW, z_mW, l_mW, pL_c, pL_n, pL_r, pL_i, pL_z, pL_l, K_pi, K_pl, K_cW, K_pL, Cn_pi_j18 hA, Cn_pi_j22 hA, Cn_pl, Cn_cW2 hA, Cn_cW0 hA, Cn_pL3 hA, vk, vcn, mT2_pi_j18 hA, mT2_pi_j22 hA, mT2_pl, mT2_cW hA, l_cW, l_mW, mT0_pi_j18 hA, mT0_pi_j22 hA, mT0_pl, mT0_cW hA, mT_pL, mT2_cW hA, mT0_cW hA, mTx2_cW0 hA, mTx0_cW2 hA]
          first | refine ⟨⟨?_, ?_, ?_, ?_, ?_, ?_, ?_, ?_, ?_, ?_, ?_, ?_⟩, rfl⟩ | refine ⟨?_, ?_, ?_, ?_, ?_, ?_, ?_, ?_, ?_, ?_, ?_, ?_⟩
          · (try simp only [K_pi, K_pl, K_cW, K_mW, K_pL])
            exact vk
          · (try simp only [Cn_pi_j18 hA, Cn_pi_j22 hA, Cn_pi_j30 hA, Cn_pl, Cn_cW2 hA, Cn_cW0 hA, Cn_mW2 hA, Cn_mW0 hA, Cn_pL3 hA, Cn_pL23 hA])
            exact vcn
          · simp only [Vq0_pi_j30 hA, Vq0_mW hA, cT_pL, cT0_pi_j18 hA, cT0_pi_j22 hA, cT0_pl, cT0_cW hA, cT0_mWo2 hA]
            exact ⟨trivial, a2⟩
          · (try simp only [Vq1_pi_j18 hA, Vq1_pi_j22 hA, Vq1_pi_j30 hA, Vq1_pl, Vq1_cW2 hA, Vq1_cW0 hA, Vq1_mW2 hA, Vq1_mW0 hA, Vq1_pL3 hA, Vq1_pL23 hA])
            exact v1
          · simp only [Vq2_pi_j30 hA, Vq2_mW0 hA, Vq2_mW0 hA, Vq2_mW hA, cT_pL, cT2_pi_j18 hA, cT2_pi_j22 hA, cT2_pl, cT2_cW hA, cT2_cW0 hA]
            exact ⟨trivial, a1⟩
          · (try simp only [Vp_pi_j18 hA, Vp_pi_j30 hA, Vp_thr hA, Vp_pl, Vp_cW2 hA, Vp_cW0 hA, Vp_mW2 hA, Vp_mW0 hA, Vp_pL3 hA, Vp_pL23 hA])
            exact vp
          · (try simp only [Vl0_pi_j18 hA, Vl0_pi_j22 hA, Vl0_pi_j30 hA, Vl0_pl, Vl0_cW2 hA, Vl0_cW0 hA, Vl0_mW2 hA, Vl0_mW0 hA, Vl0_pL3 hA, Vl0_pL23 hA])
            exact vl0
          · (try simp only [Vl1_pi_j18 hA, Vl1_pi_j22 hA, Vl1_pi_j30 hA, Vl1_pl, Vl1_cW2 hA, Vl1_cW0 hA, Vl1_mW2 hA, Vl1_mW0 hA, Vl1_pL3 hA, Vl1_pL23 hA])
            exact vl1
          · simp only [Vlr, l_cW, l_mW, ml_pi, ml_pl, hAe, Nat.reduceLT, Nat.reduceEqDiff, false_and, if_false, if_true, pL_l]
            exact a3
          · (try simp only [Vsr_pi_j18 hA, Vsr_pi_j22 hA, Vsr_pi_j30 hA, Vsr_pl_j39 hA, Vsr_cW2 hA, Vsr_cW0 hA, Vsr_mW2 hA, Vsr_mW0 hA, Vsr_pL3 hA, Vsr_pL23 hA])
            exact vsr
          · refine Vc_of (c := 0) vc (by decide) (fun k => ?_) (fun k => ?_) <;> simp only [mi_pi, mi_pl, hAe, Nat.reduceLT, Nat.reduceEqDiff, false_and, true_and, if_false, pL_i, icw2_j18 hA, imw2_j18 hA, icw2_j30 hA, imw2_j30 hA, icw0_j18 hA, imw0_j18 hA, icw0_j30 hA, imw0_j30 hA]
          · (try simp only [Tx_pi_j18 hA, Tx_pi_j22 hA, Tx_pi_j30 hA, Tx_pl, Tx_cW2 hA, Tx_cW0 hA, Tx_mW2 hA, Tx_mW0 hA, Tx_pL3 hA, Tx_pL23 hA])
            exact tx
        · obtain ⟨N, t2, u2, rc2, rm2, a1, a2, a3, a4, a5⟩ := pas21 vk vcn v2.2 v1.2 vlr
          have hTi := v2.1.symm
          have hTj := v1.1.symm
          replace a5 := fun (m : MH) (Q : MR → MH → Prop) => a5 m Q
          simp only [o303_0, o303_1, o303_2, o303_3, o303_4, o303_7, o303_8, o303_11, o303_18, o303_20, o303_21, o303_22, o303_23, o73_0, o73_1, o73_2, o73_5, o73_6, o73_7, o73_8, o73_11, o73_13, o73_14, o73_15, o73_18, o73_28, o73_29, o73_32, o73_34, o73_35, o73_67, o73_68, o73_71, o73_73, o73_76, o196_0, o196_1, o196_2, o196_5, o196_8, o196_9, o196_12, o196_15, o196_16, o196_19, o196_20, o196_21, o196_22, o196_25, o196_26, o196_29, o196_30, o196_33, o196_36, o196_37, o196_38, o196_39, o196_80, o196_81, o196_82, o196_85, hx_303_2, c_X8_isThrown_, c_X8_isQueue, c_queueOf_2, c_queueOf_1, c_X1_lying (w := A 12) (r := A 13), c_X0_done (cs := A 18), c_X8_done (cs := A 30), a4, a5, mc_pi, mc_pl, mc_pT, mn_pi, mn_pl, mi_pi, mi_pl, mi_pT, ml_pi, ml_pl, ml_pT, mr_pi, mr_pl, mz_pi, mz_pl, mz_pT, mcs_0, mcs_r, Kn_v, mrf_some, true_and, and_true, false_and, not_true_eq_false, not_false_eq_true, false_implies, implies_true, forall_const, if_true, if_false, and_self, Nat.reduceEqDiff, Nat.reduceLeDiff, Nat.reduceSub, Nat.reduceAdd, Nat.zero_le, Nat.le_refl, i10, Int32.reduceLT, Kc_v, Sum.inl.injEq, Option.some.injEq, Value.int.injEq, exists_eq_left', Nat.reduceLT, hAe, i20, kc0, kc7, kc12, kc13, kc17, kc18, kc22, kc30, kc39, kn18, kn30, kr0_3, kr0_4, kr0_9, kr7_0, kr7_1, kr17_0, kr22_8, kz, qpe, hTi, hTj, icw2_j18 hA, icw2_j22 hA, imw2_j22 hA, icw2_j30 hA, imw2_j30 hA, icw1_j18 hA, icw1_j22 hA, imw1_j22 hA, icw1_j30 hA, imw1_j30 hA, c_cW, n_cW, r_cW, z_cW, l_cW, c_mW, n_mW, r_mW, z_mW, l_mW, pL_c, pL_n, pL_r, pL_i, pL_z, pL_l, K_pi, K_pl, K_cW, K_pL, Cn_pi_j18 hA, Cn_pi_j22 hA, Cn_pl, Cn_cW2 hA, Cn_cW1 hA, Cn_pL3 hA, vk, vcn, mT2_pi_j18 hA, mT2_pi_j22 hA, mT2_pl, mT2_cW hA, l_cW, l_mW, mT1_pi_j18 hA, mT1_pi_j22 hA, mT1_pl, mT1_cW hA, mT_pL, mT2_cW hA, mT1_cW hA, mTx2_cW1 hA, mTx1_cW2 hA]
          first | refine ⟨⟨?_, ?_, ?_, ?_, ?_, ?_, ?_, ?_, ?_, ?_, ?_, ?_⟩, rfl⟩ | refine ⟨?_, ?_, ?_, ?_, ?_, ?_, ?_, ?_, ?_, ?_, ?_, ?_⟩
          · (try simp only [K_pi, K_pl, K_cW, K_mW, K_pL])
            exact vk
          · (try simp only [Cn_pi_j18 hA, Cn_pi_j22 hA, Cn_pi_j30 hA, Cn_pl, Cn_cW2 hA, Cn_cW1 hA, Cn_mW2 hA, Cn_mW1 hA, Cn_pL3 hA, Cn_pL23 hA])
            exact vcn
          · (try simp only [Vq0_pi_j18 hA, Vq0_pi_j22 hA, Vq0_pi_j30 hA, Vq0_pl, Vq0_cW2 hA, Vq0_cW1 hA, Vq0_mW2 hA, Vq0_mW1 hA, Vq0_pL3 hA, Vq0_pL23 hA])
            exact v0
          · simp only [Vq1_pi_j30 hA, Vq1_mW hA, cT_pL, cT1_pi_j18 hA, cT1_pi_j22 hA, cT1_pl, cT1_cW hA, cT1_mWo2 hA]
            exact ⟨trivial, a2⟩
          · simp only [Vq2_pi_j30 hA, Vq2_mW1 hA, Vq2_mW1 hA, Vq2_mW hA, cT_pL, cT2_pi_j18 hA, cT2_pi_j22 hA, cT2_pl, cT2_cW hA, cT2_cW1 hA]
            exact ⟨trivial, a1⟩
          · (try simp only [Vp_pi_j18 hA, Vp_pi_j30 hA, Vp_thr hA, Vp_pl, Vp_cW2 hA, Vp_cW1 hA, Vp_mW2 hA, Vp_mW1 hA, Vp_pL3 hA, Vp_pL23 hA])
            exact vp
          · (try simp only [Vl0_pi_j18 hA, Vl0_pi_j22 hA, Vl0_pi_j30 hA, Vl0_pl, Vl0_cW2 hA, Vl0_cW1 hA, Vl0_mW2 hA, Vl0_mW1 hA, Vl0_pL3 hA, Vl0_pL23 hA])
            exact vl0
          · (try simp only [Vl1_pi_j18 hA, Vl1_pi_j22 hA, Vl1_pi_j30 hA, Vl1_pl, Vl1_cW2 hA, Vl1_cW1 hA, Vl1_mW2 hA, Vl1_mW1 hA, Vl1_pL3 hA, Vl1_pL23 hA])
            exact vl1
          · simp only [Vlr, l_cW, l_mW, ml_pi, ml_pl, hAe, Nat.reduceLT, Nat.reduceEqDiff, false_and, if_false, if_true, pL_l]
            exact a3
          · (try simp only [Vsr_pi_j18 hA, Vsr_pi_j22 hA, Vsr_pi_j30 hA, Vsr_pl_j39 hA, Vsr_cW2 hA, Vsr_cW1 hA, Vsr_mW2 hA, Vsr_mW1 hA, Vsr_pL3 hA, Vsr_pL23 hA])
            exact vsr
          · refine Vc_of (c := 0) vc (by decide) (fun k => ?_) (fun k => ?_) <;> simp only [mi_pi, mi_pl, hAe, Nat.reduceLT, Nat.reduceEqDiff, false_and, true_and, if_false, pL_i, icw2_j18 hA, imw2_j18 hA, icw2_j30 hA, imw2_j30 hA, icw1_j18 hA, imw1_j18 hA, icw1_j30 hA, imw1_j30 hA]
          · (try simp only [Tx_pi_j18 hA, Tx_pi_j22 hA, Tx_pi_j30 hA, Tx_pl, Tx_cW2 hA, Tx_cW1 hA, Tx_mW2 hA, Tx_mW1 hA, Tx_pL3 hA, Tx_pL23 hA])
            exact tx
        · skip
          simp only [o303_0, o303_1, o303_2, o303_3, o303_4, o303_18, o303_20, o303_21, o73_0, o73_1, o73_2, o73_5, o73_6, o73_7, o73_8, o73_11, o73_13, o73_14, o73_15, o73_18, o73_28, o73_29, o196_0, o196_1, o196_2, o196_5, o196_8, o196_9, o196_12, o196_15, o196_16, o196_19, o196_20, o196_21, o196_22, o196_25, o196_26, o196_29, o196_30, o196_33, o196_36, o196_37, o196_38, o196_39, o196_40, o196_41, o196_44, o196_45, o196_46, hx_303_2, c_X8_isThrown_, c_X8_isQueue, c_queueOf_2, mc_pi, mc_pT, mn_pi, mn_pT, mi_pi, mi_pT, ml_pi, ml_pT, mr_pi, mr_pT, mz_pT, mcs_0, mcs_r, Kn_v, mrf_some, true_and, and_true, and_false, not_true_eq_false, not_false_eq_true, false_implies, forall_const, if_true, if_false, and_self, Nat.reduceLeDiff, Nat.reduceSub, Nat.reduceAdd, Nat.zero_le, Nat.le_refl, i10, Int32.reduceLT, cl2, Sum.inl.injEq, Option.some.injEq, Value.int.injEq, exists_eq_left', Nat.reduceLT, i20, kc0, kc7, kc22, kc26, kc36, kn26, kr0_4, kr22_3, kr26_2, kz, vq3]
          intro t ht
          first | refine ⟨⟨?_, ?_, ?_, ?_, ?_, ?_, ?_, ?_, ?_, ?_, ?_, ?_⟩, rfl⟩ | refine ⟨?_, ?_, ?_, ?_, ?_, ?_, ?_, ?_, ?_, ?_, ?_, ?_⟩
          · (try simp only [K_pi])
            exact K_pT ht vk
          · (try simp only [Cn_pi_j22 hA, Cn_pT])
            exact vcn
          · (try simp only [Vq0_pi_j22 hA, Vq0_pT])
            exact v0
          · (try simp only [Vq1_pi_j22 hA, Vq1_pT])
            exact v1
          · (try simp only [Vq2_pi_j22 hA, Vq2_pT])
            exact v2
          · (try simp only [Vp_thr hA, Vp_pT])
            exact vp
          · (try simp only [Vl0_pi_j22 hA, Vl0_pT])
            exact vl0
          · (try simp only [Vl1_pi_j22 hA, Vl1_pT])
            exact vl1
          · (try simp only [Vlr_pi_j22 hA, Vlr_pT])
            exact vlr
          · (try simp only [Vsr_pi_j22 hA, Vsr_pT])
            exact vsr
          · (try simp only [Vc_pi_j22 hA, Vc_pT])
            exact vc
          · (try simp only [Tx_pi_j22 hA])
            exact Tx_pT ht tx
end

section
/-! META: more room does no harm; what lies below the run's first address stays -/
theorem Kc_up {X X' : MX} (hX : ∀ Y pc loc stk h bc bs bc' bs' Q, bc ≤ bc' → bs ≤ bs' → X Y pc loc stk h bc bs Q → X' Y pc loc stk h bc' bs' Q) {Y pc pc' : Nat} {loc rest : List Value} {bc bs bc' bs' : Nat} {Q : MR → MH → Prop} (h1 : bc ≤ bc') (h2 : bs ≤ bs') (r : MR) (h : MH) (k : Kc X Y pc pc' loc rest bc bs Q r h) : Kc X' Y pc pc' loc rest bc' bs' Q r h := by
  cases r with
  | inl v => exact hX _ _ _ _ _ _ _ _ _ _ h1 h2 k
  | inr E =>
    simp only [Kc] at k ⊢
    by_cases hy : hhY Y = []
    · rw [if_pos hy] at k ⊢
      exact k
    · rw [if_neg hy] at k ⊢
      cases hp : hnd Y pc E with
      | none => simp only [hp] at k
      | some p => simp only [hp] at k ⊢; exact fun q => hX _ _ _ _ _ _ _ _ _ _ h1 h2 (k q)
def upX : MX := fun Y pc loc stk h bc bs Q => ∀ bc' bs' : Nat, bc ≤ bc' → bs ≤ bs' → Ok Y pc loc stk h bc' bs' Q
theorem Ok_le {Y pc : Nat} {loc stk : List Value} {h : MH} {bc bs : Nat} {Q : MR → MH → Prop} (k : Ok Y pc loc stk h bc bs Q) : ∀ bc' bs' : Nat, bc ≤ bc' → bs ≤ bs' → Ok Y pc loc stk h bc' bs' Q :=
  k upX (fun _ _ _ _ _ _ _ _ _ hQ k bc' bs' h1 h2 => Ok_mono _ _ _ _ _ _ _ _ _ hQ (k bc' bs' h1 h2))
    (fun Y pc loc stk h bc bs Q hF bc' bs' h1 h2 => by
      refine Ok_in ?_
      revert hF
      generalize step Y pc loc stk h = s
      intro hF
      obtain ⟨c, s⟩ := s
      obtain ⟨hc, k⟩ := hF
      refine ⟨hc, ?_⟩
      rcases s with ⟨k1, n, pc', loc', stk', h'⟩ | ⟨alts, loc', stk'⟩ | ⟨Z, mc, ms, args, pc', rest⟩ | v | E
      · exact ⟨Nat.le_trans k.1 h1, Nat.le_trans k.2.1 h2, k.2.2 _ _ (Nat.sub_le_sub_right h1 _) (Nat.sub_le_sub_right h2 _)⟩
      · exact fun q hq hq1 => k q hq hq1 _ _ h1 h2
      · refine ⟨Nat.le_trans k.1 h1, Nat.le_trans k.2.1 h2, k.2.2.1, k.2.2.2.1, ?_⟩
        exact Ok_mono _ _ _ _ _ _ _ _ _ (fun r m q => Kc_up (X := upX) (X' := Ok) (fun _ _ _ _ _ _ _ _ _ _ a b z => z _ _ a b) (Nat.sub_le_sub_right h1 _) (Nat.sub_le_sub_right h2 _) r m q) (k.2.2.2.2 mc ms (Nat.le_refl _) (Nat.le_refl _))
      · exact k
      · exact ⟨Nat.le_trans k.1 h1, Nat.le_trans k.2.1 h2, k.2.2⟩)
/-- below the run's first address all is as it was -/
def Lw (h m : MH) : Prop := g_z m = g_z h ∧ g_t h ≤ g_t m ∧ (∀ j, g_a m j = g_a h j) ∧ ∀ a, a < g_z h → (g_c m a = g_c h a ∧ g_n m a = g_n h a) ∧ (∀ k, g_i m a k = g_i h a k) ∧ (∀ k, g_l m a k = g_l h a k) ∧ ∀ k, g_r m a k = g_r h a k
theorem Lw_rfl {h : MH} : Lw h h := ⟨rfl, Nat.le_refl _, fun _ => rfl, fun _ _ => ⟨⟨rfl, rfl⟩, fun _ => rfl, fun _ => rfl, fun _ => rfl⟩⟩
theorem Lw_tr {h m q : MH} (f : Lw h m) (g : Lw m q) : Lw h q := by
  obtain ⟨f1, f2, f3, f4⟩ := f
  obtain ⟨g1, g2, g3, g4⟩ := g
  refine ⟨g1.trans f1, Nat.le_trans f2 g2, fun j => (g3 j).trans (f3 j), fun a ha => ?_⟩
  obtain ⟨⟨a1, a2⟩, a3, a4, a5⟩ := f4 a ha
  obtain ⟨⟨b1, b2⟩, b3, b4, b5⟩ := g4 a (by rw [f1]; exact ha)
  exact ⟨⟨b1.trans a1, b2.trans a2⟩, fun k => (b3 k).trans (a3 k), fun k => (b4 k).trans (a4 k), fun k => (b5 k).trans (a5 k)⟩
theorem Lw_pi {h : MH} {a k : Nat} {v : Int32} (ha : g_z h ≤ a) : Lw h (p_i h a k v) :=
  ⟨rfl, Nat.le_refl _, fun _ => rfl, fun b hb => ⟨⟨rfl, rfl⟩, fun j => by rw [mi_pi, if_neg (fun z => by omega)], fun _ => rfl, fun _ => rfl⟩⟩
theorem Lw_pl {h : MH} {a k : Nat} {v : Int64} (ha : g_z h ≤ a) : Lw h (p_l h a k v) :=
  ⟨rfl, Nat.le_refl _, fun _ => rfl, fun b hb => ⟨⟨rfl, rfl⟩, fun _ => rfl, fun j => by rw [ml_pl, if_neg (fun z => by omega)], fun _ => rfl⟩⟩
theorem Lw_pr {h : MH} {a k : Nat} {v : Option Nat} (ha : g_z h ≤ a) : Lw h (p_r h a k v) :=
  ⟨rfl, Nat.le_refl _, fun _ => rfl, fun b hb => ⟨⟨rfl, rfl⟩, fun _ => rfl, fun _ => rfl, fun j => by rw [mr_pr, if_neg (fun z => by omega)]⟩⟩
theorem Lw_pC {h : MH} {a : Nat} {f : Nat → Int32} (ha : g_z h ≤ a) : Lw h (p_C h a f) :=
  ⟨rfl, Nat.le_refl _, fun _ => rfl, fun b hb => ⟨⟨rfl, rfl⟩, fun j => by rw [mi_pC, if_neg (by omega)], fun _ => rfl, fun _ => rfl⟩⟩
theorem Lw_pN {h : MH} {t n : Nat} (hz : g_z h ≤ g_t h) : Lw h (p_N h t n) :=
  ⟨rfl, Nat.le_succ _, fun _ => rfl, fun b hb => ⟨⟨by rw [mc_pN, if_neg (by omega)], by rw [mn_pN, if_neg (by omega)]⟩, fun j => by rw [mi_pN, if_neg (by omega)], fun j => by rw [ml_pN, if_neg (by omega)], fun j => by rw [mr_pN, if_neg (by omega)]⟩⟩
theorem Lw_pT {h : MH} {t : Nat} (ht : g_t h ≤ t) : Lw h (p_T h t) :=
  ⟨rfl, ht, fun _ => rfl, fun _ _ => ⟨⟨rfl, rfl⟩, fun _ => rfl, fun _ => rfl, fun _ => rfl⟩⟩
def Lstp (h : MH) (s : SR) : Prop := s.1 → match s.2 with
  | .inl q => g_z h ≤ g_t h → Lw h q.2.2.2.2.2
  | .inr _ => True
theorem Lstp_no {h : MH} : Lstp h s_no := fun c => c.elim
theorem Lstp_nx {h : MH} {c : Prop} {pc : Nat} {loc stk : List Value} : Lstp h (s_nx c pc loc stk h) := fun _ _ => Lw_rfl
theorem Lstp_i {h : MH} {c : Prop} {pc a k : Nat} {v : Int32} {loc stk : List Value} (f : c → g_z h ≤ a) : Lstp h (s_nx c pc loc stk (p_i h a k v)) := fun z _ => Lw_pi (f z)
theorem Lstp_l {h : MH} {c : Prop} {pc a k : Nat} {v : Int64} {loc stk : List Value} (f : c → g_z h ≤ a) : Lstp h (s_nx c pc loc stk (p_l h a k v)) := fun z _ => Lw_pl (f z)
theorem Lstp_r {h : MH} {c : Prop} {pc a k : Nat} {v : Option Nat} {loc stk : List Value} (f : c → g_z h ≤ a) : Lstp h (s_nx c pc loc stk (p_r h a k v)) := fun z _ => Lw_pr (f z)
theorem Lstp_C {h : MH} {c : Prop} {pc a : Nat} {v : Nat → Int32} {loc stk : List Value} (f : c → g_z h ≤ a) : Lstp h (s_nx c pc loc stk (p_C h a v)) := fun z _ => Lw_pC (f z)
theorem Lstp_N {h : MH} {c : Prop} {pc n m t : Nat} {loc stk : List Value} : Lstp h (s_al c n pc loc stk (p_N h t m)) := fun _ hz => Lw_pN hz
theorem Lstp_NC {h : MH} {c : Prop} {pc n m t : Nat} {f : Nat → Int32} {loc stk : List Value} : Lstp h (s_al c n pc loc stk (p_C (p_N h t m) (g_t h) f)) := fun _ hz => Lw_tr (Lw_pN hz) (Lw_pC hz)
theorem Lstp_br {h : MH} {c : Prop} {x : List (Prop × Nat)} {loc stk : List Value} : Lstp h (s_br c x loc stk) := fun _ => trivial
theorem Lstp_ca {h : MH} {c : Prop} {Z mc ms pc : Nat} {as rest : List Value} : Lstp h (s_ca c Z mc ms as pc rest) := fun _ => trivial
theorem Lstp_re {h : MH} {c : Prop} {v : Option Value} : Lstp h (s_re c v) := fun _ => trivial
theorem Lstp_th {h : MH} {c : Prop} {E : Nat} : Lstp h (s_th c E) := fun _ => trivial
set_option maxHeartbeats 8000000 in
theorem Lstp_stp {Y pc len : Nat} {ins : Instr} {loc stk : List Value} {h : MH} : Lstp h (stp Y pc ins len loc stk h) := by
  cases ins <;> first
    | exact Lstp_no
    | (dsimp only [stp, s_bin, s_binL, s_shL, s_un, s_unL, s_ldI, s_ldL, s_ldA, s_stI, s_stL, s_stA, s_ldx, s_stx, s_inv, s_inv2, s_spe, s_spe2, s_nw, s_nw2, s_gf, s_gf2, s_pf, s_pf2, s_ret] <;> (try exact Lstp_no) <;> (repeat' split) <;> (first | exact Lstp_no | exact Lstp_nx | exact Lstp_br | exact Lstp_ca | exact Lstp_re | exact Lstp_th | exact Lstp_N | exact Lstp_NC | exact Lstp_i (fun c => c.2.2.1) | exact Lstp_l (fun c => c.2.2.1) | exact Lstp_r (fun c => c.2.2.1) | exact Lstp_C (fun c => c.2.2.2.2.2.1)))
theorem Lstp_step {Y pc : Nat} {loc stk : List Value} {h : MH} : Lstp h (step Y pc loc stk h) := by
  unfold step
  split
  · split
    · exact Lstp_stp
    · exact Lstp_no
  · exact Lstp_no
def lwX : MX := fun Y pc loc stk h bc bs Q => Ok Y pc loc stk h bc bs (fun r m => Q r m ∧ (g_z h ≤ g_t h → Lw h m))
theorem Ok_low {Y pc : Nat} {loc stk : List Value} {h : MH} {bc bs : Nat} {Q : MR → MH → Prop} (k : Ok Y pc loc stk h bc bs Q) : Ok Y pc loc stk h bc bs (fun r m => Q r m ∧ (g_z h ≤ g_t h → Lw h m)) :=
  k lwX (fun _ _ _ _ _ _ _ _ _ hQ k => Ok_mono _ _ _ _ _ _ _ _ _ (fun r m q => ⟨hQ r m q.1, q.2⟩) k)
    (fun Y pc loc stk h bc bs Q hF => by
      refine Ok_in ?_
      have sl := Lstp_step (Y := Y) (pc := pc) (loc := loc) (stk := stk) (h := h)
      revert hF sl
      generalize step Y pc loc stk h = s
      intro hF sl
      obtain ⟨c, s⟩ := s
      obtain ⟨hc, k⟩ := hF
      refine ⟨hc, ?_⟩
      replace sl := sl hc
      rcases s with ⟨k1, n, pc', loc', stk', h'⟩ | ⟨alts, loc', stk'⟩ | ⟨Z, mc, ms, args, pc', rest⟩ | v | E
      · refine ⟨k.1, k.2.1, Ok_mono _ _ _ _ _ _ _ _ _ (fun r m q => ⟨q.1, fun hz => ?_⟩) k.2.2⟩
        have s1 := sl hz
        exact Lw_tr s1 (q.2 (by rw [s1.1]; exact Nat.le_trans hz s1.2.1))
      · exact k
      · refine ⟨k.1, k.2.1, k.2.2.1, k.2.2.2.1, Ok_mono _ _ _ _ _ _ _ _ _ (fun r m q => ?_) k.2.2.2.2⟩
        obtain ⟨q1, q2⟩ := q
        have go : ∀ {pc : Nat} {loc stk : List Value} {bc bs : Nat}, lwX Y pc loc stk m bc bs Q → Ok Y pc loc stk m bc bs (fun r m => Q r m ∧ (g_z h ≤ g_t h → Lw h m)) := fun z => Ok_mono _ _ _ _ _ _ _ _ _ (fun r m2 q => ⟨q.1, fun hz => by
          have s1 := q2 hz
          exact Lw_tr s1 (q.2 (by rw [s1.1]; exact Nat.le_trans hz s1.2.1))⟩) z
        cases r with
        | inl v => exact go q1
        | inr E =>
          simp only [Kc] at q1 ⊢
          by_cases hy : hhY Y = []
          · rw [if_pos hy] at q1 ⊢
            exact ⟨q1, q2⟩
          · rw [if_neg hy] at q1 ⊢
            cases hp : hnd Y pc E with
            | none => simp only [hp] at q1
            | some p => simp only [hp] at q1 ⊢; exact fun q => go (q1 q)
      · exact ⟨k, fun _ => Lw_rfl⟩
      · exact ⟨k.1, k.2.1, fun t ht => ⟨k.2.2 t ht, fun _ => Lw_pT ht⟩⟩)
end

section
set_option maxRecDepth 16384
/-! TEXTS: digits, frames, the builder -/
theorem sh0 (x : Int32) : x >>> ((0 : Int32) &&& 31) = x := by
  rw [show (0 : Int32) &&& 31 = 0 from rfl]; simp
theorem shl0 (x : Int32) : x <<< ((0 : Int32) &&& 31) = x := by
  rw [show (0 : Int32) &&& 31 = 0 from rfl]; simp
theorem n_pos {a b : Nat} (ha : a < 1000000) (hb : b < 1000000) : (0 < Int32.ofNat a - Int32.ofNat b) = (b < a) := by
  apply propext
  rw [Int32.lt_iff_toInt_lt, Int32.toInt_sub, Int32.toInt_ofNat_of_lt (by omega), Int32.toInt_ofNat_of_lt (by omega), Int.bmod_eq_of_le (by omega) (by omega), show (0 : Int32).toInt = 0 from rfl]
  omega
/-- how many decimal digits -/
def ndf : Nat → Nat → Nat
  | 0, _ => 1
  | f + 1, n => if n < 10 then 1 else ndf f (n / 10) + 1
theorem ndf_pos (f n : Nat) : 1 ≤ ndf f n := by
  cases f with
  | zero => exact Nat.le_refl 1
  | succ f => unfold ndf; split <;> omega
theorem ndf_le_f (f n : Nat) : ndf f n ≤ f + 1 := by
  induction f generalizing n with
  | zero => exact Nat.le_refl 1
  | succ f ih =>
    unfold ndf
    split
    · omega
    · have := ih (n / 10); omega
theorem ndf_le : ∀ (f n i : Nat), 1 ≤ i → i ≤ f → (ndf f n ≤ i ↔ n < 10 ^ i)
  | 0, n, i, h1, h2 => by omega
  | f + 1, n, i, h1, h2 => by
    unfold ndf
    have hp : 10 ≤ 10 ^ i := by
      have := Nat.pow_le_pow_right (n := 10) (by decide) h1
      omega
    by_cases h : n < 10
    · rw [if_pos h]
      exact ⟨fun _ => by omega, fun _ => h1⟩
    · rw [if_neg h]
      cases i with
      | zero => omega
      | succ j =>
        by_cases hj : j = 0
        · subst hj
          have := ndf_pos f (n / 10)
          constructor
          · intro z; omega
          · intro z; exact absurd z (by omega)
        · have := ndf_le f (n / 10) j (by omega) (by omega)
          rw [Nat.pow_succ, ← Nat.div_lt_iff_lt_mul (by decide), ← this]
          omega
def tsz (v : Int64) : Nat := (if v < 0 then 1 else 0) + ndf 18 v.toInt.natAbs
theorem tsz_pos (v : Int64) : 1 ≤ tsz v := by
  unfold tsz
  have := ndf_pos 18 v.toInt.natAbs
  omega
theorem tsz_le (v : Int64) : tsz v ≤ 20 := by
  unfold tsz
  have := ndf_le_f 18 v.toInt.natAbs
  split <;> omega
/-- frames of texts: bytes, the builder sb and the row dg may change; new cells above -/
def Fx (sb dg : Nat) (h m : MH) : Prop := g_z m = g_z h ∧ g_t h ≤ g_t m ∧ (∀ j, g_a m j = g_a h j) ∧ ∀ a, a < g_t h → (g_c m a = g_c h a ∧ g_n m a = g_n h a) ∧ (¬ a = sb → ¬ a = dg → ¬ g_c h a = 103 → (∀ k, g_i m a k = g_i h a k) ∧ (∀ k, g_l m a k = g_l h a k) ∧ ∀ k, g_r m a k = g_r h a k)
section
variable {sb dg : Nat} {h m q : MH}
theorem Fx_rfl : Fx sb dg h h := ⟨rfl, Nat.le_refl _, fun _ => rfl, fun _ _ => ⟨⟨rfl, rfl⟩, fun _ _ _ => ⟨fun _ => rfl, fun _ => rfl, fun _ => rfl⟩⟩⟩
theorem Fx_tr (f : Fx sb dg h m) (g : Fx sb dg m q) : Fx sb dg h q := by
  obtain ⟨f1, f2, f3, f4⟩ := f
  obtain ⟨g1, g2, g3, g4⟩ := g
  refine ⟨g1.trans f1, Nat.le_trans f2 g2, fun j => (g3 j).trans (f3 j), fun a ha => ?_⟩
  obtain ⟨⟨a1, a2⟩, a3⟩ := f4 a ha
  obtain ⟨⟨b1, b2⟩, b3⟩ := g4 a (by omega)
  refine ⟨⟨b1.trans a1, b2.trans a2⟩, fun n1 n2 n3 => ?_⟩
  obtain ⟨c1, c2, c3⟩ := a3 n1 n2 n3
  obtain ⟨d1, d2, d3⟩ := b3 n1 n2 (by rw [a1]; exact n3)
  exact ⟨fun k => (d1 k).trans (c1 k), fun k => (d2 k).trans (c2 k), fun k => (d3 k).trans (c3 k)⟩
theorem Fx_w (f : Fx sb sb h m) : Fx sb dg h m := ⟨f.1, f.2.1, f.2.2.1, fun a ha => ⟨(f.2.2.2 a ha).1, fun n1 _ n3 => (f.2.2.2 a ha).2 n1 n1 n3⟩⟩
def fxa (sb dg : Nat) (h m : MH) (a : Nat) : Prop := a = sb ∨ a = dg ∨ g_c m a = 103 ∨ g_t h ≤ a
theorem fxa_ne {a b : Nat} (e : g_c m b = g_c h b) (ha : fxa sb dg h m a) (hb : b < g_t h) (n1 : ¬ b = sb) (n2 : ¬ b = dg) (n3 : ¬ g_c h b = 103) : ¬ b = a := by
  intro z
  subst z
  rcases ha with z | z | z | z
  · exact n1 z
  · exact n2 z
  · exact n3 (e ▸ z)
  · omega
theorem Fx_pi {a k : Nat} {v : Int32} (f : Fx sb dg h m) (ha : fxa sb dg h m a) : Fx sb dg h (p_i m a k v) := by
  obtain ⟨f1, f2, f3, f4⟩ := f
  refine ⟨f1, f2, f3, fun b hb => ?_⟩
  obtain ⟨e1, e3⟩ := f4 b hb
  refine ⟨e1, fun n1 n2 n3 => ?_⟩
  obtain ⟨c1, c2, c3⟩ := e3 n1 n2 n3
  exact ⟨fun j => by rw [mi_pi, if_neg (fun z => fxa_ne e1.1 ha hb n1 n2 n3 z.1)]; exact c1 j, c2, c3⟩
theorem Fx_pr {a k : Nat} {v : Option Nat} (f : Fx sb dg h m) (ha : fxa sb dg h m a) : Fx sb dg h (p_r m a k v) := by
  obtain ⟨f1, f2, f3, f4⟩ := f
  refine ⟨f1, f2, f3, fun b hb => ?_⟩
  obtain ⟨e1, e3⟩ := f4 b hb
  refine ⟨e1, fun n1 n2 n3 => ?_⟩
  obtain ⟨c1, c2, c3⟩ := e3 n1 n2 n3
  exact ⟨c1, c2, fun j => by rw [mr_pr, if_neg (fun z => fxa_ne e1.1 ha hb n1 n2 n3 z.1)]; exact c3 j⟩
theorem Fx_pC {a : Nat} {v : Nat → Int32} (f : Fx sb dg h m) (ha : fxa sb dg h m a) : Fx sb dg h (p_C m a v) := by
  obtain ⟨f1, f2, f3, f4⟩ := f
  refine ⟨f1, f2, f3, fun b hb => ?_⟩
  obtain ⟨e1, e3⟩ := f4 b hb
  refine ⟨e1, fun n1 n2 n3 => ?_⟩
  obtain ⟨c1, c2, c3⟩ := e3 n1 n2 n3
  exact ⟨fun j => by rw [mi_pC, if_neg (fun z => fxa_ne e1.1 ha hb n1 n2 n3 z)]; exact c1 j, c2, c3⟩
theorem Fx_pN {t n : Nat} (f : Fx sb dg h m) : Fx sb dg h (p_N m t n) := by
  obtain ⟨f1, f2, f3, f4⟩ := f
  refine ⟨f1, by rw [mt_pN]; omega, f3, fun b hb => ?_⟩
  have hne : ¬ b = g_t m := by omega
  obtain ⟨⟨e1, e2⟩, e3⟩ := f4 b hb
  refine ⟨⟨by rw [mc_pN, if_neg hne]; exact e1, by rw [mn_pN, if_neg hne]; exact e2⟩, fun n1 n2 n3 => ?_⟩
  obtain ⟨c1, c2, c3⟩ := e3 n1 n2 n3
  exact ⟨fun j => by rw [mi_pN, if_neg hne]; exact c1 j, fun j => by rw [ml_pN, if_neg hne]; exact c2 j, fun j => by rw [mr_pN, if_neg hne]; exact c3 j⟩
end
/-- the builder at sb: Latin-1, n signs in it -/
def Bd (sb n : Nat) (h : MH) : Prop := g_c h sb = 10 ∧ g_z h ≤ sb ∧ sb < g_t h ∧ g_i h sb 1 = 0 ∧ g_i h sb 3 = Int32.ofNat n ∧ ∃ v, g_r h sb 0 = some v ∧ g_c h v = 103 ∧ g_z h ≤ v ∧ v < g_t h ∧ capOk (g_n h v) ∧ n ≤ g_n h v
theorem capOk_le {c : Nat} (h : capOk c) : c ≤ 150 := by
  unfold capOk at h
  omega
theorem kb0 : kok 4 0 = True := by
  apply eq_true
  unfold kok
  decide
theorem J_isLatin1 {sb : Nat} {h : MH} {Q : MR → MH → Prop} (b1 : g_c h sb = 10) (b2 : g_i h sb 1 = 0) : Ok 254 0 [.ref sb] [] h 0 0 Q ↔ Q (.inl (some (.int 1))) h := by
  simp only [o254_0, o254_3, o254_6, o254_7, o254_10, o254_13, o254_14, o254_17, o254_18, true_and, not_true_eq_false, not_false_eq_true, false_implies, forall_const, i10, kz0, kz1, b1, b2]
theorem J_alen {sb : Nat} {h : MH} {Q : MR → MH → Prop} (b1 : g_c h sb = 10) : Ok 245 0 [.ref sb] [] h 0 0 Q ↔ Q (.inl (some (.int (g_i h sb 3)))) h := by
  simp only [o245_0, o245_1, o245_4, true_and, b1]
theorem J_len {sb : Nat} {h : MH} {Q : MR → MH → Prop} (b1 : g_c h sb = 10) : Ok 276 0 [.ref sb] [] h 0 0 Q ↔ Q (.inl (some (.int (g_i h sb 3)))) h := by
  simp only [o276_0, o276_1, o276_4, J_alen b1, mcs_0, Kn_v, true_and, Nat.zero_le, b1]
theorem J_getValue {sb v : Nat} {h : MH} {Q : MR → MH → Prop} (b1 : g_c h sb = 10) (b2 : g_r h sb 0 = some v) : Ok 253 0 [.ref sb] [] h 0 0 Q ↔ Q (.inl (some (.ref v))) h := by
  simp only [o253_0, o253_1, o253_4, mrf_some, true_and, b1, b2]
theorem J_scoder {s : Nat} {h : MH} {Q : MR → MH → Prop} (b1 : g_c h s = 11) (b2 : g_i h s 1 = 0) : Ok 265 0 [.ref s] [] h 0 0 Q ↔ Q (.inl (some (.int 0))) h := by
  simp only [o265_0, o265_3, o265_6, o265_7, o265_10, o265_13, o265_14, true_and, not_false_eq_true, false_implies, forall_const, i10, b1, b2, kb0]
theorem k10 : (101 ≤ 103) = True ∧ (103 ≤ 107) = True := by decide
theorem J_slen {s v : Nat} {h : MH} {Q : MR → MH → Prop} (b1 : g_c h s = 11) (b2 : g_i h s 1 = 0) (b3 : g_r h s 0 = some v) (b4 : g_c h v = 103) : Ok 262 0 [.ref s] [] h 0 0 Q ↔ Q (.inl (some (.int (Int32.ofNat (g_n h v))))) h := by
  simp only [o262_0, o262_1, o262_4, o262_5, o262_6, o262_9, o262_10, J_scoder b1 b2, mcs_0, mcs_i, Kn_v, mrf_some, true_and, and_self, Nat.reduceLeDiff, Nat.reduceAdd, b1, b3, b4, sh0]
/-- the new length of a builder's row -/
theorem J_newLength {c x : Nat} {h : MH} {Q : MR → MH → Prop} (hc : c < x) (hx : x ≤ 1000) : Ok 285 0 [.int (Int32.ofNat c), .int (Int32.ofNat (x - c)), .int (Int32.ofNat (c + 2)), mk0] [] h 0 0 Q ↔ Q (.inl (some (.int (Int32.ofNat (if x ≤ c + c + 2 then c + c + 2 else x))))) h := by
  have e1 : (Int32.ofNat (x - c) < Int32.ofNat (c + 2)) = (x - c < c + 2) := n_lt (by omega) (by omega)
  have e2 : ∀ y : Nat, 0 < y → y ≤ 3000 → (0 < Int32.ofNat y) = True := fun y h0 h1 => by
    rw [show (0 : Int32) = Int32.ofNat 0 from rfl, n_lt (by omega) (by omega)]
    exact eq_true h0
  have e3 : ∀ y : Nat, y ≤ 3000 → (2147483639 < Int32.ofNat y) = False := fun y h1 => by
    rw [show (2147483639 : Int32) = Int32.ofNat 2147483639 from rfl, n_lt (by omega) (by omega)]
    exact eq_false (by omega)
  by_cases hh : x - c < c + 2
  · have e4 : (if x ≤ c + c + 2 then c + c + 2 else x) = c + (c + 2) := by
      rw [if_pos (by omega)]; omega
    rw [e4]
    simp only [o285_0, o285_1, o285_2, o285_3, o285_6, o285_7, o285_8, o285_9, o285_10, o285_13, o285_14, o285_16, o285_19, o285_20, o285_21, o285_22, mcs_0, mcs_i, true_and, not_true_eq_false, not_false_eq_true, false_implies, forall_const, if_true, Nat.reduceLeDiff, Nat.reduceAdd, lt_le, e1, hh, n_add, e2 (c + (c + 2)) (by omega) (by omega), e3 (c + (c + 2)) (by omega)]
  · have e4 : (if x ≤ c + c + 2 then c + c + 2 else x) = c + (x - c) := by
      split <;> omega
    rw [e4]
    simp only [o285_0, o285_1, o285_2, o285_3, o285_6, o285_7, o285_8, o285_9, o285_10, o285_13, o285_14, o285_16, o285_19, o285_20, o285_21, o285_22, mcs_0, mcs_i, true_and, not_true_eq_false, not_false_eq_true, false_implies, forall_const, if_false, Nat.reduceLeDiff, Nat.reduceAdd, lt_le, e1, hh, n_add, e2 (c + (x - c)) (by omega) (by omega), e3 (c + (x - c)) (by omega)]
theorem J_newCapacity {sb v x : Nat} {h : MH} {Q : MR → MH → Prop} (b1 : g_c h sb = 10) (b2 : g_i h sb 1 = 0) (b3 : g_r h sb 0 = some v) (b4 : g_c h v = 103) (hc : g_n h v < x) (hx : x ≤ 1000) : Ok 247 0 [.ref sb, .int (Int32.ofNat x), mk0, mk0, mk0, mk0] [] h 0 0 Q ↔ Q (.inl (some (.int (Int32.ofNat (if x ≤ g_n h v + g_n h v + 2 then g_n h v + g_n h v + 2 else x))))) h := by
  have e0 : Int32.ofNat x - Int32.ofNat (g_n h v) = Int32.ofNat (x - g_n h v) := n_sub (by omega) (by omega)
  have e1 : Int32.ofNat (g_n h v) + 2 = Int32.ofNat (g_n h v + 2) := n_add (g_n h v) 2
  have e2 : (Int32.ofNat (if x ≤ g_n h v + g_n h v + 2 then g_n h v + g_n h v + 2 else x) = 2147483647) = False := by
    apply eq_false
    intro z
    have z2 := congrArg Int32.toNatClampNeg z
    rw [n_cl (by split <;> omega)] at z2
    have : (2147483647 : Int32).toNatClampNeg = 2147483647 := rfl
    rw [this] at z2
    split at z2 <;> omega
  simp only [o247_0, o247_1, o247_4, o247_5, o247_6, o247_7, o247_8, o247_11, o247_12, o247_13, o247_14, o247_15, o247_16, o247_18, o247_19, o247_21, o247_22, o247_23, o247_24, o247_27, o247_28, o247_29, o247_32, o247_34, o247_36, o247_38, o247_51, o247_53, o247_54, o247_57, o247_58, J_newLength hc hx, mcs_0, Kn_v, mrf_some, true_and, and_true, not_false_eq_true, false_implies, forall_const, and_self, Nat.reduceLeDiff, Nat.zero_le, b1, b2, b3, b4, sh0, shl0, e0, e1, e2]
theorem J_copyOf {v y : Nat} {h : MH} {Q : MR → MH → Prop} (b4 : g_c h v = 103) (b5 : v < g_t h) (b6 : g_z h ≤ v) (hy : g_n h v < y) (hy2 : y ≤ 150) : Ok 281 0 [.ref v, .int (Int32.ofNat y), mk0] [] h 1 150 Q ↔ Q (.inl (some (.ref (g_t h)))) (p_C (p_N h 103 y) (g_t h) (va_cpy (g_i (p_N h 103 y) v) (g_i (p_N h 103 y) (g_t h)) 0 0 (g_n h v))) := by
  have n1 : (v = g_t h) = False := eq_false (by omega)
  have e1 : (Int32.ofNat y = Int32.ofNat (g_n h v)) = False := by
    apply eq_false
    intro z
    have z2 := congrArg Int32.toNatClampNeg z
    rw [n_cl (by omega), n_cl (by omega)] at z2
    omega
  have e2 : (Int32.ofNat y < 0) = False := n_z (by omega)
  have e3 : (Int32.ofNat y).toNatClampNeg = y := n_cl (by omega)
  have e4 : (y ≤ 67108864) = True := eq_true (by omega)
  have e5 : (y ≤ 150) = True := eq_true hy2
  have e6 : (Int32.ofNat y < Int32.ofNat (g_n h v)) = False := by rw [n_lt (by omega) (by omega)]; exact eq_false (by omega)
  have e7 : (Int32.ofNat (g_n h v)).toNatClampNeg = g_n h v := n_cl (by omega)
  have e8 : (Int32.ofNat (g_n h v) < 0) = False := n_z (by omega)
  have e9 : (g_z h ≤ g_t h) = True := eq_true (by omega)
  have e10 : (g_n h v ≤ y) = True := eq_true (by omega)
  simp only [o281_0, o281_1, o281_2, o281_3, o281_6, o281_7, o281_10, o281_13, o281_14, o281_15, o281_17, o281_18, o281_19, o281_20, o281_21, o281_22, o281_23, o281_24, o281_25, o281_28, o281_31, o281_32, mc_pN, mc_pC, mn_pN, mz_pN, mz_pC, mcs_0, mcs_i, mcs_r, true_and, and_true, not_false_eq_true, false_implies, forall_const, if_true, if_false, and_self, Nat.reduceLeDiff, Nat.reduceSub, Nat.reduceAdd, Nat.zero_le, Nat.le_refl, Int32.reduceLT, cl0, b4, n1, e1, e2, e3, e4, e5, e6, e7, e8, e9, e10, Nat.zero_add]
theorem J_ens {sb n x : Nat} {h : MH} {Q : MR → MH → Prop} (b : Bd sb n h) (hx : x ≤ n + 20) (hx2 : x ≤ 142) (hQ : ∀ m, Fx sb sb h m → Bd sb n m → (∀ v, g_r m sb 0 = some v → x ≤ g_n m v) → Q (.inl none) m) : Ok 246 0 [.ref sb, .int (Int32.ofNat x), mk0] [] h 1 150 Q := by
  obtain ⟨b1, b2, b3, b4, b5, v, v1, v2, v3, v4, v5, v6⟩ := b
  have hc := capOk_le v5
  by_cases hl : g_n h v < x
  · have e0 : (0 < Int32.ofNat x - Int32.ofNat (g_n h v)) = True := by rw [n_pos (by omega) (by omega)]; exact eq_true hl
    have e1 : capOk (if x ≤ g_n h v + g_n h v + 2 then g_n h v + g_n h v + 2 else x) := by
      unfold capOk at v5 ⊢
      split <;> omega
    have e2 : g_n h v < (if x ≤ g_n h v + g_n h v + 2 then g_n h v + g_n h v + 2 else x) := by split <;> omega
    have e4 : x ≤ (if x ≤ g_n h v + g_n h v + 2 then g_n h v + g_n h v + 2 else x) := by split <;> omega
    have e3 := capOk_le e1
    have n1 : (sb = g_t h) = False := eq_false (by omega)
    simp only [o246_0, o246_1, o246_4, o246_5, o246_6, o246_9, o246_10, o246_11, o246_12, o246_13, o246_14, o246_17, o246_18, o246_19, o246_22, o246_23, o246_24, o246_27, o246_28, o246_31, o246_32, o246_35, o246_38, J_newCapacity b1 b4 v1 v2 hl (by omega), J_copyOf v2 v4 v3 e2 e3, mc_pN, mc_pC, mz_pN, mz_pC, mcs_0, mcs_r, Kn_v, mrf_some, true_and, not_true_eq_false, not_false_eq_true, false_implies, forall_const, if_false, and_self, Nat.reduceLeDiff, Nat.reduceSub, Nat.reduceAdd, Nat.le_refl, lt_le, b1, b2, b4, v1, v2, sh0, shl0, e0, n1]
    generalize (if x ≤ g_n h v + g_n h v + 2 then g_n h v + g_n h v + 2 else x) = y at *
    refine hQ _ ?_ ?_ ?_
    · exact Fx_pr (Fx_pC (Fx_pN Fx_rfl) (Or.inr (Or.inr (Or.inr (Nat.le_refl _))))) (Or.inl rfl)
    · refine ⟨?_, b2, by rw [mt_pr, mt_pC, mt_pN]; omega, ?_, ?_, g_t h, ?_, ?_, ?_, ?_, ?_, ?_⟩
      · rw [mc_pr, mc_pC, mc_pN, if_neg (by omega)]; exact b1
      · rw [mi_pr, mi_pC, if_neg (by omega), mi_pN, if_neg (by omega)]; exact b4
      · rw [mi_pr, mi_pC, if_neg (by omega), mi_pN, if_neg (by omega)]; exact b5
      · rw [mr_pr, if_pos ⟨rfl, rfl⟩]
      · rw [mc_pr, mc_pC, mc_pN, if_pos rfl]
      · show g_z h ≤ g_t h
        omega
      · rw [mt_pr, mt_pC, mt_pN]; omega
      · rw [mn_pr, mn_pC, mn_pN, if_pos rfl]; exact e1
      · rw [mn_pr, mn_pC, mn_pN, if_pos rfl]; omega
    · intro w hw
      rw [mr_pr, if_pos ⟨rfl, rfl⟩] at hw
      cases hw
      rw [mn_pr, mn_pC, mn_pN, if_pos rfl]
      exact e4
  · have e0 : (0 < Int32.ofNat x - Int32.ofNat (g_n h v)) = False := by rw [n_pos (by omega) (by omega)]; exact eq_false hl
    simp only [o246_0, o246_1, o246_4, o246_5, o246_6, o246_9, o246_10, o246_11, o246_12, o246_13, o246_14, o246_17, o246_18, o246_19, o246_22, o246_23, o246_24, o246_38, mcs_0, mcs_r, mrf_some, true_and, and_true, not_true_eq_false, not_false_eq_true, false_implies, forall_const, and_self, Nat.reduceLeDiff, Nat.reduceAdd, lt_le, b1, b4, v1, v2, sh0, e0]
    exact hQ h Fx_rfl ⟨b1, b2, b3, b4, b5, v, v1, v2, v3, v4, v5, v6⟩ (fun w hw => by rw [v1] at hw; cases hw; omega)
theorem J_canEnc {c : Int32} {h : MH} {Q : MR → MH → Prop} (hc : ¬ 255 < c) : Ok 277 0 [.int c] [] h 0 0 Q ↔ Q (.inl (some (.int 1))) h := by
  have e : (255 : Int32) = 255 := rfl
  simp only [o277_0, o277_1, o277_4, o277_7, o277_8, o277_11, o277_12, true_and, not_false_eq_true, false_implies, forall_const, kz0, kz1, hc]
theorem J_apC {sb n : Nat} {c : Int32} {h : MH} {Q : MR → MH → Prop} (b : Bd sb n h) (hn : n + 1 ≤ 142) (hc : ¬ 255 < c) (hQ : ∀ m, Fx sb sb h m → Bd sb (n + 1) m → Q (.inl (some (.ref sb))) m) : Ok 250 0 [.ref sb, .int c] [] h 1 150 Q := by
  have b1 := b.1
  have b5 := b.2.2.2.2.1
  have e1 : Int32.ofNat n + 1 = Int32.ofNat (n + 1) := n_add n 1
  simp only [o250_0, o250_1, o250_2, o250_5, o250_6, o250_7, mcs_0, true_and, Nat.reduceSub, Nat.zero_le, Nat.le_refl, b1, b5, e1]
  refine J_ens b (by omega) hn (fun m f b' hv => ?_)
  obtain ⟨c1, c2, c3, c4, c5, v, v1, v2, v3, v4, v5, v6⟩ := b'
  have hl := hv v v1
  have e2 : vp_in (Int32.ofNat n) (g_n m v) := (n_rdy (by omega) (by have := capOk_le v5; omega)).2.2
  have e3 : (v = sb) = False := eq_false (fun z => by rw [z, c1] at v2; cases v2)
  have e4 : (sb = v) = False := eq_false (fun z => by rw [← z, c1] at v2; cases v2)
  simp only [o250_10, o250_11, o250_14, o250_17, o250_18, o250_21, o250_24, o250_25, o250_28, o250_29, o250_30, o250_33, o250_34, o250_35, o250_36, o250_39, o250_40, o250_41, o250_42, o250_45, o250_46, o250_49, o250_52, o250_56, o250_57, o250_60, o250_61, o250_62, o250_65, o250_66, o250_67, o250_68, o250_71, o250_75, o250_76, J_isLatin1 c1 c4, J_canEnc hc, mc_pi, mn_pi, mz_pi, mcs_0, Kn_v, Kn_0, mrf_some, kok_0, true_and, or_false, not_false_eq_true, false_implies, forall_const, if_true, and_self, Nat.reduceEqDiff, Nat.zero_le, i10, c1, c2, c5, v1, v2, v3, e1, e2]
  refine hQ _ ?_ ?_
  · exact Fx_pi (Fx_pi f (Or.inl rfl)) (Or.inr (Or.inr (Or.inl v2)))
  · refine ⟨c1, c2, c3, ?_, ?_, v, v1, v2, v3, v4, v5, hl⟩
    · simp only [mi_pi, e4, false_and, if_false, Nat.reduceEqDiff, and_false]; exact c4
    · simp only [mi_pi, e4, false_and, if_false, and_self, if_true]
theorem J_apC4 {sb n : Nat} {c : Int32} {h : MH} {Q : MR → MH → Prop} (b : Bd sb n h) (hn : n + 1 ≤ 142) (hc : ¬ 255 < c) (hQ : ∀ m, Fx sb sb h m → Bd sb (n + 1) m → Q (.inl (some (.ref sb))) m) : Ok 271 0 [.ref sb, .int c] [] h 1 150 Q := by
  simp only [o271_0, o271_1, o271_2, mcs_0, true_and, Nat.reduceSub, Nat.zero_le, Nat.le_refl, b.1]
  refine J_apC b hn hc (fun m f b' => ?_)
  simp only [o271_5, o271_6, o271_7, Kn_v]
  exact hQ m f b'
/-- a text that lies there: m signs, Latin-1 -/
def St (s m : Nat) (h : MH) : Prop := g_c h s = 11 ∧ s < g_t h ∧ g_i h s 1 = 0 ∧ ∃ v, g_r h s 0 = some v ∧ g_c h v = 103 ∧ v < g_t h ∧ g_n h v = m
theorem St_Fx {sb s k : Nat} {h m : MH} (t : St s k h) (f : Fx sb sb h m) (hs : g_c h sb = 10) : St s k m := by
  obtain ⟨t1, t2, t3, v, v1, v2, v3, v4⟩ := t
  obtain ⟨f1, f2, f3, f4⟩ := f
  have ns : ¬ s = sb := fun z => by rw [z, hs] at t1; cases t1
  obtain ⟨⟨a1, a2⟩, a3⟩ := f4 s t2
  obtain ⟨a4, -, a5⟩ := a3 ns ns (by rw [t1]; decide)
  obtain ⟨⟨d1, d2⟩, -⟩ := f4 v v3
  exact ⟨a1.trans t1, by omega, (a4 1).trans t3, v, (a5 0).trans v1, d1.trans v2, by omega, d2.trans v4⟩
theorem J_inflate {sb s : Nat} {h : MH} {Q : MR → MH → Prop} (b1 : g_c h sb = 10) (b2 : g_i h sb 1 = 0) (s1 : g_c h s = 11) (s2 : g_i h s 1 = 0) : Ok 255 0 [.ref sb, .ref s] [] h 0 0 Q ↔ Q (.inl none) h := by
  simp only [o255_0, o255_3, o255_6, o255_7, o255_10, o255_11, o255_14, o255_17, o255_21, J_scoder s1 s2, mcs_0, mcs_i, Kn_v, true_and, and_true, not_true_eq_false, not_false_eq_true, false_implies, forall_const, Nat.reduceLeDiff, Nat.reduceAdd, i10, b1, b2, s1]
theorem J_getBytes {s v d m n : Nat} {h : MH} {Q : MR → MH → Prop} (s1 : g_c h s = 11) (s2 : g_i h s 1 = 0) (s3 : g_r h s 0 = some v) (s4 : g_c h v = 103) (s5 : g_n h v = m) (d1 : g_c h d = 103) (d2 : g_z h ≤ d) (hm : m ≤ 1000) (hn : n ≤ 1000) (hd : n + m ≤ g_n h d) : Ok 263 0 [.ref s, .ref d, .int (Int32.ofNat n), .int 0] [] h 0 0 Q ↔ Q (.inl none) (p_C h d (va_cpy (g_i h v) (g_i h d) 0 n m)) := by
  have e1 : (Int32.ofNat m).toNatClampNeg = m := n_cl (by omega)
  have e2 : (Int32.ofNat n).toNatClampNeg = n := n_cl (by omega)
  have e3 : (Int32.ofNat m < 0) = False := n_z (by omega)
  have e4 : (Int32.ofNat n < 0) = False := n_z (by omega)
  simp only [o263_0, o263_1, o263_4, o263_5, o263_8, o263_9, o263_12, o263_13, o263_14, o263_15, o263_16, o263_17, o263_18, o263_21, o263_22, o263_25, o263_28, o263_29, o263_32, o263_33, o263_34, o263_35, o263_36, o263_39, o263_43, J_scoder s1 s2, mcs_0, Kn_v, mrf_some, true_and, not_true_eq_false, not_false_eq_true, false_implies, forall_const, and_self, Nat.reduceLeDiff, Nat.zero_le, Nat.le_refl, Int32.reduceLT, cl0, s1, s3, s4, s5, d1, d2, shl0, e1, e2, e3, e4, hd, Nat.zero_add]
theorem J_apS {sb s n k : Nat} {h : MH} {Q : MR → MH → Prop} (b : Bd sb n h) (t : St s k h) (hk : k ≤ 20) (hn : n + k ≤ 142) (hQ : ∀ m, Fx sb sb h m → Bd sb (n + k) m → Q (.inl (some (.ref sb))) m) : Ok 249 0 [.ref sb, .ref s, mk0] [] h 1 150 Q := by
  have b1 := b.1
  have b5 := b.2.2.2.2.1
  have t0 := t
  obtain ⟨t1, t2, t3, w, w1, w2, w3, w4⟩ := t0
  have e1 : Int32.ofNat n + Int32.ofNat k = Int32.ofNat (n + k) := n_add n k
  simp only [o249_0, o249_1, o249_9, o249_10, o249_13, o249_14, o249_15, o249_16, o249_19, o249_20, o249_21, J_slen t1 t3 w1 w2, mcs_0, Kn_v, true_and, Nat.reduceSub, Nat.zero_le, Nat.le_refl, b1, b5, t1, w4, e1]
  refine J_ens b (by omega) hn (fun m f b' hv => ?_)
  obtain ⟨t1, t2, t3, w, w1, w2, w3, w4⟩ := St_Fx t f b1
  obtain ⟨c1, c2, c3, c4, c5, v, v1, v2, v3, v4, v5, v6⟩ := b'
  have hl := hv v v1
  have hc := capOk_le v5
  have e3 : ¬ sb = v := fun z => by rw [← z, c1] at v2; cases v2
  simp only [o249_24, o249_25, o249_26, o249_29, o249_30, o249_33, o249_34, o249_35, o249_38, o249_39, o249_40, o249_43, o249_44, o256_0, o256_1, o256_2, o256_5, o256_6, o256_7, o256_10, o256_11, o256_12, o256_15, o256_18, J_inflate c1 c4 t1 t3, J_getBytes t1 t3 w1 w2 w4 v2 v3 (by omega) (by omega) hl, mc_pC, mi_pC, mz_pC, mcs_0, Kn_0, mrf_some, kok_0, true_and, if_false, and_self, Nat.zero_le, c1, c2, c4, c5, v1, t1, e1, e3]
  refine hQ _ ?_ ?_
  · exact Fx_pi (Fx_pC f (Or.inr (Or.inr (Or.inl v2)))) (Or.inl rfl)
  · refine ⟨c1, c2, c3, ?_, ?_, v, v1, v2, v3, v4, v5, hl⟩
    · rw [mi_pi, if_neg (by omega), mi_pC, if_neg e3]; exact c4
    · rw [mi_pi, if_pos ⟨rfl, rfl⟩]
theorem J_apS4 {sb s n k : Nat} {h : MH} {Q : MR → MH → Prop} (b : Bd sb n h) (t : St s k h) (hk : k ≤ 20) (hn : n + k ≤ 142) (hQ : ∀ m, Fx sb sb h m → Bd sb (n + k) m → Q (.inl (some (.ref sb))) m) : Ok 270 0 [.ref sb, .ref s] [] h 1 150 Q := by
  simp only [o270_0, o270_1, o270_2, mcs_0, true_and, Nat.reduceSub, Nat.zero_le, Nat.le_refl, b.1]
  refine J_apS b t hk hn (fun m f b' => ?_)
  simp only [o270_5, o270_6, o270_7, Kn_v]
  exact hQ m f b'
/-- a new builder -/
theorem J_init {sb : Nat} {h : MH} {Q : MR → MH → Prop} (b1 : g_c h sb = 10) (b2 : g_z h ≤ sb) (b3 : sb < g_t h) : Ok 269 0 [.ref sb] [] h 1 16 Q ↔ Q (.inl none) (p_i (p_r (p_N h 103 16) sb 0 (some (g_t h))) sb 1 0) := by
  have n1 : (sb = g_t h) = False := eq_false (by omega)
  have e3 : (16 ≤ 67108864) = True := by decide
  simp only [o269_0, o269_1, o269_3, o269_6, o244_0, o244_1, o244_4, o244_7, o244_10, o244_11, o244_12, o244_14, o244_17, o244_18, o244_19, o244_22, o244_25, o244_26, o244_38, mc_pr, mc_pN, mz_pr, mz_pN, mcs_0, Kn_0, true_and, not_false_eq_true, false_implies, forall_const, if_false, and_self, Nat.reduceSub, Nat.zero_le, Nat.le_refl, i10, Int32.reduceLT, cl16, b1, b2, n1, kb0, e3]
/-- what has been in it is taken out -/
theorem J_set0 {sb n : Nat} {h : MH} {Q : MR → MH → Prop} (b : Bd sb n h) (hQ : ∀ m, Fx sb sb h m → Bd sb 0 m → Q (.inl none) m) : Ok 275 0 [.ref sb, .int 0] [] h 1 150 Q := by
  simp only [o275_0, o275_1, o275_2, o248_0, o248_1, o248_13, o248_14, o248_15, mcs_0, true_and, and_true, not_true_eq_false, not_false_eq_true, false_implies, forall_const, Nat.reduceSub, Nat.zero_le, Nat.le_refl, lt_le, Int32.reduceLT, b.1]
  refine J_ens (x := 0) b (by omega) (by omega) (fun m f b' hv => ?_)
  obtain ⟨c1, c2, c3, c4, c5, v, v1, v2, v3, v4, v5, v6⟩ := b'
  have hc := capOk_le v5
  have e1 : (Int32.ofNat n < 0) = False := n_z (by omega)
  by_cases hn : 0 < Int32.ofNat n
  · simp only [o275_5, o248_18, o248_19, o248_22, o248_23, o248_26, o248_27, o248_63, o248_64, o248_67, o248_68, o248_71, o248_72, o248_73, o248_76, o248_77, o248_78, o248_81, mc_pi, mz_pi, mcs_0, Kn_0, kok_0, true_and, and_true, not_true_eq_false, not_false_eq_true, false_implies, forall_const, and_self, Nat.zero_le, kz1, lt_le, c1, c2, c5, e1, hn]
    refine hQ _ (Fx_pi (Fx_pi f (Or.inl rfl)) (Or.inl rfl)) ⟨c1, c2, c3, ?_, ?_, v, v1, v2, v3, v4, v5, Nat.zero_le _⟩
    · simp only [mi_pi, Nat.reduceEqDiff, and_false, if_false]; exact c4
    · simp only [mi_pi, and_self, if_true]; rfl
  · simp only [o275_5, o248_18, o248_19, o248_22, o248_23, o248_26, o248_27, o248_63, o248_64, o248_67, o248_68, o248_71, o248_72, o248_73, o248_76, o248_77, o248_78, o248_81, mc_pi, mz_pi, mcs_0, Kn_0, kok_0, true_and, and_true, not_true_eq_false, not_false_eq_true, false_implies, forall_const, and_self, Nat.zero_le, kz1, lt_le, c1, c2, c5, e1, hn]
    refine hQ _ (Fx_pi f (Or.inl rfl)) ⟨c1, c2, c3, ?_, ?_, v, v1, v2, v3, v4, v5, Nat.zero_le _⟩
    · simp only [mi_pi, Nat.reduceEqDiff, and_false, if_false]; exact c4
    · simp only [mi_pi, and_self, if_true]; rfl
end

section
set_option maxRecDepth 16384
/-! TEXTS: numbers in digits -/
def ng32 (n : Nat) : Int32 := Int32.ofInt (-(n : Int))
def ng64 (n : Nat) : Int64 := Int64.ofInt (-(n : Int))
theorem ng32_t {n : Nat} (h : n ≤ 2147483648) : (ng32 n).toInt = -(n : Int) := Int32.toInt_ofInt_of_le (by omega) (by omega)
theorem ng64_t {n : Nat} (h : n ≤ 9223372036854775808) : (ng64 n).toInt = -(n : Int) := Int64.toInt_ofInt_of_le (by omega) (by omega)
theorem nat_t {n : Nat} (h : n < 2147483648) : (Int32.ofNat n).toInt = (n : Int) := Int32.toInt_ofNat_of_lt h
theorem c100 : (100 : Int32).toInt = 100 ∧ (100 : Int64).toInt = 100 ∧ (10 : Int64).toInt = 10 ∧ (10 : Int32).toInt = 10 := by decide
theorem tdv (n : Nat) (d : Nat) : (-(n : Int)).tdiv (d : Int) = -((n / d : Nat) : Int) := by
  rw [Int.neg_tdiv, ← Int.ofNat_tdiv]
theorem ng32_100 {n : Nat} (h : n ≤ 2147483648) : ng32 n / 100 = ng32 (n / 100) := by
  apply Int32.toInt_inj.mp
  rw [Int32.toInt_div, c100.1, ng32_t h, ng32_t (by omega), show (100 : Int) = ((100 : Nat) : Int) from rfl, tdv, Int.bmod_eq_of_le (by omega) (by omega)]
theorem ng64_100 {n : Nat} (h : n ≤ 9223372036854775808) : ng64 n / 100 = ng64 (n / 100) := by
  apply Int64.toInt_inj.mp
  rw [Int64.toInt_div, c100.2.1, ng64_t h, ng64_t (by omega), show (100 : Int) = ((100 : Nat) : Int) from rfl, tdv, Int.bmod_eq_of_le (by omega) (by omega)]
theorem ng32_r {n : Nat} (h : n ≤ 2147483648) : ng32 (n / 100) * 100 - ng32 n = Int32.ofNat (n % 100) := by
  apply Int32.toInt_inj.mp
  rw [Int32.toInt_sub, Int32.toInt_mul, c100.1, ng32_t h, ng32_t (by omega), nat_t (by omega), Int.bmod_eq_of_le (n := -((n / 100 : Nat) : Int) * 100) (by omega) (by omega), Int.bmod_eq_of_le (by omega) (by omega)]
  omega
theorem ng64_r {n : Nat} (h : n ≤ 9223372036854775808) : (ng64 (n / 100) * 100 - ng64 n).toInt32 = Int32.ofNat (n % 100) := by
  apply Int32.toInt_inj.mp
  rw [Int64.toInt_toInt32, Int64.toInt_sub, Int64.toInt_mul, c100.2.1, ng64_t h, ng64_t (by omega), nat_t (by omega), Int.bmod_eq_of_le (n := -((n / 100 : Nat) : Int) * 100) (by omega) (by omega), Int.bmod_eq_of_le (n := -((n / 100 : Nat) : Int) * 100 - -(n : Int)) (by omega) (by omega), Int.bmod_eq_of_le (by omega) (by omega)]
  omega
theorem ng32_neg {n : Nat} (h : n < 2147483648) : -(ng32 n) = Int32.ofNat n := by
  apply Int32.toInt_inj.mp
  rw [Int32.toInt_neg, ng32_t (by omega), nat_t h, Int.bmod_eq_of_le (by omega) (by omega)]
  omega
theorem ng32_gt {n : Nat} (h : n ≤ 2147483648) : (-100 < ng32 n) = (n < 100) := by
  apply propext
  rw [Int32.lt_iff_toInt_lt, ng32_t h, show (-100 : Int32).toInt = -100 from rfl]
  omega
theorem ng32_9 {n : Nat} (h : n ≤ 2147483648) : (ng32 n < -9) = (9 < n) := by
  apply propext
  rw [Int32.lt_iff_toInt_lt, ng32_t h, show (-9 : Int32).toInt = -9 from rfl]
  omega
theorem ng64_gt {n : Nat} (h : n ≤ 9223372036854775808) : (-2147483648 < ng64 n) = (n < 2147483648) := by
  apply propext
  rw [Int64.lt_iff_toInt_lt, ng64_t h, show (-2147483648 : Int64).toInt = -2147483648 from rfl]
  omega
theorem ng64_32 {n : Nat} (h : n < 2147483648) : (ng64 n).toInt32 = ng32 n := by
  apply Int32.toInt_inj.mp
  rw [Int64.toInt_toInt32, ng64_t (by omega), ng32_t (by omega), Int.bmod_eq_of_le (by omega) (by omega)]
theorem ng64_of {x : Int64} (h : x < 0) : x = ng64 x.toInt.natAbs := by
  apply Int64.toInt_inj.mp
  have h1 := x.le_toInt
  rw [Int64.lt_iff_toInt_lt, show (0 : Int64).toInt = 0 from rfl] at h
  rw [ng64_t (by omega)]
  omega
theorem ng64_neg {x : Int64} (h : ¬ x < 0) : -x = ng64 x.toInt.natAbs := by
  apply Int64.toInt_inj.mp
  have h1 := x.toInt_lt
  rw [Int64.lt_iff_toInt_lt, show (0 : Int64).toInt = 0 from rfl] at h
  rw [ng64_t (by omega), Int64.toInt_neg, Int.bmod_eq_of_le (by omega) (by omega)]
  omega
theorem ng32_of {x : Int32} (h : x < 0) : x = ng32 x.toInt.natAbs := by
  apply Int32.toInt_inj.mp
  have h1 := x.le_toInt
  rw [Int32.lt_iff_toInt_lt, show (0 : Int32).toInt = 0 from rfl] at h
  rw [ng32_t (by omega)]
  omega
theorem ng32_negx {x : Int32} (h : ¬ x < 0) : -x = ng32 x.toInt.natAbs := by
  apply Int32.toInt_inj.mp
  have h1 := x.toInt_lt
  rw [Int32.lt_iff_toInt_lt, show (0 : Int32).toInt = 0 from rfl] at h
  rw [ng32_t (by omega), Int32.toInt_neg, Int.bmod_eq_of_le (by omega) (by omega)]
  omega
theorem i64_abs (x : Int64) : x.toInt.natAbs ≤ 9223372036854775808 := by
  have h1 := x.toInt_lt
  have h2 := x.le_toInt
  omega
theorem i32_abs (x : Int32) : x.toInt.natAbs ≤ 2147483648 := by
  have h1 := x.toInt_lt
  have h2 := x.le_toInt
  omega
/-- tsz of an int -/
def isz (v : Int32) : Nat := (if v < 0 then 1 else 0) + ndf 18 v.toInt.natAbs
theorem isz_tsz (v : Int32) : tsz v.toInt64 = isz v := by
  unfold tsz isz
  have e : v.toInt64.toInt = v.toInt := Int32.toInt_toInt64 v
  have e2 : (v.toInt64 < 0) = (v < 0) := by
    rw [Int64.lt_iff_toInt_lt, e, Int32.lt_iff_toInt_lt]
    rfl
  rw [e]
  by_cases h : v < 0
  · rw [if_pos h, if_pos (by rw [e2]; exact h)]
  · rw [if_neg h, if_neg (by rw [e2]; exact h)]
theorem isz_le (v : Int32) : isz v ≤ 11 := by
  unfold isz
  have h := i32_abs v
  have h2 := (ndf_le 18 v.toInt.natAbs 10 (by decide) (by decide)).mpr (by omega)
  split <;> omega
/-- a short one has at most six signs -/
theorem isz_short {v : Int32} (h : v.toInt16.toInt32 = v) : isz v ≤ 6 := by
  have h1 := v.toInt16.toInt_lt
  have h2 := v.toInt16.le_toInt
  have e : v.toInt = v.toInt16.toInt := by
    have := congrArg Int32.toInt h
    rw [Int16.toInt_toInt32] at this
    exact this.symm
  unfold isz
  have h3 := (ndf_le 18 v.toInt.natAbs 5 (by decide) (by decide)).mpr (by omega)
  split <;> omega
/-! how many signs: Long -/
def p10 (i : Nat) : Int64 := ng64 (10 ^ i)
theorem p10_s {i : Nat} (h : i < 18) : 10 * p10 i = p10 (i + 1) := by
  have e : 10 ^ (i + 1) ≤ 10 ^ 18 := Nat.pow_le_pow_right (by decide) (by omega)
  have e2 : 10 ^ (i + 1) = 10 ^ i * 10 := Nat.pow_succ 10 i
  apply Int64.toInt_inj.mp
  unfold p10
  rw [Int64.toInt_mul, c100.2.2.1, ng64_t (by omega), ng64_t (by omega), Int.bmod_eq_of_le (by omega) (by omega)]
  omega
theorem p10_lt {i n : Nat} (h : i ≤ 18) (hn : n ≤ 9223372036854775808) : (p10 i < ng64 n) = (n < 10 ^ i) := by
  have e : 10 ^ i ≤ 10 ^ 18 := Nat.pow_le_pow_right (by decide) h
  apply propext
  unfold p10
  rw [Int64.lt_iff_toInt_lt, ng64_t (by omega), ng64_t hn]
  omega
theorem ssL_loop {n : Nat} {d : Int32} {h : MH} {Q : MR → MH → Prop} (hn : n ≤ 9223372036854775808) : ∀ (f i : Nat), i + f = 19 → 1 ≤ i → i ≤ ndf 18 n → (Ok 260 20 [.long (ng64 n), mk0, .int d, .long (p10 i), mk0, .int (Int32.ofNat i)] [] h 0 0 Q ↔ Q (.inl (some (.int (Int32.ofNat (ndf 18 n) + d)))) h)
  | 0, i, e, h1, h2 => by
    have h3 : ndf 18 n = 19 := by have := ndf_le_f 18 n; omega
    have h4 : i = 19 := by omega
    subst h4
    have c1 : ((Int32.ofNat 19 : Int32) < (19 : Int32)) = False := by decide
    have c2 : (19 : Int32) = Int32.ofNat 19 := by decide
    rw [h3, o260_20]
    simp only [o260_22, o260_24, o260_27, o260_28, o260_29, o260_30, o260_33, o260_35, o260_36, o260_37, o260_38, o260_41, o260_42, o260_43, o260_44, o260_47, o260_50, o260_52, o260_53, o260_54, and_true, not_true_eq_false, not_false_eq_true, false_implies, forall_const, lt_le, Classical.not_not, c2, n_irr]
  | f + 1, i, e, h1, h2 => by
    have c1 : (Int32.ofNat i < (19 : Int32)) = True := by
      rw [show (19 : Int32) = Int32.ofNat 19 by decide, n_lt (by omega) (by omega)]
      exact eq_true (by omega)
    have c2 := p10_lt (i := i) (n := n) (by omega) hn
    have c3 := ndf_le 18 n i h1 (by omega)
    rw [o260_20]
    by_cases hl : n < 10 ^ i
    · have c4 : ndf 18 n = i := by have := c3.mpr hl; omega
      rw [c4]
      simp only [o260_22, o260_24, o260_27, o260_28, o260_29, o260_30, o260_33, o260_35, o260_36, o260_37, o260_38, o260_41, o260_42, o260_43, o260_44, o260_47, o260_50, o260_52, o260_53, o260_54, true_and, not_true_eq_false, not_false_eq_true, false_implies, forall_const, lt_le, c1, lg_cmp_gt, c2, hl]
    · have c4 : ¬ ndf 18 n ≤ i := fun z => hl (c3.mp z)
      have c5 : Int32.ofNat i + 1 = Int32.ofNat (i + 1) := n_add i 1
      by_cases hi : i = 18
      · subst hi
        have c6 : ndf 18 n = 19 := by have := ndf_le_f 18 n; omega
        have c7 : ((Int32.ofNat 19 : Int32) < (19 : Int32)) = False := by decide
        have c8 : (19 : Int32) = Int32.ofNat 19 := by decide
        rw [c6]
        simp only [o260_22, o260_24, o260_27, o260_28, o260_29, o260_30, o260_33, o260_35, o260_36, o260_37, o260_38, o260_41, o260_42, o260_43, o260_44, o260_47, o260_50, o260_52, o260_53, o260_54, true_and, and_true, not_true_eq_false, not_false_eq_true, false_implies, forall_const, Nat.reduceAdd, lt_le, c1, lg_cmp_gt, c2, hl, c5]
        rw [o260_20]
        simp only [o260_22, o260_24, o260_27, o260_28, o260_29, o260_30, o260_33, o260_35, o260_36, o260_37, o260_38, o260_41, o260_42, o260_43, o260_44, o260_47, o260_50, o260_52, o260_53, o260_54, and_true, not_true_eq_false, not_false_eq_true, false_implies, forall_const, lt_le, Classical.not_not, c8, n_irr]
      · have c6 := p10_s (i := i) (by omega)
        have ih := ssL_loop (d := d) (h := h) (Q := Q) hn f (i + 1) (by omega) (by omega) (by omega)
        refine Iff.trans ?_ ih
        simp only [o260_22, o260_24, o260_27, o260_28, o260_29, o260_30, o260_33, o260_35, o260_36, o260_37, o260_38, o260_41, o260_42, o260_43, o260_44, o260_47, o260_50, o260_52, o260_53, o260_54, true_and, and_true, not_true_eq_false, not_false_eq_true, false_implies, forall_const, lt_le, c1, lg_cmp_gt, c2, hl, c5, c6]
theorem J_ssL {v : Int64} {h : MH} {Q : MR → MH → Prop} : Ok 260 0 [.long v, mk0, mk0, mk0, mk0, mk0] [] h 0 0 Q ↔ Q (.inl (some (.int (Int32.ofNat (tsz v))))) h := by
  have c1 : (-10 : Int64) = p10 1 := by decide
  have lp := fun d => ssL_loop (n := v.toInt.natAbs) (d := d) (h := h) (Q := Q) (i64_abs v) 18 1 rfl (by decide) (ndf_pos 18 _)
  have fin : Int32.ofNat (ndf 18 v.toInt.natAbs) + (if v < 0 then 1 else 0) = Int32.ofNat (tsz v) := by
    unfold tsz
    by_cases hv : v < 0
    · rw [if_pos hv, if_pos hv, show (1 : Int32) = Int32.ofNat 1 from rfl, n_add, Nat.add_comm]
    · rw [if_neg hv, if_neg hv, show (0 : Int32) = Int32.ofNat 0 from rfl, n_add, Nat.add_comm]
  by_cases hv : v < 0
  · have l1 := lp 1
    rw [if_pos hv] at fin
    rw [fin, ← ng64_of hv, ← c1] at l1
    refine Iff.trans ?_ l1
    simp only [o260_0, o260_1, o260_2, o260_3, o260_4, o260_5, o260_8, o260_9, o260_10, o260_11, o260_12, o260_13, o260_16, o260_17, o260_18, and_true, not_true_eq_false, false_implies, forall_const, lg_cmp_lt, hv]
    all_goals exact Iff.rfl
  · have l1 := lp 0
    rw [if_neg hv] at fin
    rw [fin, ← ng64_neg hv, ← c1] at l1
    refine Iff.trans ?_ l1
    simp only [o260_0, o260_1, o260_2, o260_3, o260_4, o260_5, o260_8, o260_9, o260_10, o260_11, o260_12, o260_13, o260_16, o260_17, o260_18, true_and, not_false_eq_true, false_implies, forall_const, lg_cmp_lt, hv]
    all_goals exact Iff.rfl
/-! how many signs: Integer -/
def q10 (i : Nat) : Int32 := ng32 (10 ^ i)
theorem q10_s {i : Nat} (h : i < 9) : (10 : Int32) * q10 i = q10 (i + 1) := by
  have e : 10 ^ (i + 1) ≤ 10 ^ 9 := Nat.pow_le_pow_right (by decide) (by omega)
  have e2 : 10 ^ (i + 1) = 10 ^ i * 10 := Nat.pow_succ 10 i
  apply Int32.toInt_inj.mp
  unfold q10
  rw [show (10 : Int32) = 10 by decide, Int32.toInt_mul, c100.2.2.2, ng32_t (by omega), ng32_t (by omega), Int.bmod_eq_of_le (by omega) (by omega)]
  omega
theorem q10_lt {i n : Nat} (h : i ≤ 9) (hn : n ≤ 2147483648) : (q10 i < ng32 n) = (n < 10 ^ i) := by
  have e : 10 ^ i ≤ 10 ^ 9 := Nat.pow_le_pow_right (by decide) h
  apply propext
  unfold q10
  rw [Int32.lt_iff_toInt_lt, ng32_t (by omega), ng32_t hn]
  omega
theorem ssI_loop {n : Nat} {d : Int32} {h : MH} {Q : MR → MH → Prop} (hn : n ≤ 2147483648) (h10 : ndf 18 n ≤ 10) : ∀ (f i : Nat), i + f = 10 → 1 ≤ i → i ≤ ndf 18 n → (Ok 258 16 [.int (ng32 n), .int d, .int (q10 i), .int (Int32.ofNat i)] [] h 0 0 Q ↔ Q (.inl (some (.int (Int32.ofNat (ndf 18 n) + d)))) h)
  | 0, i, e, h1, h2 => by
    have h3 : ndf 18 n = 10 := by omega
    have h4 : i = 10 := by omega
    subst h4
    have c1 : ((Int32.ofNat 10 : Int32) < (10 : Int32)) = False := by decide
    have c2 : (10 : Int32) = Int32.ofNat 10 := by decide
    rw [h3, o258_16]
    simp only [o258_17, o258_19, o258_22, o258_23, o258_24, o258_27, o258_28, o258_29, o258_30, o258_31, o258_33, o258_34, o258_35, o258_36, o258_39, o258_42, o258_44, o258_45, o258_46, and_true, not_true_eq_false, not_false_eq_true, false_implies, forall_const, lt_le, Classical.not_not, c2, n_irr]
  | f + 1, i, e, h1, h2 => by
    have c1 : (Int32.ofNat i < (10 : Int32)) = True := by
      rw [show (10 : Int32) = Int32.ofNat 10 by decide, n_lt (by omega) (by omega)]
      exact eq_true (by omega)
    have c2 := q10_lt (i := i) (n := n) (by omega) hn
    have c3 := ndf_le 18 n i h1 (by omega)
    rw [o258_16]
    by_cases hl : n < 10 ^ i
    · have c4 : ndf 18 n = i := by have := c3.mpr hl; omega
      rw [c4]
      simp only [o258_17, o258_19, o258_22, o258_23, o258_24, o258_27, o258_28, o258_29, o258_30, o258_31, o258_33, o258_34, o258_35, o258_36, o258_39, o258_42, o258_44, o258_45, o258_46, true_and, not_true_eq_false, not_false_eq_true, false_implies, forall_const, lt_le, c1, c2, hl]
    · have c4 : ¬ ndf 18 n ≤ i := fun z => hl (c3.mp z)
      have c5 : Int32.ofNat i + 1 = Int32.ofNat (i + 1) := n_add i 1
      by_cases hi : i = 9
      · subst hi
        have c6 : ndf 18 n = 10 := by omega
        have c7 : ((Int32.ofNat 10 : Int32) < (10 : Int32)) = False := by decide
        have c8 : (10 : Int32) = Int32.ofNat 10 := by decide
        rw [c6]
        simp only [o258_17, o258_19, o258_22, o258_23, o258_24, o258_27, o258_28, o258_29, o258_30, o258_31, o258_33, o258_34, o258_35, o258_36, o258_39, o258_42, o258_44, o258_45, o258_46, true_and, and_true, not_true_eq_false, not_false_eq_true, false_implies, forall_const, Nat.reduceAdd, lt_le, c1, c2, hl, c5]
        rw [o258_16]
        simp only [o258_17, o258_19, o258_22, o258_23, o258_24, o258_27, o258_28, o258_29, o258_30, o258_31, o258_33, o258_34, o258_35, o258_36, o258_39, o258_42, o258_44, o258_45, o258_46, and_true, not_true_eq_false, not_false_eq_true, false_implies, forall_const, lt_le, Classical.not_not, c8, n_irr]
      · have c6 := q10_s (i := i) (by omega)
        have ih := ssI_loop (d := d) (h := h) (Q := Q) hn h10 f (i + 1) (by omega) (by omega) (by omega)
        refine Iff.trans ?_ ih
        simp only [o258_17, o258_19, o258_22, o258_23, o258_24, o258_27, o258_28, o258_29, o258_30, o258_31, o258_33, o258_34, o258_35, o258_36, o258_39, o258_42, o258_44, o258_45, o258_46, true_and, and_true, not_true_eq_false, not_false_eq_true, false_implies, forall_const, lt_le, c1, c2, hl, c5, c6]
theorem J_ssI {v : Int32} {h : MH} {Q : MR → MH → Prop} : Ok 258 0 [.int v, mk0, mk0, mk0] [] h 0 0 Q ↔ Q (.inl (some (.int (Int32.ofNat (isz v))))) h := by
  have c1 : (-10 : Int32) = q10 1 := by decide
  have h10 : ndf 18 v.toInt.natAbs ≤ 10 := (ndf_le 18 _ 10 (by decide) (by decide)).mpr (by have := i32_abs v; omega)
  have lp := fun d => ssI_loop (n := v.toInt.natAbs) (d := d) (h := h) (Q := Q) (i32_abs v) h10 9 1 rfl (by decide) (ndf_pos 18 _)
  have fin : Int32.ofNat (ndf 18 v.toInt.natAbs) + (if v < 0 then 1 else 0) = Int32.ofNat (isz v) := by
    unfold isz
    by_cases hv : v < 0
    · rw [if_pos hv, if_pos hv, show (1 : Int32) = Int32.ofNat 1 from rfl, n_add, Nat.add_comm]
    · rw [if_neg hv, if_neg hv, show (0 : Int32) = Int32.ofNat 0 from rfl, n_add, Nat.add_comm]
  by_cases hv : v < 0
  · have l1 := lp 1
    rw [if_pos hv] at fin
    rw [fin, ← ng32_of hv, ← c1] at l1
    refine Iff.trans ?_ l1
    simp only [o258_0, o258_1, o258_2, o258_3, o258_6, o258_7, o258_8, o258_9, o258_10, o258_11, o258_13, o258_14, o258_15, and_true, not_true_eq_false, false_implies, forall_const, hv]
    all_goals exact Iff.rfl
  · have l1 := lp 0
    rw [if_neg hv] at fin
    rw [fin, ← ng32_negx hv, ← c1] at l1
    refine Iff.trans ?_ l1
    simp only [o258_0, o258_1, o258_2, o258_3, o258_6, o258_7, o258_8, o258_9, o258_10, o258_11, o258_13, o258_14, o258_15, true_and, not_false_eq_true, false_implies, forall_const, hv]
    all_goals exact Iff.rfl
end

section
set_option maxRecDepth 16384
/-! TEXTS: the digits of a number are written -/
theorem pC_pi {h : MH} {v k : Nat} {f : Nat → Int32} {x : Int32} : p_i (p_C h v f) v k x = p_C h v (fun j => if j = k then x else f j) := by
  refine mh_ext (fun b j => ?_) rfl
  rw [mi_pi, mi_pC, mi_pC]
  by_cases hb : b = v
  · subst hb
    by_cases hj : j = k
    · rw [if_pos ⟨rfl, hj⟩, if_pos rfl, if_pos hj]
    · rw [if_neg (fun z => hj z.2), if_pos rfl, if_pos rfl, if_neg hj]
  · rw [if_neg (fun z => hb z.1), if_neg hb, if_neg hb]
theorem pC_self {h : MH} {v : Nat} : p_C h v (fun j => g_i h v j) = h := by
  refine mh_ext (fun b j => ?_) rfl
  rw [mi_pC]
  by_cases hb : b = v
  · rw [if_pos hb, hb]
  · rw [if_neg hb]
theorem n_dec {P : Nat} (h : 1 ≤ P) (hP : P < 1000) : Int32.ofNat P + -1 = Int32.ofNat (P - 1) := by
  apply Int32.toInt_inj.mp
  rw [Int32.toInt_add, nat_t (by omega), nat_t (by omega), show (-1 : Int32).toInt = -1 from rfl, Int.bmod_eq_of_le (by omega) (by omega)]
  omega
theorem ndf_100 {n : Nat} (h : 100 ≤ n) (hn : n ≤ 9223372036854775808) : ndf 18 (n / 100) + 2 ≤ ndf 18 n := by
  have h1 := ndf_le_f 18 n
  have h2 := ndf_le 18 n 2 (by decide) (by decide)
  have h3 : ¬ ndf 18 n ≤ 2 := fun z => by have := h2.mp z; omega
  have h4 : n < 10 ^ ndf 18 n := by
    by_cases h5 : ndf 18 n ≤ 18
    · exact (ndf_le 18 n _ (by omega) h5).mp (Nat.le_refl _)
    · rw [show ndf 18 n = 19 by omega]; omega
  have h6 := ndf_le 18 (n / 100) (ndf 18 n - 2) (by omega) (by omega)
  have h7 : 10 ^ ndf 18 n = 10 ^ (ndf 18 n - 2) * 100 := by
    rw [show (100 : Nat) = 10 ^ 2 from rfl, ← Nat.pow_add]
    congr 1
    omega
  have h8 : n / 100 < 10 ^ (ndf 18 n - 2) := by
    rw [Nat.div_lt_iff_lt_mul (by decide), ← h7]
    exact h4
  have := h6.mpr h8
  omega
theorem ndf_10 {n : Nat} (h : 9 < n) : 2 ≤ ndf 18 n := by
  have h2 := ndf_le 18 n 1 (by decide) (by decide)
  have h3 : ¬ ndf 18 n ≤ 1 := fun z => by have := h2.mp z; omega
  omega
/-- the two tables of digits -/
def Dt (h : MH) : Prop := (g_c h (g_a h 13) = 103 ∧ g_n h (g_a h 13) = 100) ∧ (g_c h (g_a h 14) = 103 ∧ g_n h (g_a h 14) = 100)
theorem m100 : (-100 : Int32) = -100 ∧ (100 : Int32) = 100 ∧ (-9 : Int32) = -9 ∧ ((100 : Int32) = 0) = False ∧ ((100 : Int64) = 0) = False := ⟨by decide, by decide, by decide, by decide, by decide⟩
theorem vp_100 (n : Nat) : vp_in (Int32.ofNat (n % 100)) 100 := (n_rdy (n := 100) (by omega) (by omega)).2.2
theorem vp_of {n a : Nat} (h : a < n) (hn : n < 2147483648) : vp_in (Int32.ofNat a) n := (n_rdy h hn).2.2
section
variable {v : Nat} {h : MH} {Q : MR → MH → Prop} {ng : Int32} {s : Nat}
/-- Long: the last one or two, and the sign -/
theorem o259_144i {a0 a1 a2 a3 a4 a5 a8 a9 a10 : Value} {s : List Value} {x : Int32} {w : Int32} {bc bs : Nat} {h : MH} {Q : MR → MH → Prop} : Ok 259 144 [a0, a1, a2, a3, a4, a5, (.int w), (.int x), a8, a9, a10] s h bc bs Q ↔ Ok 259 147 [a0, a1, a2, a3, a4, a5, (.int w), (.int (x + (-1))), a8, a9, a10] s h bc bs Q := Ok_n1 dc259_144 rfl ⟨rfl, Nat.le_of_ble_eq_true rfl⟩
theorem o259_165i {a0 a1 a2 a3 a4 a5 a8 a9 a10 : Value} {s : List Value} {x : Int32} {w : Int32} {bc bs : Nat} {h : MH} {Q : MR → MH → Prop} : Ok 259 165 [a0, a1, a2, a3, a4, a5, (.int w), (.int x), a8, a9, a10] s h bc bs Q ↔ Ok 259 168 [a0, a1, a2, a3, a4, a5, (.int w), (.int (x + (-1))), a8, a9, a10] s h bc bs Q := Ok_n1 dc259_165 rfl ⟨rfl, Nat.le_of_ble_eq_true rfl⟩
theorem o259_184i {a0 a1 a2 a3 a4 a5 a8 a9 a10 : Value} {s : List Value} {x : Int32} {w : Int32} {bc bs : Nat} {h : MH} {Q : MR → MH → Prop} : Ok 259 184 [a0, a1, a2, a3, a4, a5, (.int w), (.int x), a8, a9, a10] s h bc bs Q ↔ Ok 259 187 [a0, a1, a2, a3, a4, a5, (.int w), (.int (x + (-1))), a8, a9, a10] s h bc bs Q := Ok_n1 dc259_184 rfl ⟨rfl, Nat.le_of_ble_eq_true rfl⟩
theorem gcL3 {x0 c a4 a9 : Value} (v1 : g_c h v = 103) (v2 : g_z h ≤ v) (v3 : g_n h v ≤ 150) (dt : Dt h) (hs : ¬ ng = 0 → 1 ≤ s) (hQ : ∀ f k, Q (.inl (some (.int k))) (p_C h v f)) (n : Nat) (f : Nat → Int32) (P : Nat) (a6 : Value) (h6 : a6 = mk0 ∨ ∃ w, a6 = .int w) (hn : n < 100) (hP : ndf 18 n + s ≤ P) (hP2 : P ≤ g_n h v) :
    Ok 259 143 [x0, mk0, c, .ref v, a4, mk0, a6, .int (Int32.ofNat P), .int ng, a9, .int (ng32 n)] [] (p_C h v f) 0 0 Q := by
  obtain ⟨⟨d1, d2⟩, d3, d4⟩ := dt
  obtain ⟨m1, m2, m3, m4, m5⟩ := m100
  have p1 := ndf_pos 18 n
  have e1 : Int32.ofNat P + -1 = Int32.ofNat (P - 1) := n_dec (by omega) (by omega)
  have e2 : -(ng32 n) = Int32.ofNat n := ng32_neg (by omega)
  have e3 : vp_in (Int32.ofNat n) 100 := vp_of hn (by omega)
  have e4 : vp_in (Int32.ofNat (P - 1)) (g_n h v) := vp_of (by omega) (by omega)
  have e5 := ng32_9 (n := n) (by omega)
  by_cases h9 : 9 < n
  · have p2 := ndf_10 h9
    have e6 : Int32.ofNat (P - 1) + -1 = Int32.ofNat (P - 1 - 1) := n_dec (by omega) (by omega)
    have e7 : vp_in (Int32.ofNat (P - 1 - 1)) (g_n h v) := vp_of (by omega) (by omega)
    by_cases hg : ng = 0
    · rcases h6 with rfl | ⟨w, rfl⟩ <;> (simp only [o259_143, o259_144, o259_147, o259_149, o259_152, o259_154, o259_155, o259_156, o259_157, o259_159, o259_161, o259_164, o259_165, o259_168, o259_170, o259_173, o259_175, o259_176, o259_177, o259_178, o259_180, o259_183, o259_184, o259_187, o259_189, o259_191, o259_192, o259_194, o259_144i, o259_165i, o259_184i, mc_pC, mn_pC, mi_pC, mz_pC, ma_pC, true_and, and_true, or_false, not_true_eq_false, not_false_eq_true, false_implies, forall_const, if_true, and_self, Nat.reduceEqDiff, lt_le, pC_pi, v1, v2, d1, d2, d3, d4, e1, e2, e3, e4, e5, e6, e7, h9, hg]; exact hQ _ _)
    · have p3 := hs hg
      have e8 : Int32.ofNat (P - 1 - 1) + -1 = Int32.ofNat (P - 1 - 1 - 1) := n_dec (by omega) (by omega)
      have e9 : vp_in (Int32.ofNat (P - 1 - 1 - 1)) (g_n h v) := vp_of (by omega) (by omega)
      rcases h6 with rfl | ⟨w, rfl⟩ <;> (simp only [o259_143, o259_144, o259_147, o259_149, o259_152, o259_154, o259_155, o259_156, o259_157, o259_159, o259_161, o259_164, o259_165, o259_168, o259_170, o259_173, o259_175, o259_176, o259_177, o259_178, o259_180, o259_183, o259_184, o259_187, o259_189, o259_191, o259_192, o259_194, o259_144i, o259_165i, o259_184i, mc_pC, mn_pC, mi_pC, mz_pC, ma_pC, true_and, or_false, not_true_eq_false, not_false_eq_true, false_implies, forall_const, if_true, and_self, Nat.reduceEqDiff, lt_le, pC_pi, v1, v2, d1, d2, d3, d4, e1, e2, e3, e4, e5, e6, e7, e8, e9, h9, hg]; exact hQ _ _)
  · by_cases hg : ng = 0
    · rcases h6 with rfl | ⟨w, rfl⟩ <;> (simp only [o259_143, o259_144, o259_147, o259_149, o259_152, o259_154, o259_155, o259_156, o259_157, o259_159, o259_161, o259_164, o259_165, o259_168, o259_170, o259_173, o259_175, o259_176, o259_177, o259_178, o259_180, o259_183, o259_184, o259_187, o259_189, o259_191, o259_192, o259_194, o259_144i, o259_165i, o259_184i, mc_pC, mn_pC, mi_pC, mz_pC, ma_pC, true_and, and_true, or_false, not_true_eq_false, not_false_eq_true, false_implies, forall_const, if_true, and_self, Nat.reduceEqDiff, lt_le, pC_pi, v1, v2, d1, d2, d3, d4, e1, e2, e3, e4, e5, h9, hg]; exact hQ _ _)
    · have p3 := hs hg
      have e8 : Int32.ofNat (P - 1) + -1 = Int32.ofNat (P - 1 - 1) := n_dec (by omega) (by omega)
      have e9 : vp_in (Int32.ofNat (P - 1 - 1)) (g_n h v) := vp_of (by omega) (by omega)
      rcases h6 with rfl | ⟨w, rfl⟩ <;> (simp only [o259_143, o259_144, o259_147, o259_149, o259_152, o259_154, o259_155, o259_156, o259_157, o259_159, o259_161, o259_164, o259_165, o259_168, o259_170, o259_173, o259_175, o259_176, o259_177, o259_178, o259_180, o259_183, o259_184, o259_187, o259_189, o259_191, o259_192, o259_194, o259_144i, o259_165i, o259_184i, mc_pC, mn_pC, mi_pC, mz_pC, ma_pC, true_and, and_true, or_false, not_true_eq_false, not_false_eq_true, false_implies, forall_const, if_true, and_self, Nat.reduceEqDiff, lt_le, pC_pi, v1, v2, d1, d2, d3, d4, e1, e2, e3, e4, e5, e8, e9, h9, hg]; exact hQ _ _)
theorem gcL2 {x0 c a4 : Value} (v1 : g_c h v = 103) (v2 : g_z h ≤ v) (v3 : g_n h v ≤ 150) (dt : Dt h) (hs : ¬ ng = 0 → 1 ≤ s) (hQ : ∀ f k, Q (.inl (some (.int k))) (p_C h v f)) (n : Nat) (f : Nat → Int32) (P : Nat) (a6 a9 : Value) (h6 : a6 = mk0 ∨ ∃ w, a6 = .int w) (hn : n < 2147483648) (hP : ndf 18 n + s ≤ P) (hP2 : P ≤ g_n h v) :
    Ok 259 86 [x0, mk0, c, .ref v, a4, mk0, a6, .int (Int32.ofNat P), .int ng, a9, .int (ng32 n)] [] (p_C h v f) 0 0 Q := by
  obtain ⟨m1, m2, m3, m4, m5⟩ := m100
  have e1 := ng32_gt (n := n) (by omega)
  rw [o259_86]
  by_cases h1 : n < 100
  · simp only [o259_88, o259_90, and_true, not_true_eq_false, false_implies, forall_const, e1, h1]
    exact gcL3 v1 v2 v3 dt hs hQ n f P a6 h6 h1 hP hP2
  · have p1 := ndf_100 (n := n) (by omega) (by omega)
    have p2 := ndf_pos 18 (n / 100)
    have dt0 := dt
    obtain ⟨⟨d1, d2⟩, d3, d4⟩ := dt0
    have e2 := ng32_100 (n := n) (by omega)
    have e3 := ng32_r (n := n) (by omega)
    have e4 := vp_100 n
    have e5 : Int32.ofNat P + -1 = Int32.ofNat (P - 1) := n_dec (by omega) (by omega)
    have e6 : Int32.ofNat (P - 1) + -1 = Int32.ofNat (P - 2) := n_dec (by omega) (by omega)
    have e7 : vp_in (Int32.ofNat (P - 1)) (g_n h v) := vp_of (by omega) (by omega)
    have e8 : vp_in (Int32.ofNat (P - 2)) (g_n h v) := vp_of (by omega) (by omega)
    simp only [o259_88, o259_90, o259_93, o259_95, o259_97, o259_98, o259_100, o259_102, o259_104, o259_105, o259_107, o259_108, o259_110, o259_112, o259_114, o259_115, o259_118, o259_120, o259_123, o259_125, o259_126, o259_127, o259_128, o259_131, o259_133, o259_136, o259_138, o259_139, o259_140, mc_pC, mn_pC, mi_pC, mz_pC, ma_pC, true_and, or_false, not_false_eq_true, false_implies, forall_const, if_true, and_self, Nat.reduceEqDiff, pC_pi, v1, v2, d1, d2, d3, d4, m4, e1, h1, e2, e3, e4, e5, e6, e7, e8]
    exact gcL2 v1 v2 v3 dt hs hQ (n / 100) _ (P - 2) _ _ (Or.inr ⟨_, rfl⟩) (by omega) (by omega) (by omega)
termination_by n
decreasing_by omega
theorem gcL1 {c : Value} (v1 : g_c h v = 103) (v2 : g_z h ≤ v) (v3 : g_n h v ≤ 150) (dt : Dt h) (hs : ¬ ng = 0 → 1 ≤ s) (hQ : ∀ f k, Q (.inl (some (.int k))) (p_C h v f)) (n : Nat) (f : Nat → Int32) (P : Nat) (a4 a6 : Value) (h6 : a6 = mk0 ∨ ∃ w, a6 = .int w) (hn : n ≤ 9223372036854775808) (hP : ndf 18 n + s ≤ P) (hP2 : P ≤ g_n h v) :
    Ok 259 24 [.long (ng64 n), mk0, c, .ref v, a4, mk0, a6, .int (Int32.ofNat P), .int ng, mk0, mk0] [] (p_C h v f) 0 0 Q := by
  obtain ⟨m1, m2, m3, m4, m5⟩ := m100
  have e1 := ng64_gt (n := n) hn
  rw [o259_24]
  by_cases h1 : n < 2147483648
  · simp only [o259_25, o259_28, o259_29, o259_82, o259_83, o259_84, and_true, not_true_eq_false, false_implies, forall_const, lg_cmp_gt, e1, h1, ng64_32 h1]
    exact gcL2 v1 v2 v3 dt hs hQ n f P a6 mk0 h6 h1 hP hP2
  · have p1 := ndf_100 (n := n) (by omega) (by omega)
    have p2 := ndf_pos 18 (n / 100)
    have dt0 := dt
    obtain ⟨⟨d1, d2⟩, d3, d4⟩ := dt0
    have e2 := ng64_100 (n := n) (by omega)
    have e3 := ng64_r (n := n) (by omega)
    have e4 := vp_100 n
    have e5 : Int32.ofNat P + -1 = Int32.ofNat (P - 1) := n_dec (by omega) (by omega)
    have e6 : Int32.ofNat (P - 1) + -1 = Int32.ofNat (P - 2) := n_dec (by omega) (by omega)
    have e7 : vp_in (Int32.ofNat (P - 1)) (g_n h v) := vp_of (by omega) (by omega)
    have e8 : vp_in (Int32.ofNat (P - 2)) (g_n h v) := vp_of (by omega) (by omega)
    simp only [o259_25, o259_28, o259_29, o259_32, o259_33, o259_36, o259_37, o259_39, o259_41, o259_44, o259_45, o259_46, o259_47, o259_48, o259_50, o259_52, o259_53, o259_54, o259_57, o259_59, o259_62, o259_64, o259_65, o259_66, o259_67, o259_70, o259_72, o259_75, o259_77, o259_78, o259_79, mc_pC, mn_pC, mi_pC, mz_pC, ma_pC, true_and, or_false, not_false_eq_true, false_implies, forall_const, if_true, and_self, Nat.reduceEqDiff, pC_pi, lg_cmp_gt, v1, v2, d1, d2, d3, d4, m5, e1, h1, e2, e3, e4, e5, e6, e7, e8]
    exact gcL1 v1 v2 v3 dt hs hQ (n / 100) _ (P - 2) _ _ (Or.inr ⟨_, rfl⟩) (by omega) (by omega) (by omega)
termination_by n
decreasing_by omega
theorem J_gcL {x : Int64} {P : Nat} (v1 : g_c h v = 103) (v2 : g_z h ≤ v) (v3 : g_n h v ≤ 150) (dt : Dt h) (hQ : ∀ f k, Q (.inl (some (.int k))) (p_C h v f)) (hP : tsz x ≤ P) (hP2 : P ≤ g_n h v) : Ok 259 0 [.long x, mk0, .int (Int32.ofNat P), .ref v, mk0, mk0, mk0, mk0, mk0, mk0, mk0] [] h 0 0 Q := by
  have g := fun (ng : Int32) (s : Nat) (hs : ¬ ng = 0 → 1 ≤ s) (hp : ndf 18 x.toInt.natAbs + s ≤ P) => gcL1 (c := .int (Int32.ofNat P)) (ng := ng) (s := s) v1 v2 v3 dt hs hQ x.toInt.natAbs (fun j => g_i h v j) P mk0 mk0 (Or.inl rfl) (i64_abs x) hp hP2
  rw [pC_self] at g
  unfold tsz at hP
  by_cases hx : x < 0
  · rw [if_pos hx] at hP
    have g1 := g 1 1 (fun _ => Nat.le_refl _) (by omega)
    rw [← ng64_of hx] at g1
    simp only [o259_0, o259_1, o259_3, o259_4, o259_5, o259_6, o259_9, o259_10, o259_13, o259_14, o259_16, o259_18, o259_21, o259_22, o259_23, true_and, and_true, not_true_eq_false, not_false_eq_true, false_implies, forall_const, i10, lt_le, lg_cmp_lt, hx]
    exact g1
  · rw [if_neg hx] at hP
    have g1 := g 0 0 (fun z => absurd rfl z) (by omega)
    rw [← ng64_neg hx] at g1
    simp only [o259_0, o259_1, o259_3, o259_4, o259_5, o259_6, o259_9, o259_10, o259_13, o259_14, o259_16, o259_18, o259_21, o259_22, o259_23, true_and, and_true, not_true_eq_false, not_false_eq_true, false_implies, forall_const, i10, lt_le, lg_cmp_lt, hx]
    exact g1
/-- Integer: the last one or two, and the sign -/
theorem o257_73i {a0 a1 a2 a3 a6 : Value} {s : List Value} {x : Int32} {w : Int32} {bc bs : Nat} {h : MH} {Q : MR → MH → Prop} : Ok 257 73 [a0, a1, a2, a3, (.int w), (.int x), a6] s h bc bs Q ↔ Ok 257 76 [a0, a1, a2, a3, (.int w), (.int (x + (-1))), a6] s h bc bs Q := Ok_n1 dc257_73 rfl ⟨rfl, Nat.le_of_ble_eq_true rfl⟩
theorem o257_92i {a0 a1 a2 a3 a6 : Value} {s : List Value} {x : Int32} {w : Int32} {bc bs : Nat} {h : MH} {Q : MR → MH → Prop} : Ok 257 92 [a0, a1, a2, a3, (.int w), (.int x), a6] s h bc bs Q ↔ Ok 257 95 [a0, a1, a2, a3, (.int w), (.int (x + (-1))), a6] s h bc bs Q := Ok_n1 dc257_92 rfl ⟨rfl, Nat.le_of_ble_eq_true rfl⟩
theorem o257_110i {a0 a1 a2 a3 a6 : Value} {s : List Value} {x : Int32} {w : Int32} {bc bs : Nat} {h : MH} {Q : MR → MH → Prop} : Ok 257 110 [a0, a1, a2, a3, (.int w), (.int x), a6] s h bc bs Q ↔ Ok 257 113 [a0, a1, a2, a3, (.int w), (.int (x + (-1))), a6] s h bc bs Q := Ok_n1 dc257_110 rfl ⟨rfl, Nat.le_of_ble_eq_true rfl⟩
theorem gcI3 {c a3 : Value} (v1 : g_c h v = 103) (v2 : g_z h ≤ v) (v3 : g_n h v ≤ 150) (dt : Dt h) (hs : ¬ ng = 0 → 1 ≤ s) (hQ : ∀ f k, Q (.inl (some (.int k))) (p_C h v f)) (n : Nat) (f : Nat → Int32) (P : Nat) (a6 : Value) (h6 : a6 = mk0 ∨ ∃ w, a6 = .int w) (hn : n < 100) (hP : ndf 18 n + s ≤ P) (hP2 : P ≤ g_n h v) :
    Ok 257 72 [.int (ng32 n), c, .ref v, a3, a6, .int (Int32.ofNat P), .int ng] [] (p_C h v f) 0 0 Q := by
  obtain ⟨⟨d1, d2⟩, d3, d4⟩ := dt
  obtain ⟨m1, m2, m3, m4, m5⟩ := m100
  have p1 := ndf_pos 18 n
  have e1 : Int32.ofNat P + -1 = Int32.ofNat (P - 1) := n_dec (by omega) (by omega)
  have e2 : -(ng32 n) = Int32.ofNat n := ng32_neg (by omega)
  have e3 : vp_in (Int32.ofNat n) 100 := vp_of hn (by omega)
  have e4 : vp_in (Int32.ofNat (P - 1)) (g_n h v) := vp_of (by omega) (by omega)
  have e5 := ng32_9 (n := n) (by omega)
  by_cases h9 : 9 < n
  · have p2 := ndf_10 h9
    have e6 : Int32.ofNat (P - 1) + -1 = Int32.ofNat (P - 1 - 1) := n_dec (by omega) (by omega)
    have e7 : vp_in (Int32.ofNat (P - 1 - 1)) (g_n h v) := vp_of (by omega) (by omega)
    by_cases hg : ng = 0
    · rcases h6 with rfl | ⟨w, rfl⟩ <;> (simp only [o257_72, o257_73, o257_76, o257_78, o257_81, o257_82, o257_83, o257_84, o257_85, o257_86, o257_88, o257_91, o257_92, o257_95, o257_97, o257_100, o257_101, o257_102, o257_103, o257_104, o257_106, o257_109, o257_110, o257_113, o257_115, o257_117, o257_118, o257_120, o257_73i, o257_92i, o257_110i, mc_pC, mn_pC, mi_pC, mz_pC, ma_pC, true_and, and_true, or_false, not_true_eq_false, not_false_eq_true, false_implies, forall_const, if_true, and_self, Nat.reduceEqDiff, lt_le, pC_pi, v1, v2, d1, d2, d3, d4, e1, e2, e3, e4, e5, e6, e7, h9, hg]; exact hQ _ _)
    · have p3 := hs hg
      have e8 : Int32.ofNat (P - 1 - 1) + -1 = Int32.ofNat (P - 1 - 1 - 1) := n_dec (by omega) (by omega)
      have e9 : vp_in (Int32.ofNat (P - 1 - 1 - 1)) (g_n h v) := vp_of (by omega) (by omega)
      rcases h6 with rfl | ⟨w, rfl⟩ <;> (simp only [o257_72, o257_73, o257_76, o257_78, o257_81, o257_82, o257_83, o257_84, o257_85, o257_86, o257_88, o257_91, o257_92, o257_95, o257_97, o257_100, o257_101, o257_102, o257_103, o257_104, o257_106, o257_109, o257_110, o257_113, o257_115, o257_117, o257_118, o257_120, o257_73i, o257_92i, o257_110i, mc_pC, mn_pC, mi_pC, mz_pC, ma_pC, true_and, or_false, not_true_eq_false, not_false_eq_true, false_implies, forall_const, if_true, and_self, Nat.reduceEqDiff, lt_le, pC_pi, v1, v2, d1, d2, d3, d4, e1, e2, e3, e4, e5, e6, e7, e8, e9, h9, hg]; exact hQ _ _)
  · by_cases hg : ng = 0
    · rcases h6 with rfl | ⟨w, rfl⟩ <;> (simp only [o257_72, o257_73, o257_76, o257_78, o257_81, o257_82, o257_83, o257_84, o257_85, o257_86, o257_88, o257_91, o257_92, o257_95, o257_97, o257_100, o257_101, o257_102, o257_103, o257_104, o257_106, o257_109, o257_110, o257_113, o257_115, o257_117, o257_118, o257_120, o257_73i, o257_92i, o257_110i, mc_pC, mn_pC, mi_pC, mz_pC, ma_pC, true_and, and_true, or_false, not_true_eq_false, not_false_eq_true, false_implies, forall_const, if_true, and_self, Nat.reduceEqDiff, lt_le, pC_pi, v1, v2, d1, d2, d3, d4, e1, e2, e3, e4, e5, h9, hg]; exact hQ _ _)
    · have p3 := hs hg
      have e8 : Int32.ofNat (P - 1) + -1 = Int32.ofNat (P - 1 - 1) := n_dec (by omega) (by omega)
      have e9 : vp_in (Int32.ofNat (P - 1 - 1)) (g_n h v) := vp_of (by omega) (by omega)
      rcases h6 with rfl | ⟨w, rfl⟩ <;> (simp only [o257_72, o257_73, o257_76, o257_78, o257_81, o257_82, o257_83, o257_84, o257_85, o257_86, o257_88, o257_91, o257_92, o257_95, o257_97, o257_100, o257_101, o257_102, o257_103, o257_104, o257_106, o257_109, o257_110, o257_113, o257_115, o257_117, o257_118, o257_120, o257_73i, o257_92i, o257_110i, mc_pC, mn_pC, mi_pC, mz_pC, ma_pC, true_and, and_true, or_false, not_true_eq_false, not_false_eq_true, false_implies, forall_const, if_true, and_self, Nat.reduceEqDiff, lt_le, pC_pi, v1, v2, d1, d2, d3, d4, e1, e2, e3, e4, e5, e8, e9, h9, hg]; exact hQ _ _)
theorem gcI2 {c : Value} (v1 : g_c h v = 103) (v2 : g_z h ≤ v) (v3 : g_n h v ≤ 150) (dt : Dt h) (hs : ¬ ng = 0 → 1 ≤ s) (hQ : ∀ f k, Q (.inl (some (.int k))) (p_C h v f)) (n : Nat) (f : Nat → Int32) (P : Nat) (a3 a6 : Value) (h6 : a6 = mk0 ∨ ∃ w, a6 = .int w) (hn : n ≤ 2147483648) (hP : ndf 18 n + s ≤ P) (hP2 : P ≤ g_n h v) :
    Ok 257 22 [.int (ng32 n), c, .ref v, a3, a6, .int (Int32.ofNat P), .int ng] [] (p_C h v f) 0 0 Q := by
  obtain ⟨m1, m2, m3, m4, m5⟩ := m100
  have e1 := ng32_gt (n := n) (by omega)
  rw [o257_22]
  by_cases h1 : n < 100
  · simp only [o257_23, o257_25, and_true, not_true_eq_false, false_implies, forall_const, e1, h1]
    exact gcI3 v1 v2 v3 dt hs hQ n f P a6 h6 h1 hP hP2
  · have p1 := ndf_100 (n := n) (by omega) (by omega)
    have p2 := ndf_pos 18 (n / 100)
    have dt0 := dt
    obtain ⟨⟨d1, d2⟩, d3, d4⟩ := dt0
    have e2 := ng32_100 (n := n) (by omega)
    have e3 := ng32_r (n := n) (by omega)
    have e4 := vp_100 n
    have e5 : Int32.ofNat P + -1 = Int32.ofNat (P - 1) := n_dec (by omega) (by omega)
    have e6 : Int32.ofNat (P - 1) + -1 = Int32.ofNat (P - 2) := n_dec (by omega) (by omega)
    have e7 : vp_in (Int32.ofNat (P - 1)) (g_n h v) := vp_of (by omega) (by omega)
    have e8 : vp_in (Int32.ofNat (P - 2)) (g_n h v) := vp_of (by omega) (by omega)
    simp only [o257_23, o257_25, o257_28, o257_29, o257_31, o257_32, o257_33, o257_34, o257_36, o257_37, o257_38, o257_39, o257_41, o257_42, o257_43, o257_44, o257_47, o257_49, o257_52, o257_54, o257_55, o257_56, o257_57, o257_60, o257_62, o257_65, o257_67, o257_68, o257_69, mc_pC, mn_pC, mi_pC, mz_pC, ma_pC, true_and, or_false, not_false_eq_true, false_implies, forall_const, if_true, and_self, Nat.reduceEqDiff, pC_pi, v1, v2, d1, d2, d3, d4, m4, e1, h1, e2, e3, e4, e5, e6, e7, e8]
    exact gcI2 v1 v2 v3 dt hs hQ (n / 100) _ (P - 2) _ _ (Or.inr ⟨_, rfl⟩) (by omega) (by omega) (by omega)
termination_by n
decreasing_by omega
theorem J_gcI {x : Int32} {P : Nat} (v1 : g_c h v = 103) (v2 : g_z h ≤ v) (v3 : g_n h v ≤ 150) (dt : Dt h) (hQ : ∀ f k, Q (.inl (some (.int k))) (p_C h v f)) (hP : isz x ≤ P) (hP2 : P ≤ g_n h v) : Ok 257 0 [.int x, .int (Int32.ofNat P), .ref v, mk0, mk0, mk0, mk0] [] h 0 0 Q := by
  have g := fun (ng : Int32) (s : Nat) (hs : ¬ ng = 0 → 1 ≤ s) (hp : ndf 18 x.toInt.natAbs + s ≤ P) => gcI2 (c := .int (Int32.ofNat P)) (ng := ng) (s := s) v1 v2 v3 dt hs hQ x.toInt.natAbs (fun j => g_i h v j) P mk0 mk0 (Or.inl rfl) (i32_abs x) hp hP2
  rw [pC_self] at g
  unfold isz at hP
  by_cases hx : x < 0
  · rw [if_pos hx] at hP
    have g1 := g 1 1 (fun _ => Nat.le_refl _) (by omega)
    rw [← ng32_of hx] at g1
    simp only [o257_0, o257_1, o257_3, o257_4, o257_7, o257_8, o257_11, o257_12, o257_14, o257_16, o257_19, o257_20, o257_21, true_and, and_true, not_true_eq_false, not_false_eq_true, false_implies, forall_const, i10, lt_le, hx]
    exact g1
  · rw [if_neg hx] at hP
    have g1 := g 0 0 (fun z => absurd rfl z) (by omega)
    rw [← ng32_negx hx] at g1
    simp only [o257_0, o257_1, o257_3, o257_4, o257_7, o257_8, o257_11, o257_12, o257_14, o257_16, o257_19, o257_20, o257_21, true_and, and_true, not_true_eq_false, not_false_eq_true, false_implies, forall_const, i10, lt_le, hx]
    exact g1
end
theorem Dt_Fx {sb : Nat} {h m : MH} (d : Dt h) (f : Fx sb sb h m) (hz : g_a h 13 < g_t h ∧ g_a h 14 < g_t h) : Dt m := by
  obtain ⟨⟨d1, d2⟩, d3, d4⟩ := d
  obtain ⟨f1, f2, f3, f4⟩ := f
  obtain ⟨⟨a1, a2⟩, -⟩ := f4 _ hz.1
  obtain ⟨⟨a3, a4⟩, -⟩ := f4 _ hz.2
  unfold Dt
  rw [f3, f3, a1, a2, a3, a4]
  exact ⟨⟨d1, d2⟩, d3, d4⟩
theorem J_apL {sb n : Nat} {x : Int64} {h : MH} {Q : MR → MH → Prop} (b : Bd sb n h) (dt : Dt h) (hz : g_a h 13 < g_t h ∧ g_a h 14 < g_t h) (hn : n + tsz x ≤ 142) (hQ : ∀ m, Fx sb sb h m → Bd sb (n + tsz x) m → Q (.inl (some (.ref sb))) m) : Ok 252 0 [.ref sb, .long x, mk0, mk0, mk0] [] h 1 150 Q := by
  have b1 := b.1
  have b5 := b.2.2.2.2.1
  have e1 : Int32.ofNat n + Int32.ofNat (tsz x) = Int32.ofNat (n + tsz x) := n_add n (tsz x)
  simp only [o252_0, o252_1, o252_4, o252_5, o252_6, o252_7, o252_10, o252_11, o252_13, o252_14, o252_16, J_ssL, mcs_0, mcs_i, Kn_v, true_and, Nat.reduceLeDiff, Nat.reduceSub, Nat.reduceAdd, Nat.zero_le, Nat.le_refl, b1, b5, e1]
  refine J_ens b (by have := tsz_le x; omega) hn (fun m f b' hv => ?_)
  obtain ⟨c1, c2, c3, c4, c5, v, v1, v2, v3, v4, v5, v6⟩ := b'
  have hl := hv v v1
  have hc := capOk_le v5
  simp only [o252_19, o252_20, o252_23, o252_26, o252_27, o252_29, o252_30, o252_33, J_isLatin1 c1 c4, mcs_0, Kn_v, Kn_0, mrf_some, true_and, not_false_eq_true, false_implies, forall_const, Nat.zero_le, i10, c1, v1]
  refine J_gcL v2 v3 hc (Dt_Fx dt f hz) (fun f2 k => ?_) (by omega) hl
  have e3 : ¬ sb = v := fun z => by rw [← z, c1] at v2; cases v2
  simp only [o252_36, o252_37, o252_52, o252_53, o252_55, o252_58, o252_59, mc_pC, mz_pC, Kn_v, kok_0, true_and, and_self, c1, c2]
  refine hQ _ ?_ ?_
  · exact Fx_pi (Fx_pC f (Or.inr (Or.inr (Or.inl v2)))) (Or.inl rfl)
  · refine ⟨c1, c2, c3, ?_, ?_, v, v1, v2, v3, v4, v5, hl⟩
    · rw [mi_pi, if_neg (by omega), mi_pC, if_neg e3]; exact c4
    · rw [mi_pi, if_pos ⟨rfl, rfl⟩]
theorem J_apL4 {sb n : Nat} {x : Int64} {h : MH} {Q : MR → MH → Prop} (b : Bd sb n h) (dt : Dt h) (hz : g_a h 13 < g_t h ∧ g_a h 14 < g_t h) (hn : n + tsz x ≤ 142) (hQ : ∀ m, Fx sb sb h m → Bd sb (n + tsz x) m → Q (.inl (some (.ref sb))) m) : Ok 273 0 [.ref sb, .long x, mk0] [] h 1 150 Q := by
  simp only [o273_0, o273_1, o273_2, mcs_0, true_and, Nat.reduceSub, Nat.zero_le, Nat.le_refl, b.1]
  refine J_apL b dt hz hn (fun m f b' => ?_)
  simp only [o273_5, o273_6, o273_7, Kn_v]
  exact hQ m f b'
theorem J_apI {sb n : Nat} {x : Int32} {h : MH} {Q : MR → MH → Prop} (b : Bd sb n h) (dt : Dt h) (hz : g_a h 13 < g_t h ∧ g_a h 14 < g_t h) (hn : n + isz x ≤ 142) (hQ : ∀ m, Fx sb sb h m → Bd sb (n + isz x) m → Q (.inl (some (.ref sb))) m) : Ok 251 0 [.ref sb, .int x, mk0, mk0] [] h 1 150 Q := by
  have b1 := b.1
  have b5 := b.2.2.2.2.1
  have e1 : Int32.ofNat n + Int32.ofNat (isz x) = Int32.ofNat (n + isz x) := n_add n (isz x)
  simp only [o251_0, o251_1, o251_4, o251_5, o251_6, o251_7, o251_10, o251_11, o251_12, o251_13, o251_14, J_ssI, mcs_0, mcs_i, Kn_v, true_and, Nat.reduceLeDiff, Nat.reduceSub, Nat.reduceAdd, Nat.zero_le, Nat.le_refl, b1, b5, e1]
  refine J_ens b (by have := isz_le x; omega) hn (fun m f b' hv => ?_)
  obtain ⟨c1, c2, c3, c4, c5, v, v1, v2, v3, v4, v5, v6⟩ := b'
  have hl := hv v v1
  have hc := capOk_le v5
  simp only [o251_17, o251_18, o251_21, o251_24, o251_25, o251_26, o251_27, o251_30, J_isLatin1 c1 c4, mcs_0, Kn_v, Kn_0, mrf_some, true_and, not_false_eq_true, false_implies, forall_const, Nat.zero_le, i10, c1, v1]
  refine J_gcI v2 v3 hc (Dt_Fx dt f hz) (fun f2 k => ?_) (by omega) hl
  have e3 : ¬ sb = v := fun z => by rw [← z, c1] at v2; cases v2
  simp only [o251_33, o251_34, o251_48, o251_49, o251_50, o251_53, o251_54, mc_pC, mz_pC, Kn_v, kok_0, true_and, and_self, c1, c2]
  refine hQ _ ?_ ?_
  · exact Fx_pi (Fx_pC f (Or.inr (Or.inr (Or.inl v2)))) (Or.inl rfl)
  · refine ⟨c1, c2, c3, ?_, ?_, v, v1, v2, v3, v4, v5, hl⟩
    · rw [mi_pi, if_neg (by omega), mi_pC, if_neg e3]; exact c4
    · rw [mi_pi, if_pos ⟨rfl, rfl⟩]
theorem J_apI4 {sb n : Nat} {x : Int32} {h : MH} {Q : MR → MH → Prop} (b : Bd sb n h) (dt : Dt h) (hz : g_a h 13 < g_t h ∧ g_a h 14 < g_t h) (hn : n + isz x ≤ 142) (hQ : ∀ m, Fx sb sb h m → Bd sb (n + isz x) m → Q (.inl (some (.ref sb))) m) : Ok 272 0 [.ref sb, .int x] [] h 1 150 Q := by
  simp only [o272_0, o272_1, o272_2, mcs_0, true_and, Nat.reduceSub, Nat.zero_le, Nat.le_refl, b.1]
  refine J_apI b dt hz hn (fun m f b' => ?_)
  simp only [o272_5, o272_6, o272_7, Kn_v]
  exact hQ m f b'
/-! the text that a builder gives -/
theorem J_cpR {v n : Nat} {h : MH} {Q : MR → MH → Prop} (v1 : g_c h v = 103) (v2 : g_z h ≤ v) (v4 : v < g_t h) (v3 : g_n h v ≤ 150) (hn : n ≤ g_n h v) (hQ : ∀ f, Q (.inl (some (.ref (g_t h)))) (p_C (p_N h 103 n) (g_t h) f)) : Ok 283 0 [.ref v, .int 0, .int (Int32.ofNat n)] [] h 1 150 Q := by
  by_cases he : n = g_n h v
  · subst he
    have n1 : (v = g_t h) = False := eq_false (by omega)
    have e1 : (g_n h v ≤ 150) = True := eq_true v3
    have e2 : g_z h ≤ g_t h := by omega
    simp only [o283_0, o283_1, o283_4, o283_5, o283_6, o283_7, o283_10, o283_11, o283_12, o283_13, o283_17, o283_18, o283_21, o283_24, mc_pN, mc_pC, mz_pN, mz_pC, mcs_0, true_and, and_true, not_true_eq_false, false_implies, forall_const, if_true, and_self, Nat.reduceLeDiff, Nat.reduceSub, Nat.zero_le, Nat.le_refl, v1, v2, e1, e2]
    exact hQ _
  · have n1 : (v = g_t h) = False := eq_false (by omega)
    have e1 : (Int32.ofNat n = Int32.ofNat (g_n h v)) = False := by
      apply eq_false
      intro z
      have z2 := congrArg Int32.toNatClampNeg z
      rw [n_cl (by omega), n_cl (by omega)] at z2
      exact he z2
    have e2 : (Int32.ofNat n < 0) = False := n_z (by omega)
    have e3 : (Int32.ofNat n).toNatClampNeg = n := n_cl (by omega)
    have e4 : (n ≤ 67108864) = True := eq_true (by omega)
    have e5 : (n ≤ 150) = True := eq_true (by omega)
    have e6 : (Int32.ofNat n < Int32.ofNat (g_n h v)) = True := by rw [n_lt (by omega) (by omega)]; exact eq_true (by omega)
    have e7 : Int32.ofNat n - 0 = Int32.ofNat n := Int32.sub_zero _
    have e8 : Int32.ofNat (g_n h v) - 0 = Int32.ofNat (g_n h v) := Int32.sub_zero _
    have e9 : g_z h ≤ g_t h := by omega
    simp only [o283_0, o283_1, o283_4, o283_5, o283_6, o283_7, o283_10, o283_11, o283_12, o283_13, o283_16, o283_17, o283_18, o283_21, o283_24, o284_0, o284_1, o284_2, o284_5, o284_6, o284_7, o284_8, o284_9, o284_10, o284_12, o284_14, o284_15, o284_16, o284_18, o284_19, o284_20, o284_21, o284_22, o284_23, o284_24, o284_27, o284_30, o284_32, o282_0, o282_1, o282_2, o282_37, mc_pN, mc_pC, mn_pN, mz_pN, mz_pC, mcs_0, mcs_i, mcs_r, Kn_v, Kn_0, true_and, and_true, not_true_eq_false, not_false_eq_true, false_implies, forall_const, if_true, if_false, and_self, Nat.reduceLeDiff, Nat.reduceSub, Nat.reduceAdd, Nat.zero_le, Nat.le_refl, lt_le, Int32.reduceLT, cl0, v1, v2, n1, e1, e2, e3, e4, e5, e6, e7, e8, e9, hn, Nat.zero_add]
    exact hQ _
theorem Fx_Fr {sb dg : Nat} {h m : MH} (f : Fr h m) : Fx sb dg h m := ⟨f.1, f.2.1, f.2.2.1, fun a ha => ⟨(f.2.2.2 a ha).1, fun _ _ _ => (f.2.2.2 a ha).2⟩⟩
theorem o261_3n {l s : List Value} {v0 : Nat} {a : Nat} {bc bs : Nat} {h : MH} {Q : MR → MH → Prop} : Ok 261 3 l (.null :: .ref v0 :: .ref a :: s) h bc bs Q ↔ (g_c h a = 11) ∧ 1 ≤ bc ∧ 150 ≤ bs ∧ csum s ≤ 8 ∧ Ok 264 0 [.ref a, .ref v0, .null, mk0, mk0] [] h 1 150 (Kn 261 6 l s (bc - 1) (bs - 150) Q) := Ok_ca (dz183 (x := 489) (Pd (k := 3) pr261_0 rfl rfl) rfl) (si_I (show tI (tb_o 261 * 65536 + 489) = some (264, 2, 2, 11) by decide +kernel) (by decide) (show tb_k 264 = (1, 150) by decide +kernel) s_tk2) ⟨fun k => k.2, fun k => ⟨rfl, k⟩⟩ ⟨Nat.le_of_ble_eq_true rfl, Nat.le_of_ble_eq_true rfl⟩ rfl (by decide +kernel)
theorem o264_8z {a0 a1 a3 a4 : Value} {s : List Value} {x : Nat}  {bc bs : Nat} {h : MH} {Q : MR → MH → Prop} : Ok 264 8 [a0, a1, .null, a3, a4] (.ref x :: s) h bc bs Q ↔ Ok 264 9 [a0, a1, .null, (.ref x), a4] s h bc bs Q := Ok_n1 (dz78 (Pd (k := 8) pr264_0 rfl rfl)) rfl ⟨rfl, Nat.le_of_ble_eq_true rfl⟩
theorem J_str {sb n : Nat} {h : MH} {Q : MR → MH → Prop} (b : Bd sb n h) (hQ : ∀ m s, Fr h m → St s n m → g_t h ≤ s → Q (.inl (some (.ref s))) m) : Ok 274 0 [.ref sb] [] h 2 154 Q := by
  obtain ⟨c1, c2, c3, c4, c5, v, v1, v2, v3, v4, v5, v6⟩ := b
  have hc := capOk_le v5
  have n1 : (sb = g_t h) = False := eq_false (by omega)
  have n2 : (v = g_t h) = False := eq_false (by omega)
  have n3 : g_z h ≤ g_t h := by omega
  simp only [o274_0, o274_3, o274_4, o274_5, o261_0, o261_1, o261_2, o261_3n, o264_8z, o264_0, o264_1, o264_4, o264_5, o264_9, o264_10, o264_13, o264_15, o264_16, o264_19, o264_22, o264_23, o264_24, o264_27, o264_28, o264_29, o264_30, o264_32, J_getValue (v := v), J_len, J_isLatin1, mc_pN, mi_pN, mr_pN, mz_pN, mcs_0, mcs_r, Kn_v, true_and, not_false_eq_true, false_implies, forall_const, if_true, if_false, and_self, Nat.reduceLeDiff, Nat.reduceSub, Nat.reduceAdd, Nat.zero_le, Nat.le_refl, i10, c1, c4, c5, v1, n1, n3, kb0]
  refine J_cpR ?_ ?_ ?_ ?_ ?_ (fun f => ?_)
  · simp only [mc_pi, mc_pN, if_false, n2]; exact v2
  · exact v3
  · simp only [mt_pi, mt_pN]; omega
  · simp only [mn_pi, mn_pN, if_false, n2]; exact hc
  · simp only [mn_pi, mn_pN, if_false, n2]; exact v6
  have n4 : (g_t h = g_t h + 1) = False := eq_false (by omega)
  simp only [o274_8, o261_6, o264_35, o264_38, o264_97, mc_pi, mc_pN, mc_pC, mt_pi, mt_pN, mz_pi, mz_pN, mz_pC, Kn_v, Kn_0, true_and, if_true, if_false, and_self, n3, n4]
  refine hQ _ _ (Fr_pr (Fr_pC (Fr_pN (Fr_pi (Fr_pN Fr_rfl) (Nat.le_refl _))) (Nat.le_succ _)) (Nat.le_refl _)) ⟨?_, ?_, ?_, g_t h + 1, ?_, ?_, ?_, ?_⟩ (Nat.le_refl _)
  · simp only [mc_pi, mc_pr, mc_pN, mc_pC, mt_pi, mt_pN, if_true, if_false, n4]
  · simp only [mt_pi, mt_pr, mt_pN, mt_pC]; omega
  · simp only [mi_pi, mi_pr, mi_pN, mi_pC, mt_pi, mt_pN, if_true, if_false, and_self, n4]
  · simp only [mr_pi, mr_pr, mr_pN, mr_pC, mt_pi, mt_pN, if_true, and_self]
  · simp only [mc_pi, mc_pr, mc_pN, mc_pC, mt_pi, mt_pN, if_true]
  · simp only [mt_pi, mt_pr, mt_pN, mt_pC]; omega
  · simp only [mn_pi, mn_pr, mn_pN, mn_pC, mt_pi, mt_pN, if_true]
end

section
set_option maxRecDepth 16384
/-! TEXTS of the class -/
theorem J_lenB {sb n : Nat} {h : MH} {Q : MR → MH → Prop} (b : Bd sb n h) : Ok 276 0 [.ref sb] [] h 0 0 Q ↔ Q (.inl (some (.int (Int32.ofNat n)))) h := by
  rw [J_len b.1, b.2.2.2.2.1]
/-- the words' object w: its builder sb, its row of digits dg -/
def Wo (w sb dg : Nat) (h : MH) : Prop := g_c h w = 6 ∧ w < g_t h ∧ g_r h w 0 = some sb ∧ g_r h w 1 = some dg ∧ g_c h dg = 104 ∧ g_z h ≤ dg ∧ dg < g_t h ∧ g_n h dg = 19 ∧ g_c h sb = 10
theorem Wo_Fx {w sb dg : Nat} {h m : MH} (o : Wo w sb dg h) (f : Fx sb dg h m) (hs : sb < g_t h) : Wo w sb dg m := by
  obtain ⟨o1, o2, o3, o4, o5, o6, o7, o8, o9⟩ := o
  obtain ⟨f1, f2, f3, f4⟩ := f
  have n1 : ¬ w = sb := fun z => by rw [z, o9] at o1; cases o1
  have n2 : ¬ w = dg := fun z => by rw [z, o5] at o1; cases o1
  obtain ⟨⟨a1, a2⟩, a3⟩ := f4 w o2
  obtain ⟨-, -, a4⟩ := a3 n1 n2 (by rw [o1]; decide)
  obtain ⟨⟨b1, b2⟩, -⟩ := f4 dg o7
  obtain ⟨⟨c1, -⟩, -⟩ := f4 sb hs
  exact ⟨a1.trans o1, by omega, (a4 0).trans o3, (a4 1).trans o4, b1.trans o5, by rw [f1]; exact o6, by omega, b2.trans o8, c1.trans o9⟩
theorem c_start {w sb dg n : Nat} {h : MH} {Q : MR → MH → Prop} (o : Wo w sb dg h) (b : Bd sb n h) (hQ : ∀ m, Fx sb dg h m → Bd sb 0 m → Q (.inl none) m) : Ok 52 0 [.ref w] [] h 1 150 Q := by
  obtain ⟨o1, o2, o3, o4, o5, o6, o7, o8, o9⟩ := o
  simp only [o52_0, o52_1, o52_4, o52_5, mcs_0, mrf_some, true_and, Nat.reduceSub, Nat.zero_le, Nat.le_refl, o1, o3, o9]
  refine J_set0 b (fun m f b' => ?_)
  simp only [o52_8, Kn_0]
  exact hQ m (Fx_w f) b'
theorem c_joined {w sb dg n : Nat} {h : MH} {Q : MR → MH → Prop} (o : Wo w sb dg h) (b : Bd sb n h) (hQ : ∀ m s, Fr h m → St s n m → g_t h ≤ s → Q (.inl (some (.ref s))) m) : Ok 55 0 [.ref w] [] h 2 154 Q := by
  obtain ⟨o1, o2, o3, o4, o5, o6, o7, o8, o9⟩ := o
  simp only [o55_0, o55_1, o55_4, mcs_0, mrf_some, true_and, Nat.reduceSub, Nat.zero_le, Nat.le_refl, o1, o3, o9]
  refine J_str b (fun m s f t hs => ?_)
  simp only [o55_7, Kn_v]
  exact hQ m s f t hs
theorem c_wlen {w sb dg n : Nat} {h : MH} {Q : MR → MH → Prop} (o : Wo w sb dg h) (b : Bd sb n h) : Ok 54 0 [.ref w] [] h 0 0 Q ↔ Q (.inl (some (.int (Int32.ofNat n)))) h := by
  obtain ⟨o1, o2, o3, o4, o5, o6, o7, o8, o9⟩ := o
  simp only [o54_0, o54_1, o54_4, o54_7, J_lenB b, mcs_0, Kn_v, mrf_some, true_and, Nat.zero_le, o1, o3, o9]
/-! where the first digit stands -/
def fdF : Nat → Nat → Nat → Nat
  | 0, _, s => s
  | A + 1, n, s => fdF A (n / 10) (if n % 10 = 0 then s else A)
theorem fdF_eq : ∀ (A n s : Nat), n < 10 ^ A → fdF A n s = if n = 0 then s else A - ndf (A - 1) n
  | 0, n, s, h => by
    have : n = 0 := by simpa using h
    rw [if_pos this]; rfl
  | A + 1, n, s, h => by
    have h2 : n / 10 < 10 ^ A := by
      rw [Nat.div_lt_iff_lt_mul (by decide), ← Nat.pow_succ]
      exact h
    unfold fdF
    rw [fdF_eq A (n / 10) _ h2]
    by_cases h0 : n = 0
    · subst h0; rfl
    · rw [if_neg h0]
      by_cases h1 : n < 10
      · have e1 : n / 10 = 0 := by omega
        have e2 : n % 10 = n := by omega
        rw [if_pos e1, e2, if_neg h0]
        have e3 : ndf (A + 1 - 1) n = 1 := by
          cases A with
          | zero => rfl
          | succ B => show ndf (B + 1) n = 1; unfold ndf; rw [if_pos h1]
        rw [e3]; omega
      · have e1 : ¬ n / 10 = 0 := by omega
        rw [if_neg e1]
        cases A with
        | zero => exfalso; have : n < 10 := by simpa using h
                  exact h1 this
        | succ B =>
          have e3 : ndf (B + 1 + 1 - 1) n = ndf B (n / 10) + 1 := by
            show ndf (B + 1) n = _
            rw [show ndf (B + 1) n = if n < 10 then 1 else ndf B (n / 10) + 1 from rfl, if_neg h1]
          rw [e3]
          show B + 1 - ndf B (n / 10) = _
          omega
theorem fd_val (n : Nat) (h : n ≤ 9223372036854775808) : fdF 19 n 18 = 19 - ndf 18 n := by
  rw [fdF_eq 19 n 18 (by omega)]
  by_cases h0 : n = 0
  · subst h0; rfl
  · rw [if_neg h0]
def atv : Nat → Int32
  | 0 => -1
  | A + 1 => Int32.ofNat A
theorem r10_abs (r : Int64) : (r / 10).toInt.natAbs = r.toInt.natAbs / 10 := by
  have h1 := r.toInt_lt
  have h2 := r.le_toInt
  have e := Int.natAbs_tdiv r.toInt 10
  have e2 : (10 : Int).natAbs = 10 := rfl
  rw [e2] at e
  have e3 : (r.toInt.tdiv 10).natAbs = r.toInt.natAbs / 10 := e
  rw [Int64.toInt_div, c100.2.2.1, Int.bmod_eq_of_le (by omega) (by omega), e3]
theorem r10_rem (r : Int64) : (r - r / 10 * 10).toInt32.toInt = r.toInt.tmod 10 := by
  have h1 := r.toInt_lt
  have h2 := r.le_toInt
  have e := Int.natAbs_tdiv r.toInt 10
  have e2 : (10 : Int).natAbs = 10 := rfl
  rw [e2] at e
  have e' : (r.toInt.tdiv 10).natAbs = r.toInt.natAbs / 10 := e
  have e3 := Int.tmod_add_tdiv_mul r.toInt 10
  have e4 := Int.natAbs_tmod r.toInt 10
  rw [e2] at e4
  have e5 : r.toInt.natAbs % 10 < 10 := Nat.mod_lt _ (by decide)
  have e6 : (r / 10).toInt = r.toInt.tdiv 10 := by
    rw [Int64.toInt_div, c100.2.2.1, Int.bmod_eq_of_le (by omega) (by omega)]
  rw [Int64.toInt_toInt32, Int64.toInt_sub, Int64.toInt_mul, c100.2.2.1, e6, Int.bmod_eq_of_le (n := r.toInt.tdiv 10 * 10) (by omega) (by omega), Int.bmod_eq_of_le (n := r.toInt - r.toInt.tdiv 10 * 10) (by omega) (by omega), Int.bmod_eq_of_le (by omega) (by omega)]
  omega
theorem ab10 (r : Int64) {d : Decidable (¬ (r - r / 10 * 10).toInt32 < 0)} : (@ite _ (¬ (r - r / 10 * 10).toInt32 < 0) d (r - r / 10 * 10).toInt32 (0 - (r - r / 10 * 10).toInt32)) = Int32.ofNat (r.toInt.natAbs % 10) := by
  have e1 := r10_rem r
  have e4 := Int.natAbs_tmod r.toInt 10
  have e2 : (10 : Int).natAbs = 10 := rfl
  rw [e2] at e4
  have e5 : r.toInt.natAbs % 10 < 10 := Nat.mod_lt _ (by decide)
  apply Int32.toInt_inj.mp
  rw [nat_t (by omega)]
  by_cases h : (r - r / 10 * 10).toInt32 < 0
  · rw [if_neg (fun z => z h)]
    rw [Int32.lt_iff_toInt_lt, e1, show (0 : Int32).toInt = 0 from rfl] at h
    rw [Int32.toInt_sub, e1, show (0 : Int32).toInt = 0 from rfl, Int.bmod_eq_of_le (by omega) (by omega)]
    omega
  · rw [if_pos h]
    rw [Int32.lt_iff_toInt_lt, e1, show (0 : Int32).toInt = 0 from rfl] at h
    rw [e1]
    omega
theorem chv_all : ∀ k ∈ List.range 10, ¬ (255 : Int32) < vp_nar .char (((48 : Int32) + Int32.ofNat k).toUInt32 % 65536).toInt32 := by decide +kernel
theorem chv (n : Nat) : ¬ (255 : Int32) < vp_nar .char (((48 : Int32) + Int32.ofNat (n % 10)).toUInt32 % 65536).toInt32 := chv_all _ (List.mem_range.mpr (Nat.mod_lt _ (by decide)))
theorem nz10 (n : Nat) : (Int32.ofNat (n % 10) = 0) = (n % 10 = 0) := by
  apply propext
  constructor
  · intro z
    have := congrArg Int32.toNatClampNeg z
    rw [n_cl (by omega)] at this
    exact this
  · intro z
    rw [z]; rfl
theorem n_dec1 (A : Nat) (h : A < 1000) : Int32.ofNat A + -1 = atv A := by
  cases A with
  | zero => rfl
  | succ B => exact n_dec (by omega) (by omega)
theorem t10 : ((10 : Int64) = 0) = False := by decide
theorem z00 : (Int32.ofNat 0 = (0 : Int32)) = True := eq_true rfl
theorem fd_loop {w sb dg : Nat} {h : MH} {v0 : Value} {Q : MR → MH → Prop} (o : Wo w sb dg h) : ∀ (A : Nat) (r : Int64) (s : Nat) (f : Nat → Int32) (a7 : Value), A ≤ 19 → (∀ k, A ≤ k → k < 19 → ¬ 255 < f k) → (∀ g : Nat → Int32, (∀ k, k < 19 → ¬ 255 < g k) → Q (.inl (some (.int (Int32.ofNat (fdF A r.toInt.natAbs s))))) (p_C h dg g)) →
    Ok 56 20 [.ref w, v0, mk0, .int (Int32.ofNat s), .long r, mk0, .int (atv A), a7] [] (p_C h dg f) 0 0 Q
  | 0, r, s, f, a7, hA, hf, hQ => by
    have c1 : (atv 0 < 0) = True := by decide
    rw [o56_20]
    simp only [o56_22, o56_25, o56_27, o56_30, o56_31, o56_32, o56_35, o56_37, o56_38, o56_41, o56_43, o56_45, o56_47, o56_48, o56_76, o56_77, mc_pC, mr_pC, mcs_0, true_and, and_true, not_true_eq_false, false_implies, forall_const, Nat.zero_le, lt_le, c1]
    exact hQ f (fun k hk => hf k (Nat.zero_le _) hk)
  | A + 1, r, s, f, a7, hA, hf, hQ => by
    obtain ⟨o1, o2, o3, o4, o5, o6, o7, o8, o9⟩ := o
    have c1 : (atv (A + 1) < 0) = False := n_z (a := A) (by omega)
    have c2 : atv (A + 1) = Int32.ofNat A := rfl
    have c3 : vp_in (Int32.ofNat A) 19 := vp_of (by omega) (by omega)
    have c4 : (Int32.ofNat A).toNatClampNeg = A := n_cl (by omega)
    have c5 := n_dec1 A (by omega)
    have c6 := nz10 r.toInt.natAbs
    have hf2 : ∀ k, A ≤ k → k < 19 → ¬ 255 < (fun j => if j = A then vp_nar .char (((48 : Int32) + Int32.ofNat (r.toInt.natAbs % 10)).toUInt32 % 65536).toInt32 else f j) k := fun k h1 h2 => by
      show ¬ 255 < (if k = A then _ else f k)
      by_cases hk : k = A
      · rw [if_pos hk]; exact chv _
      · rw [if_neg hk]; exact hf k (by omega) h2
    have hr := r10_abs r
    rw [c2] at c1
    rw [o56_20, c2]
    by_cases h0 : r.toInt.natAbs % 10 = 0
    · have lp := fd_loop (v0 := v0) (Q := Q) ⟨o1, o2, o3, o4, o5, o6, o7, o8, o9⟩ A (r / 10) s _ (.int (Int32.ofNat (r.toInt.natAbs % 10))) (by omega) hf2 (fun g hg => by
        rw [hr]
        have z := hQ g hg
        unfold fdF at z
        rw [if_pos h0] at z
        exact z)
      simp only [o56_22, o56_25, o56_27, o56_30, o56_31, o56_32, o56_35, o56_37, o56_38, o56_41, o56_43, o56_45, o56_47, o56_48, o56_49, o56_50, o56_52, o56_55, o56_56, o56_59, o56_61, o56_62, o56_64, o56_67, o56_68, o56_70, o56_73, mc_pC, mn_pC, mr_pC, mz_pC, mcs_0, mrf_some, true_and, not_true_eq_false, not_false_eq_true, false_implies, forall_const, and_self, Nat.zero_le, lt_le, pC_pi, o1, o4, o5, o6, o8, c1, c3, c4, c5, ab10, h0, t10, z00]
      rw [h0] at lp
      exact lp
    · have lp := fd_loop (v0 := v0) (Q := Q) ⟨o1, o2, o3, o4, o5, o6, o7, o8, o9⟩ A (r / 10) A _ (.int (Int32.ofNat (r.toInt.natAbs % 10))) (by omega) hf2 (fun g hg => by
        rw [hr]
        have z := hQ g hg
        unfold fdF at z
        rw [if_neg h0] at z
        exact z)
      simp only [o56_22, o56_25, o56_27, o56_30, o56_31, o56_32, o56_35, o56_37, o56_38, o56_41, o56_43, o56_45, o56_47, o56_48, o56_49, o56_50, o56_52, o56_55, o56_56, o56_59, o56_61, o56_62, o56_64, o56_67, o56_68, o56_70, o56_73, mc_pC, mn_pC, mr_pC, mz_pC, mcs_0, mrf_some, true_and, and_true, not_false_eq_true, false_implies, forall_const, and_self, Nat.zero_le, lt_le, pC_pi, o1, o4, o5, o6, o8, c1, c3, c4, c5, c6, ab10, h0, t10]
      exact lp
theorem c_fd {w sb dg : Nat} {h : MH} {v : Int64} {Q : MR → MH → Prop} (o : Wo w sb dg h) (hQ : ∀ g : Nat → Int32, (∀ k, k < 19 → ¬ 255 < g k) → Q (.inl (some (.int (Int32.ofNat (19 - ndf 18 v.toInt.natAbs))))) (p_C h dg g)) : Ok 56 0 [.ref w, .long v, mk0, mk0, mk0, mk0, mk0, mk0] [] h 0 0 Q := by
  have lp := fd_loop (v0 := .long v) (Q := Q) o 19 v 18 (fun j => g_i h dg j) mk0 (by decide) (fun k h1 h2 => by omega) (fun g hg => by
    rw [fd_val _ (i64_abs v)]
    exact hQ g hg)
  rw [pC_self] at lp
  obtain ⟨o1, o2, o3, o4, o5, o6, o7, o8, o9⟩ := o
  have c1 : Int32.ofNat 19 - 1 = Int32.ofNat 18 := by decide
  have c2 : atv 19 = Int32.ofNat 18 := rfl
  rw [c2] at lp
  simp only [o56_0, o56_1, o56_4, o56_5, o56_6, o56_7, o56_8, o56_9, o56_11, o56_12, o56_15, o56_16, o56_17, o56_18, mrf_some, true_and, and_self, Nat.reduceLeDiff, o1, o4, o5, o8, c1]
  exact lp
def Dg (dg : Nat) (h : MH) : Prop := ∀ k, k < 19 → ¬ 255 < g_i h dg k
theorem Dg_Fx {w sb dg : Nat} {h m : MH} (d : Dg dg h) (o : Wo w sb dg h) (f : Fx sb sb h m) : Dg dg m := by
  obtain ⟨o1, o2, o3, o4, o5, o6, o7, o8, o9⟩ := o
  have n1 : ¬ dg = sb := fun z => by rw [z, o9] at o5; cases o5
  obtain ⟨-, a3⟩ := f.2.2.2 dg o7
  obtain ⟨a4, -, -⟩ := a3 n1 n1 (by rw [o5]; decide)
  intro k hk
  rw [a4]
  exact d k hk
theorem add_loop {w sb dg : Nat} {v0 : Value} {Q : MR → MH → Prop} : ∀ (k i n : Nat) (m : MH), i + k = 19 → Wo w sb dg m → Dg dg m → Bd sb n m → n + k ≤ 142 → (∀ q, Fx sb dg m q → Bd sb (n + k) q → Q (.inl none) q) →
    Ok 53 42 [.ref w, v0, mk0, .int (Int32.ofNat i)] [] m k (150 * k) Q
  | 0, i, n, m, hi, o, d, b, hn, hQ => by
    obtain ⟨o1, o2, o3, o4, o5, o6, o7, o8, o9⟩ := o
    have c1 : i = 19 := by omega
    subst c1
    rw [o53_42]
    simp only [o53_43, o53_44, o53_47, o53_48, o53_51, o53_52, o53_55, o53_56, o53_59, o53_60, o53_71, mrf_some, true_and, and_true, not_true_eq_false, not_false_eq_true, false_implies, forall_const, and_self, Nat.reduceLeDiff, lt_le, o1, o4, o5, o8, n_irr]
    exact hQ m Fx_rfl b
  | k + 1, i, n, m, hi, o, d, b, hn, hQ => by
    have o0 := o
    obtain ⟨o1, o2, o3, o4, o5, o6, o7, o8, o9⟩ := o0
    have c1 : (Int32.ofNat i < Int32.ofNat 19) = True := by rw [n_lt (by omega) (by omega)]; exact eq_true (by omega)
    have c3 : vp_in (Int32.ofNat i) 19 := vp_of (by omega) (by omega)
    have c4 : (Int32.ofNat i).toNatClampNeg = i := n_cl (by omega)
    have c5 : Int32.ofNat i + 1 = Int32.ofNat (i + 1) := n_add i 1
    have c6 : (1 ≤ k + 1) = True := eq_true (by omega)
    have c7 : (150 ≤ 150 * (k + 1)) = True := eq_true (by omega)
    have c8 : 150 * (k + 1) - 150 = 150 * k := by omega
    have c9 : k + 1 - 1 = k := by omega
    rw [o53_42]
    simp only [o53_43, o53_44, o53_47, o53_48, o53_51, o53_52, o53_55, o53_56, o53_59, o53_60, o53_61, mcs_0, mrf_some, true_and, not_true_eq_false, not_false_eq_true, false_implies, forall_const, and_self, Nat.reduceLeDiff, Nat.zero_le, lt_le, o1, o3, o4, o5, o8, o9, c1, c3, c4, c6, c7, c8, c9]
    refine J_apC4 b (by omega) (d i (by omega)) (fun m2 f b2 => ?_)
    simp only [o53_64, o53_65, o53_68, Kn_v, c5]
    exact add_loop k (i + 1) (n + 1) m2 (by omega) (Wo_Fx o (Fx_w f) b.2.2.1) (Dg_Fx d o f) b2 (by omega) (fun q f2 b3 => hQ q (Fx_tr (Fx_w f) f2) (by rw [show n + (k + 1) = n + 1 + k by omega]; exact b3))
theorem Bd_pC {w sb dg n : Nat} {h : MH} {g : Nat → Int32} (b : Bd sb n h) (o : Wo w sb dg h) : Bd sb n (p_C h dg g) := by
  obtain ⟨c1, c2, c3, c4, c5, v, v1, v2, v3, v4, v5, v6⟩ := b
  have n1 : ¬ sb = dg := fun z => by have := o.2.2.2.2.1; rw [← z, c1] at this; cases this
  exact ⟨c1, c2, c3, by rw [mi_pC, if_neg n1]; exact c4, by rw [mi_pC, if_neg n1]; exact c5, v, v1, v2, v3, v4, v5, v6⟩
/-- from the digits on -/
theorem c_add36 {w sb dg n : Nat} {h : MH} {v : Int64} {a3 : Value} {Q : MR → MH → Prop} (o : Wo w sb dg h) (b : Bd sb n h) (hn : n + ndf 18 v.toInt.natAbs ≤ 142) (hQ : ∀ m, Fx sb dg h m → Bd sb (n + ndf 18 v.toInt.natAbs) m → Q (.inl none) m) : Ok 53 36 [.ref w, .long v, mk0, a3] [] h 19 2850 Q := by
  have o0 := o
  obtain ⟨o1, o2, o3, o4, o5, o6, o7, o8, o9⟩ := o0
  have p1 := ndf_pos 18 v.toInt.natAbs
  have p2 := ndf_le_f 18 v.toInt.natAbs
  simp only [o53_36, o53_37, o53_38, mcs_0, true_and, Nat.zero_le, o1]
  refine c_fd o (fun g hg => ?_)
  have f1 : Fx sb dg h (p_C h dg g) := Fx_pC Fx_rfl (Or.inr (Or.inl rfl))
  have d1 : Dg dg (p_C h dg g) := fun k hk => by rw [mi_pC, if_pos rfl]; exact hg k hk
  have lp := add_loop (v0 := .long v) (Q := Q) (ndf 18 v.toInt.natAbs) (19 - ndf 18 v.toInt.natAbs) n (p_C h dg g) (by omega) (Wo_Fx o f1 b.2.2.1) d1 (Bd_pC b o) hn (fun q f b3 => hQ q (Fx_tr f1 f) b3)
  simp only [o53_41, Kn_v]
  exact Ok_le lp _ _ (by omega) (by omega)
theorem c_add20 {w sb dg n : Nat} {h : MH} {v : Int64} {a3 : Value} {Q : MR → MH → Prop} (o : Wo w sb dg h) (b : Bd sb n h) (hn : n + tsz v ≤ 142) (hQ : ∀ m, Fx sb dg h m → Bd sb (n + tsz v) m → Q (.inl none) m) : Ok 53 20 [.ref w, .long v, mk0, a3] [] h 20 3000 Q := by
  have o0 := o
  obtain ⟨o1, o2, o3, o4, o5, o6, o7, o8, o9⟩ := o0
  have c45 : ¬ 255 < (45 : Int32) := by decide
  unfold tsz at hn hQ
  by_cases hv : v < 0
  · rw [if_pos hv] at hn hQ
    simp only [o53_20, o53_21, o53_22, o53_23, o53_26, o53_27, o53_30, o53_32, mcs_0, mrf_some, true_and, not_true_eq_false, not_false_eq_true, false_implies, forall_const, Nat.reduceLeDiff, Nat.reduceSub, Nat.zero_le, lt_le, lg_cmp_lt, hv, o1, o3, o9]
    refine J_apC4 b (by omega) c45 (fun m f b2 => ?_)
    simp only [o53_35, Kn_v]
    exact c_add36 (Wo_Fx o (Fx_w f) b.2.2.1) b2 (by omega) (fun q f2 b3 => hQ q (Fx_tr (Fx_w f) f2) (by rw [← Nat.add_assoc]; exact b3))
  · rw [if_neg hv, Nat.zero_add] at hn hQ
    simp only [o53_20, o53_21, o53_22, o53_23, and_true, not_true_eq_false, not_false_eq_true, false_implies, forall_const, lt_le, lg_cmp_lt, hv]
    exact Ok_le (c_add36 o b hn hQ) _ _ (by decide) (by decide)
def sep (n : Nat) : Nat := if n = 0 then 0 else 1
theorem c_add {w sb dg n : Nat} {h : MH} {v : Int64} {Q : MR → MH → Prop} (o : Wo w sb dg h) (b : Bd sb n h) (hn : n + sep n + tsz v ≤ 142) (hQ : ∀ m, Fx sb dg h m → Bd sb (n + sep n + tsz v) m → Q (.inl none) m) : Ok 53 0 [.ref w, .long v, mk0, mk0] [] h 21 3150 Q := by
  have o0 := o
  obtain ⟨o1, o2, o3, o4, o5, o6, o7, o8, o9⟩ := o0
  have c32 : ¬ 255 < (32 : Int32) := by decide
  unfold sep at hn hQ
  by_cases h0 : n = 0
  · rw [if_pos h0, Nat.add_zero] at hn hQ
    have c1 : (0 < Int32.ofNat n) = False := by rw [h0]; decide
    simp only [o53_0, o53_1, o53_4, o53_7, J_lenB b, mcs_0, Kn_v, mrf_some, true_and, and_true, not_true_eq_false, not_false_eq_true, false_implies, forall_const, Nat.zero_le, lt_le, o1, o3, o9, c1]
    exact Ok_le (c_add20 o b hn hQ) _ _ (by decide) (by decide)
  · rw [if_neg h0] at hn hQ
    have c1 : (0 < Int32.ofNat n) = True := by rw [show (0 : Int32) = Int32.ofNat 0 from rfl, n_lt (by omega) (by omega)]; exact eq_true (by omega)
    simp only [o53_0, o53_1, o53_4, o53_7, o53_10, o53_11, o53_14, o53_16, J_lenB b, mcs_0, Kn_v, mrf_some, true_and, not_true_eq_false, not_false_eq_true, false_implies, forall_const, Nat.reduceLeDiff, Nat.reduceSub, Nat.zero_le, lt_le, o1, o3, o9, c1]
    refine J_apC4 b (by omega) c32 (fun m f b2 => ?_)
    simp only [o53_19, Kn_v]
    exact c_add20 (Wo_Fx o (Fx_w f) b.2.2.1) b2 hn (fun q f2 b3 => hQ q (Fx_tr (Fx_w f) f2) b3)
end

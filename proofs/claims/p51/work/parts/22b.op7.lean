theorem Rl_F7 {A : Nat → Nat} {h : MH} {b c tag z : Nat} {v : Int64} {k0 k1 k2 k3 k4 k5 k6 : Nat} {x0 x1 x2 x3 x4 x5 x6 : Int32} (R : Rl A (p_i (p_l h b 0 v) c 9 0)) : Rl A (p_i (p_i (p_i (p_i (p_i (p_i (p_i (p_N (p_i (p_l h b 0 v) c 9 0) tag z) (g_t h) k0 x0) (g_t h) k1 x1) (g_t h) k2 x2) (g_t h) k3 x3) (g_t h) k4 x4) (g_t h) k5 x5) (g_t h) k6 x6) := Rl_Fr R (show Fr (p_i (p_l h b 0 v) c 9 0) _ from (Fr_pi (Fr_pi (Fr_pi (Fr_pi (Fr_pi (Fr_pi (Fr_pi (Fr_pN Fr_rfl) (Nat.le_refl _)) (Nat.le_refl _)) (Nat.le_refl _)) (Nat.le_refl _)) (Nat.le_refl _)) (Nat.le_refl _)) (Nat.le_refl _)))
theorem Rl_F8 {A : Nat → Nat} {h : MH} {b c tag z : Nat} {v : Int64} {k0 k1 k2 k3 k4 k5 k6 k7 : Nat} {x0 x1 x2 x3 x4 x5 x6 x7 : Int32} (R : Rl A (p_i (p_l h b 0 v) c 9 0)) : Rl A (p_i (p_i (p_i (p_i (p_i (p_i (p_i (p_i (p_N (p_i (p_l h b 0 v) c 9 0) tag z) (g_t h) k0 x0) (g_t h) k1 x1) (g_t h) k2 x2) (g_t h) k3 x3) (g_t h) k4 x4) (g_t h) k5 x5) (g_t h) k6 x6) (g_t h) k7 x7) := Rl_Fr R (show Fr (p_i (p_l h b 0 v) c 9 0) _ from (Fr_pi (Fr_pi (Fr_pi (Fr_pi (Fr_pi (Fr_pi (Fr_pi (Fr_pi (Fr_pN Fr_rfl) (Nat.le_refl _)) (Nat.le_refl _)) (Nat.le_refl _)) (Nat.le_refl _)) (Nat.le_refl _)) (Nat.le_refl _)) (Nat.le_refl _)) (Nat.le_refl _)))
theorem Rl_F9 {A : Nat → Nat} {h : MH} {b c tag z : Nat} {v : Int64} {k0 k1 k2 k3 k4 k5 k6 k7 k8 : Nat} {x0 x1 x2 x3 x4 x5 x6 x7 x8 : Int32} (R : Rl A (p_i (p_l h b 0 v) c 9 0)) : Rl A (p_i (p_i (p_i (p_i (p_i (p_i (p_i (p_i (p_i (p_N (p_i (p_l h b 0 v) c 9 0) tag z) (g_t h) k0 x0) (g_t h) k1 x1) (g_t h) k2 x2) (g_t h) k3 x3) (g_t h) k4 x4) (g_t h) k5 x5) (g_t h) k6 x6) (g_t h) k7 x7) (g_t h) k8 x8) := Rl_Fr R (show Fr (p_i (p_l h b 0 v) c 9 0) _ from (Fr_pi (Fr_pi (Fr_pi (Fr_pi (Fr_pi (Fr_pi (Fr_pi (Fr_pi (Fr_pi (Fr_pN Fr_rfl) (Nat.le_refl _)) (Nat.le_refl _)) (Nat.le_refl _)) (Nat.le_refl _)) (Nat.le_refl _)) (Nat.le_refl _)) (Nat.le_refl _)) (Nat.le_refl _)) (Nat.le_refl _)))
theorem hx_309_1 {l rest : List Value} {bc bs : Nat} {Q : MR → MH → Prop} {h : MH} : Kc Ok 309 4 7 l rest bc bs Q (.inr 1) h ↔ ∀ q : Nat, Ok 309 14 l [.ref q] h bc bs Q := Kc_x (by decide +kernel) (by decide +kernel)
theorem hx_309_2 {l rest : List Value} {bc bs : Nat} {Q : MR → MH → Prop} {h : MH} : Kc Ok 309 4 7 l rest bc bs Q (.inr 2) h ↔ ∀ q : Nat, Ok 309 18 l [.ref q] h bc bs Q := Kc_x (by decide +kernel) (by decide +kernel)
theorem op_place {A : Nat → Nat} {h : MH} (R : Rl A h) {q x : Int32} : Ok 309 0 [.ref (A 0), .int q, .int x, .ref (A 39), mk0] [] h 2 12 (fun r h1 => ∃ k : Int32, r = .inl (some (.int k)) ∧ g_c h1 (A 22) = 9 ∧ Ok 203 0 [.ref (A 22), .int q, .int x, mk0] [] h1 1 7 (fun r2 h2 => ∃ b : Int32, r2 = .inl (some (.int b)) ∧ Rl A h2 ∧ g_i h2 (A 22) 9 = k ∧ (k = 0 → g_l h2 (A 39) 0 = b.toInt64))) := by
  obtain ⟨vk, vcn, v0, v1, v2, vp, vl0, vl1, vlr, vsr, vc, tx⟩ := R
  have vk0 := vk
  have vcn0 := vcn
  (refine K_el vk0 ?_; intros hA kc0 kc1 kc2 kc3 kc4 kc5 kc6 kc7 kc8 kc9 kc10 kc11 kc12 kc13 kc14 kc15 kc16 kc17 kc18 kc19 kc20 kc21 kc22 kc23 kc24 kc25 kc26 kc27 kc28 kc29 kc30 kc31 kc32 kc33 kc34 kc35 kc36 kc37 kc38 kc39 kz kt kn3 kn4 kn18 kn21 kn23 kn24 kn25 kn26 kn27 kn29 kn30 kr0_0 kr0_1 kr0_2 kr0_3 kr0_4 kr0_5 kr0_7 kr0_8 kr0_9 kr0_10 kr1_0 kr2_0 kr5_0 kr5_1 kr6_0 kr6_1 kr7_0 kr7_1 kr8_0 kr9_0 kr10_0 kr11_0 kr12_0 kr13_0 kr14_0 kr15_0 kr16_0 kr17_0 kr19_0 kr19_1 kr22_0 kr22_1 kr22_2 kr22_3 kr22_4 kr22_5 kr22_7 kr22_8 kr25_0 kr25_1 kr25_2 kr26_0 kr26_1 kr26_2 kr29_0 kr29_1)
  (refine Cn_el vcn0 ?_; intros ki5_2 ki6_2 ki7_2 ki8_1 ki8_2 ki8_3 ki9_1 ki9_2 ki9_3 ki10_1 ki10_2 ki10_3 ki11_1 ki11_2 ki11_3 ki12_1 ki12_2 ki12_3 ki13_1 ki13_2 ki13_3 ki14_1 ki14_2 ki14_3 ki28_0 ki28_1 ki31_0 ki31_1 ki32_0 ki32_1 ki33_0 ki33_1 ki34_0 ki34_1 ki35_0 ki35_1 ki36_0 ki36_1)
  have hAe : ∀ i j, i < 40 → j < 40 → (A i = A j ↔ i = j) := hA
  have hta : ∀ i, i < 40 → (A i = g_t h) = False := fun i hi => eq_false (fun z => by have := kt i hi; omega)
  have hta2 : ∀ i, i < 40 → (g_t h = A i) = False := fun i hi => eq_false (fun z => by have := kt i hi; omega)
  have hzt : g_z h ≤ g_t h := Nat.le_trans (kz 0 (by decide)) (Nat.le_of_lt (kt 0 (by decide)))
  by_cases bx0 : x < 0 <;> by_cases bx9 : 6 < x
  · exact absurd (Int32.lt_trans bx9 bx0) (by decide)
  · by_cases bq : q < 0 ∨ ¬ q < 3
    · have bq2 : (¬ q < 0 ∧ q < 3) = False := nrng bq
      simp only [↓ar_ite, ↓ar_ite2, ↓reduceIte, o309_0, o309_1, o309_2, o309_3, o309_4, o309_14, o309_16, o309_17, o79_0, o79_1, o79_2, o203_0, o203_1, o203_2, o203_5, o203_8, o203_9, o203_13, o203_14, o203_23, o203_24, o203_28, o203_31, o203_34, o203_35, hx_309_1, c_X8_isThrown_, c_X8_isQueue, c_queueOf_bad, mc_pT, mi_pi, ml_pi, ml_pT, mz_pT, mcs_0, mcs_r, Kn_v, Kn_x, true_and, and_true, false_implies, forall_const, and_self, Nat.reduceLeDiff, Nat.reduceSub, Nat.reduceAdd, Nat.zero_le, Nat.le_refl, i10, Sum.inl.injEq, Option.some.injEq, Value.int.injEq, exists_eq_left', Nat.reduceLT, kc0, kc22, kz, bq, bq2, bx0]
      (try simp only [ite_ar, implies_true, true_and, and_true, Classical.not_not])
      intro t ht
      first | refine ⟨⟨?_, ?_, ?_, ?_, ?_, ?_, ?_, ?_, ?_, ?_, ?_, ?_⟩, rfl⟩ | refine ⟨?_, ?_, ?_, ?_, ?_, ?_, ?_, ?_, ?_, ?_, ?_, ?_⟩
      · (try simp only [K_pi])
        exact K_pT ht vk
      · (try simp only [Cn_pi_j22 hA, Cn_pT])
        exact vcn
      · (try simp only [Vq0_pi_j22 hA, Vq0_pT])
        exact v0
      · (try simp only [Vq1_pi_j22 hA, Vq1_pT])
        exact v1
      · (try simp only [Vq2_pi_j22 hA, Vq2_pT])
        exact v2
      · (try simp only [Vp_thr hA, Vp_pT])
        exact vp
      · (try simp only [Vl0_pi_j22 hA, Vl0_pT])
        exact vl0
      · (try simp only [Vl1_pi_j22 hA, Vl1_pT])
        exact vl1
      · (try simp only [Vlr_pi_j22 hA, Vlr_pT])
        exact vlr
      · (try simp only [Vsr_pi_j22 hA, Vsr_pT])
        exact vsr
      · (try simp only [Vc_pi_j22 hA, Vc_pT])
        exact vc
      · (try simp only [Tx_pi_j22 hA])
        exact Tx_pT ht tx
    · have y1 : ¬ q < 0 := fun z => bq (Or.inl z)
      have y2 : q < 3 := Classical.byContradiction fun z => bq (Or.inr z)
      have bq2 : (¬ q < 0 ∧ q < 3) = True := eq_true ⟨y1, y2⟩
      rcases q_cases y1 y2 with rfl | rfl | rfl
      · skip
        simp only [↓ar_ite, ↓ar_ite2, ↓reduceIte, o309_0, o309_1, o309_2, o309_3, o309_4, o309_18, o309_20, o309_21, o79_0, o79_1, o79_2, o79_5, o79_6, o79_7, o79_9, o203_0, o203_1, o203_2, o203_5, o203_12, o203_13, o203_14, o203_23, o203_24, o203_28, o203_31, o203_34, o203_35, hx_309_2, c_X8_isThrown_, c_X8_isQueue, c_X5_checkChoice, c_queueOf_0, mc_pT, mi_pi, ml_pi, ml_pT, mz_pT, mcs_0, mcs_r, Kn_v, Kn_x, true_and, and_true, and_false, or_false, not_false_eq_true, false_implies, forall_const, and_self, Nat.reduceLeDiff, Nat.reduceSub, Nat.reduceAdd, Nat.zero_le, Nat.le_refl, i10, Int32.reduceLT, Sum.inl.injEq, Option.some.injEq, Value.int.injEq, exists_eq_left', Nat.reduceLT, i20, kc0, kc22, kr0_2, kz, bx0, bx9]
        (try simp only [ite_ar, implies_true, true_and, and_true, Classical.not_not])
        intro t ht
        first | refine ⟨⟨?_, ?_, ?_, ?_, ?_, ?_, ?_, ?_, ?_, ?_, ?_, ?_⟩, rfl⟩ | refine ⟨?_, ?_, ?_, ?_, ?_, ?_, ?_, ?_, ?_, ?_, ?_, ?_⟩
        · (try simp only [K_pi])
          exact K_pT ht vk
        · (try simp only [Cn_pi_j22 hA, Cn_pT])
          exact vcn
        · (try simp only [Vq0_pi_j22 hA, Vq0_pT])
          exact v0
        · (try simp only [Vq1_pi_j22 hA, Vq1_pT])
          exact v1
        · (try simp only [Vq2_pi_j22 hA, Vq2_pT])
          exact v2
        · (try simp only [Vp_thr hA, Vp_pT])
          exact vp
        · (try simp only [Vl0_pi_j22 hA, Vl0_pT])
          exact vl0
        · (try simp only [Vl1_pi_j22 hA, Vl1_pT])
          exact vl1
        · (try simp only [Vlr_pi_j22 hA, Vlr_pT])
          exact vlr
        · (try simp only [Vsr_pi_j22 hA, Vsr_pT])
          exact vsr
        · (try simp only [Vc_pi_j22 hA, Vc_pT])
          exact vc
        · (try simp only [Tx_pi_j22 hA])
          exact Tx_pT ht tx
      · skip
        simp only [↓ar_ite, ↓ar_ite2, ↓reduceIte, o309_0, o309_1, o309_2, o309_3, o309_4, o309_18, o309_20, o309_21, o79_0, o79_1, o79_2, o79_5, o79_6, o79_7, o79_9, o203_0, o203_1, o203_2, o203_5, o203_12, o203_13, o203_14, o203_23, o203_24, o203_28, o203_31, o203_34, o203_35, hx_309_2, c_X8_isThrown_, c_X8_isQueue, c_X5_checkChoice, c_queueOf_1, mc_pT, mi_pi, ml_pi, ml_pT, mz_pT, mcs_0, mcs_r, Kn_v, Kn_x, true_and, and_true, and_false, or_false, not_false_eq_true, false_implies, forall_const, and_self, Nat.reduceLeDiff, Nat.reduceSub, Nat.reduceAdd, Nat.zero_le, Nat.le_refl, i10, Int32.reduceLT, Sum.inl.injEq, Option.some.injEq, Value.int.injEq, exists_eq_left', Nat.reduceLT, i20, kc0, kc22, kr0_3, kz, bx0, bx9]
        (try simp only [ite_ar, implies_true, true_and, and_true, Classical.not_not])
        intro t ht
        first | refine ⟨⟨?_, ?_, ?_, ?_, ?_, ?_, ?_, ?_, ?_, ?_, ?_, ?_⟩, rfl⟩ | refine ⟨?_, ?_, ?_, ?_, ?_, ?_, ?_, ?_, ?_, ?_, ?_, ?_⟩
        · (try simp only [K_pi])
          exact K_pT ht vk
        · (try simp only [Cn_pi_j22 hA, Cn_pT])
          exact vcn
        · (try simp only [Vq0_pi_j22 hA, Vq0_pT])
          exact v0
        · (try simp only [Vq1_pi_j22 hA, Vq1_pT])
          exact v1
        · (try simp only [Vq2_pi_j22 hA, Vq2_pT])
          exact v2
        · (try simp only [Vp_thr hA, Vp_pT])
          exact vp
        · (try simp only [Vl0_pi_j22 hA, Vl0_pT])
          exact vl0
        · (try simp only [Vl1_pi_j22 hA, Vl1_pT])
          exact vl1
        · (try simp only [Vlr_pi_j22 hA, Vlr_pT])
          exact vlr
        · (try simp only [Vsr_pi_j22 hA, Vsr_pT])
          exact vsr
        · (try simp only [Vc_pi_j22 hA, Vc_pT])
          exact vc
        · (try simp only [Tx_pi_j22 hA])
          exact Tx_pT ht tx
      · skip
        simp only [↓ar_ite, ↓ar_ite2, ↓reduceIte, o309_0, o309_1, o309_2, o309_3, o309_4, o309_18, o309_20, o309_21, o79_0, o79_1, o79_2, o79_5, o79_6, o79_7, o79_9, o203_0, o203_1, o203_2, o203_5, o203_12, o203_13, o203_14, o203_23, o203_24, o203_28, o203_31, o203_34, o203_35, hx_309_2, c_X8_isThrown_, c_X8_isQueue, c_X5_checkChoice, c_queueOf_2, mc_pT, mi_pi, ml_pi, ml_pT, mz_pT, mcs_0, mcs_r, Kn_v, Kn_x, true_and, and_true, and_false, or_false, not_false_eq_true, false_implies, forall_const, and_self, Nat.reduceLeDiff, Nat.reduceSub, Nat.reduceAdd, Nat.zero_le, Nat.le_refl, i10, Int32.reduceLT, Sum.inl.injEq, Option.some.injEq, Value.int.injEq, exists_eq_left', Nat.reduceLT, i20, kc0, kc22, kr0_4, kz, bx0, bx9]
        (try simp only [ite_ar, implies_true, true_and, and_true, Classical.not_not])
        intro t ht
        first | refine ⟨⟨?_, ?_, ?_, ?_, ?_, ?_, ?_, ?_, ?_, ?_, ?_, ?_⟩, rfl⟩ | refine ⟨?_, ?_, ?_, ?_, ?_, ?_, ?_, ?_, ?_, ?_, ?_, ?_⟩
        · (try simp only [K_pi])
          exact K_pT ht vk
        · (try simp only [Cn_pi_j22 hA, Cn_pT])
          exact vcn
        · (try simp only [Vq0_pi_j22 hA, Vq0_pT])
          exact v0
        · (try simp only [Vq1_pi_j22 hA, Vq1_pT])
          exact v1
        · (try simp only [Vq2_pi_j22 hA, Vq2_pT])
          exact v2
        · (try simp only [Vp_thr hA, Vp_pT])
          exact vp
        · (try simp only [Vl0_pi_j22 hA, Vl0_pT])
          exact vl0
        · (try simp only [Vl1_pi_j22 hA, Vl1_pT])
          exact vl1
        · (try simp only [Vlr_pi_j22 hA, Vlr_pT])
          exact vlr
        · (try simp only [Vsr_pi_j22 hA, Vsr_pT])
          exact vsr
        · (try simp only [Vc_pi_j22 hA, Vc_pT])
          exact vc
        · (try simp only [Tx_pi_j22 hA])
          exact Tx_pT ht tx
  · by_cases bq : q < 0 ∨ ¬ q < 3
    · have bq2 : (¬ q < 0 ∧ q < 3) = False := nrng bq
      simp only [↓ar_ite, ↓ar_ite2, ↓reduceIte, o309_0, o309_1, o309_2, o309_3, o309_4, o309_14, o309_16, o309_17, o79_0, o79_1, o79_2, o203_0, o203_1, o203_2, o203_5, o203_8, o203_9, o203_13, o203_14, o203_17, o203_18, o203_20, o203_23, o203_24, o203_28, o203_31, o203_34, o203_35, hx_309_1, c_X8_isThrown_, c_X8_isQueue, c_queueOf_bad, mc_pT, mi_pi, ml_pi, ml_pT, mz_pT, mcs_0, mcs_r, Kn_v, Kn_x, true_and, and_true, not_true_eq_false, false_implies, forall_const, and_self, Nat.reduceLeDiff, Nat.reduceSub, Nat.reduceAdd, Nat.zero_le, Nat.le_refl, i10, lt_le, Sum.inl.injEq, Option.some.injEq, Value.int.injEq, exists_eq_left', Nat.reduceLT, kc0, kc22, kz, bq, bq2, bx0, bx9]
      (try simp only [ite_ar, implies_true, true_and, and_true, Classical.not_not])
      intro t ht
      first | refine ⟨⟨?_, ?_, ?_, ?_, ?_, ?_, ?_, ?_, ?_, ?_, ?_, ?_⟩, rfl⟩ | refine ⟨?_, ?_, ?_, ?_, ?_, ?_, ?_, ?_, ?_, ?_, ?_, ?_⟩
      · (try simp only [K_pi])
        exact K_pT ht vk
      · (try simp only [Cn_pi_j22 hA, Cn_pT])
        exact vcn
      · (try simp only [Vq0_pi_j22 hA, Vq0_pT])
        exact v0
      · (try simp only [Vq1_pi_j22 hA, Vq1_pT])
        exact v1
      · (try simp only [Vq2_pi_j22 hA, Vq2_pT])
        exact v2
      · (try simp only [Vp_thr hA, Vp_pT])
        exact vp
      · (try simp only [Vl0_pi_j22 hA, Vl0_pT])
        exact vl0
      · (try simp only [Vl1_pi_j22 hA, Vl1_pT])
        exact vl1
      · (try simp only [Vlr_pi_j22 hA, Vlr_pT])
        exact vlr
      · (try simp only [Vsr_pi_j22 hA, Vsr_pT])
        exact vsr
      · (try simp only [Vc_pi_j22 hA, Vc_pT])
        exact vc
      · (try simp only [Tx_pi_j22 hA])
        exact Tx_pT ht tx
    · have y1 : ¬ q < 0 := fun z => bq (Or.inl z)
      have y2 : q < 3 := Classical.byContradiction fun z => bq (Or.inr z)
      have bq2 : (¬ q < 0 ∧ q < 3) = True := eq_true ⟨y1, y2⟩
      rcases q_cases y1 y2 with rfl | rfl | rfl
      · skip
        simp only [↓ar_ite, ↓ar_ite2, ↓reduceIte, o309_0, o309_1, o309_2, o309_3, o309_4, o309_18, o309_20, o309_21, o79_0, o79_1, o79_2, o79_5, o79_6, o79_7, o79_9, o203_0, o203_1, o203_2, o203_5, o203_12, o203_13, o203_14, o203_17, o203_18, o203_20, o203_23, o203_24, o203_28, o203_31, o203_34, o203_35, hx_309_2, c_X8_isThrown_, c_X8_isQueue, c_X5_checkChoice, c_queueOf_0, mc_pT, mi_pi, ml_pi, ml_pT, mz_pT, mcs_0, mcs_r, Kn_v, Kn_x, true_and, and_true, and_false, or_true, not_true_eq_false, not_false_eq_true, false_implies, forall_const, and_self, Nat.reduceLeDiff, Nat.reduceSub, Nat.reduceAdd, Nat.zero_le, Nat.le_refl, i10, lt_le, Int32.reduceLT, Sum.inl.injEq, Option.some.injEq, Value.int.injEq, exists_eq_left', Nat.reduceLT, i20, kc0, kc22, kr0_2, kz, bx0, bx9]
        (try simp only [ite_ar, implies_true, true_and, and_true, Classical.not_not])
        intro t ht
        first | refine ⟨⟨?_, ?_, ?_, ?_, ?_, ?_, ?_, ?_, ?_, ?_, ?_, ?_⟩, rfl⟩ | refine ⟨?_, ?_, ?_, ?_, ?_, ?_, ?_, ?_, ?_, ?_, ?_, ?_⟩
        · (try simp only [K_pi])
          exact K_pT ht vk
        · (try simp only [Cn_pi_j22 hA, Cn_pT])
          exact vcn
        · (try simp only [Vq0_pi_j22 hA, Vq0_pT])
          exact v0
        · (try simp only [Vq1_pi_j22 hA, Vq1_pT])
          exact v1
        · (try simp only [Vq2_pi_j22 hA, Vq2_pT])
          exact v2
        · (try simp only [Vp_thr hA, Vp_pT])
          exact vp
        · (try simp only [Vl0_pi_j22 hA, Vl0_pT])
          exact vl0
        · (try simp only [Vl1_pi_j22 hA, Vl1_pT])
          exact vl1
        · (try simp only [Vlr_pi_j22 hA, Vlr_pT])
          exact vlr
        · (try simp only [Vsr_pi_j22 hA, Vsr_pT])
          exact vsr
        · (try simp only [Vc_pi_j22 hA, Vc_pT])
          exact vc
        · (try simp only [Tx_pi_j22 hA])
          exact Tx_pT ht tx
      · skip
        simp only [↓ar_ite, ↓ar_ite2, ↓reduceIte, o309_0, o309_1, o309_2, o309_3, o309_4, o309_18, o309_20, o309_21, o79_0, o79_1, o79_2, o79_5, o79_6, o79_7, o79_9, o203_0, o203_1, o203_2, o203_5, o203_12, o203_13, o203_14, o203_17, o203_18, o203_20, o203_23, o203_24, o203_28, o203_31, o203_34, o203_35, hx_309_2, c_X8_isThrown_, c_X8_isQueue, c_X5_checkChoice, c_queueOf_1, mc_pT, mi_pi, ml_pi, ml_pT, mz_pT, mcs_0, mcs_r, Kn_v, Kn_x, true_and, and_true, and_false, or_true, not_true_eq_false, not_false_eq_true, false_implies, forall_const, and_self, Nat.reduceLeDiff, Nat.reduceSub, Nat.reduceAdd, Nat.zero_le, Nat.le_refl, i10, lt_le, Int32.reduceLT, Sum.inl.injEq, Option.some.injEq, Value.int.injEq, exists_eq_left', Nat.reduceLT, i20, kc0, kc22, kr0_3, kz, bx0, bx9]
        (try simp only [ite_ar, implies_true, true_and, and_true, Classical.not_not])
        intro t ht
        first | refine ⟨⟨?_, ?_, ?_, ?_, ?_, ?_, ?_, ?_, ?_, ?_, ?_, ?_⟩, rfl⟩ | refine ⟨?_, ?_, ?_, ?_, ?_, ?_, ?_, ?_, ?_, ?_, ?_, ?_⟩
        · (try simp only [K_pi])
          exact K_pT ht vk
        · (try simp only [Cn_pi_j22 hA, Cn_pT])
          exact vcn
        · (try simp only [Vq0_pi_j22 hA, Vq0_pT])
          exact v0
        · (try simp only [Vq1_pi_j22 hA, Vq1_pT])
          exact v1
        · (try simp only [Vq2_pi_j22 hA, Vq2_pT])
          exact v2
        · (try simp only [Vp_thr hA, Vp_pT])
          exact vp
        · (try simp only [Vl0_pi_j22 hA, Vl0_pT])
          exact vl0
        · (try simp only [Vl1_pi_j22 hA, Vl1_pT])
          exact vl1
        · (try simp only [Vlr_pi_j22 hA, Vlr_pT])
          exact vlr
        · (try simp only [Vsr_pi_j22 hA, Vsr_pT])
          exact vsr
        · (try simp only [Vc_pi_j22 hA, Vc_pT])
          exact vc
        · (try simp only [Tx_pi_j22 hA])
          exact Tx_pT ht tx
      · skip
        simp only [↓ar_ite, ↓ar_ite2, ↓reduceIte, o309_0, o309_1, o309_2, o309_3, o309_4, o309_18, o309_20, o309_21, o79_0, o79_1, o79_2, o79_5, o79_6, o79_7, o79_9, o203_0, o203_1, o203_2, o203_5, o203_12, o203_13, o203_14, o203_17, o203_18, o203_20, o203_23, o203_24, o203_28, o203_31, o203_34, o203_35, hx_309_2, c_X8_isThrown_, c_X8_isQueue, c_X5_checkChoice, c_queueOf_2, mc_pT, mi_pi, ml_pi, ml_pT, mz_pT, mcs_0, mcs_r, Kn_v, Kn_x, true_and, and_true, and_false, or_true, not_true_eq_false, not_false_eq_true, false_implies, forall_const, and_self, Nat.reduceLeDiff, Nat.reduceSub, Nat.reduceAdd, Nat.zero_le, Nat.le_refl, i10, lt_le, Int32.reduceLT, Sum.inl.injEq, Option.some.injEq, Value.int.injEq, exists_eq_left', Nat.reduceLT, i20, kc0, kc22, kr0_4, kz, bx0, bx9]
        (try simp only [ite_ar, implies_true, true_and, and_true, Classical.not_not])
        intro t ht
        first | refine ⟨⟨?_, ?_, ?_, ?_, ?_, ?_, ?_, ?_, ?_, ?_, ?_, ?_⟩, rfl⟩ | refine ⟨?_, ?_, ?_, ?_, ?_, ?_, ?_, ?_, ?_, ?_, ?_, ?_⟩
        · (try simp only [K_pi])
          exact K_pT ht vk
        · (try simp only [Cn_pi_j22 hA, Cn_pT])
          exact vcn
        · (try simp only [Vq0_pi_j22 hA, Vq0_pT])
          exact v0
        · (try simp only [Vq1_pi_j22 hA, Vq1_pT])
          exact v1
        · (try simp only [Vq2_pi_j22 hA, Vq2_pT])
          exact v2
        · (try simp only [Vp_thr hA, Vp_pT])
          exact vp
        · (try simp only [Vl0_pi_j22 hA, Vl0_pT])
          exact vl0
        · (try simp only [Vl1_pi_j22 hA, Vl1_pT])
          exact vl1
        · (try simp only [Vlr_pi_j22 hA, Vlr_pT])
          exact vlr
        · (try simp only [Vsr_pi_j22 hA, Vsr_pT])
          exact vsr
        · (try simp only [Vc_pi_j22 hA, Vc_pT])
          exact vc
        · (try simp only [Tx_pi_j22 hA])
          exact Tx_pT ht tx
  · by_cases bq : q < 0 ∨ ¬ q < 3
    · have bq2 : (¬ q < 0 ∧ q < 3) = False := nrng bq
      simp only [↓ar_ite, ↓ar_ite2, ↓reduceIte, o309_0, o309_1, o309_2, o309_3, o309_4, o309_14, o309_16, o309_17, o79_0, o79_1, o79_2, o203_0, o203_1, o203_2, o203_5, o203_8, o203_9, o203_13, o203_14, o203_17, o203_18, o203_20, o203_27, o203_28, o203_31, o203_34, o203_35, hx_309_1, c_X8_isThrown_, c_X8_isQueue, c_queueOf_bad, mc_pT, mi_pi, ml_pi, ml_pT, mz_pT, mcs_0, mcs_r, Kn_v, Kn_x, true_and, and_true, not_false_eq_true, false_implies, forall_const, and_self, Nat.reduceLeDiff, Nat.reduceSub, Nat.reduceAdd, Nat.zero_le, Nat.le_refl, i10, lt_le, Sum.inl.injEq, Option.some.injEq, Value.int.injEq, exists_eq_left', Nat.reduceLT, kc0, kc22, kz, bq, bq2, bx0, bx9]
      (try simp only [ite_ar, implies_true, true_and, and_true, Classical.not_not])
      intro t ht
      first | refine ⟨⟨?_, ?_, ?_, ?_, ?_, ?_, ?_, ?_, ?_, ?_, ?_, ?_⟩, rfl⟩ | refine ⟨?_, ?_, ?_, ?_, ?_, ?_, ?_, ?_, ?_, ?_, ?_, ?_⟩
      · (try simp only [K_pi])
        exact K_pT ht vk
      · (try simp only [Cn_pi_j22 hA, Cn_pT])
        exact vcn
      · (try simp only [Vq0_pi_j22 hA, Vq0_pT])
        exact v0
      · (try simp only [Vq1_pi_j22 hA, Vq1_pT])
        exact v1
      · (try simp only [Vq2_pi_j22 hA, Vq2_pT])
        exact v2
      · (try simp only [Vp_thr hA, Vp_pT])
        exact vp
      · (try simp only [Vl0_pi_j22 hA, Vl0_pT])
        exact vl0
      · (try simp only [Vl1_pi_j22 hA, Vl1_pT])
        exact vl1
      · (try simp only [Vlr_pi_j22 hA, Vlr_pT])
        exact vlr
      · (try simp only [Vsr_pi_j22 hA, Vsr_pT])
        exact vsr
      · (try simp only [Vc_pi_j22 hA, Vc_pT])
        exact vc
      · (try simp only [Tx_pi_j22 hA])
        exact Tx_pT ht tx
    · have y1 : ¬ q < 0 := fun z => bq (Or.inl z)
      have y2 : q < 3 := Classical.byContradiction fun z => bq (Or.inr z)
      have bq2 : (¬ q < 0 ∧ q < 3) = True := eq_true ⟨y1, y2⟩
      rcases q_cases y1 y2 with rfl | rfl | rfl
      · have he := v0.1
        have hm := v0.2
        have hT : mT h (A 27) 0 (A 31) (A 34) = cT h (A 5) (A 8) (A 9) := he.symm
        have he2 := he
        simp only [cT, mT, Prod.mk.injEq] at he2
        obtain ⟨g1, g2, g3, g4, g5, g6, g7⟩ := he2
        replace g1 := g1.symm
        replace g2 := g2.symm
        replace g3 := g3.symm
        replace g4 := g4.symm
        replace g5 := g5.symm
        replace g6 := g6.symm
        replace g7 := g7.symm
        obtain ⟨hmk, har, hl0, hl9⟩ := qA_0 _ hm
        have hark : arok 0 (g_i h (A 5) 3) := fun z => absurd (by decide) z
        have n1 : ¬ A 8 = A 9 := fun z => absurd ((hAe 8 9 (by decide) (by decide)).mp z) (by decide)
        rcases x_cases bx0 (x_le bx9 (by decide)) with rfl | rfl | rfl | rfl | rfl | rfl | rfl | rfl | rfl
        · skip
          simp only [↓ar_ite, ↓ar_ite2, ↓ar_ok, ↓reduceIte, o309_0, o309_1, o309_2, o309_3, o309_4, o309_7, o309_8, o309_11, o309_22, o309_23, o79_0, o79_1, o79_2, o79_5, o79_6, o79_7, o79_9, o79_12, o79_13, o79_52, o79_53, o79_56, o79_59, o203_0, o203_1, o203_2, o203_5, o203_12, o203_13, o203_14, o203_17, o203_18, o203_20, o203_27, o203_28, o203_31, o203_36, o203_38, o203_40, o203_41, o203_42, o203_43, o203_46, o203_47, o203_48, o203_51, o203_52, o203_53, o203_54, o203_55, o203_58, o203_59, o203_60, o203_63, o203_64, o203_65, o203_66, o203_67, o203_70, o203_71, o203_72, o203_75, o203_76, o203_77, o203_78, o203_79, o203_82, o203_83, o203_84, o203_87, o203_88, o203_89, o203_90, o203_91, o203_94, o203_95, o203_96, o203_99, o203_100, o203_101, o203_102, o203_103, o203_106, o203_107, o203_108, o203_111, o203_112, o203_113, o203_115, o203_116, o203_119, o203_120, o203_121, o203_124, o203_125, o203_126, o203_127, o203_128, o203_129, c_X8_isThrown_, c_X8_isQueue, c_X5_checkChoice, c_queueOf_0, mc_pi, mc_pl, mc_pN, mn_pi, mn_pl, mn_pN, mi_pi, mi_pl, mi_pN, ml_pi, ml_pl, ml_pN, mr_pi, mr_pl, mr_pN, mt_pi, mt_pl, mz_pi, mz_pl, mz_pN, mcs_0, mcs_r, Kn_v, Kn_0, mrf_some, true_and, and_true, and_false, not_false_eq_true, implies_true, and_self, Nat.reduceEqDiff, Nat.reduceLeDiff, Nat.reduceSub, Nat.reduceAdd, Nat.zero_le, Nat.le_refl, i10, i01, lt_le, Int32.reduceLT, cl0, cl1, cl2, cl3, cl4, cl5, cl6, cl7, Kc_v, Sum.inl.injEq, Option.some.injEq, Value.int.injEq, exists_eq_left', Nat.reduceLT, hAe, kc0, kc5, kc8, kc22, kc25, kc26, kc31, kc34, kc39, kn25, kn26, kr0_2, kr5_0, kr22_2, kr22_3, kr25_0, kr26_0, kz, ki34_0, ki34_1, vq3, g1, g2, g4, g5, g6, Int32.reduceLT, cl0, cl1, cl2, hta, hzt, lne, lti, vpk, Int.reduceLT, or_self]
          (try simp only [ite_ar, implies_true, true_and, and_true, Classical.not_not])
          first | refine ⟨Rl_F7 ?_, rfl⟩ | refine Rl_F7 ?_ | refine ⟨Rl_Fr ?_ (show Fr (p_i (p_l h (A 39) 0 _) (A 22) 9 0) _ from (Fr_pi (Fr_pi (Fr_pi (Fr_pi (Fr_pi (Fr_pi (Fr_pi (Fr_pN Fr_rfl) (Nat.le_refl _)) (Nat.le_refl _)) (Nat.le_refl _)) (Nat.le_refl _)) (Nat.le_refl _)) (Nat.le_refl _)) (Nat.le_refl _))), rfl⟩ | refine Rl_Fr ?_ (show Fr (p_i (p_l h (A 39) 0 _) (A 22) 9 0) _ from (Fr_pi (Fr_pi (Fr_pi (Fr_pi (Fr_pi (Fr_pi (Fr_pi (Fr_pN Fr_rfl) (Nat.le_refl _)) (Nat.le_refl _)) (Nat.le_refl _)) (Nat.le_refl _)) (Nat.le_refl _)) (Nat.le_refl _)) (Nat.le_refl _)))
          first | refine ⟨⟨?_, ?_, ?_, ?_, ?_, ?_, ?_, ?_, ?_, ?_, ?_, ?_⟩, rfl⟩ | refine ⟨?_, ?_, ?_, ?_, ?_, ?_, ?_, ?_, ?_, ?_, ?_, ?_⟩
          · (try simp only [K_pi, K_pl])
            exact vk
          · (try simp only [Cn_pi_j22 hA, Cn_pl])
            exact vcn
          · (try simp only [Vq0_pi_j22 hA, Vq0_pl])
            exact v0
          · (try simp only [Vq1_pi_j22 hA, Vq1_pl])
            exact v1
          · (try simp only [Vq2_pi_j22 hA, Vq2_pl])
            exact v2
          · (try simp only [Vp_thr hA, Vp_pl])
            exact vp
          · (try simp only [Vl0_pi_j22 hA, Vl0_pl])
            exact vl0
          · (try simp only [Vl1_pi_j22 hA, Vl1_pl])
            exact vl1
          · (try simp only [Vlr_pi_j22 hA, Vlr_pl_j39 hA])
            exact vlr
          · (try simp only [Vsr_pi_j22 hA, Vsr_pl_j39 hA])
            exact vsr
          · (try simp only [Vc_pi_j22 hA, Vc_pl])
            exact vc
          · (try simp only [Tx_pi_j22 hA, Tx_pl])
            exact tx
        · skip
          simp only [↓ar_ite, ↓ar_ite2, ↓ar_ok, ↓reduceIte, o309_0, o309_1, o309_2, o309_3, o309_4, o309_7, o309_8, o309_11, o309_22, o309_23, o79_0, o79_1, o79_2, o79_5, o79_6, o79_7, o79_9, o79_12, o79_13, o79_60, o79_61, o79_64, o79_67, o203_0, o203_1, o203_2, o203_5, o203_12, o203_13, o203_14, o203_17, o203_18, o203_20, o203_27, o203_28, o203_31, o203_36, o203_38, o203_40, o203_41, o203_42, o203_43, o203_46, o203_47, o203_48, o203_51, o203_52, o203_53, o203_54, o203_55, o203_58, o203_59, o203_60, o203_63, o203_64, o203_65, o203_66, o203_67, o203_70, o203_71, o203_72, o203_75, o203_76, o203_77, o203_78, o203_79, o203_82, o203_83, o203_84, o203_87, o203_88, o203_89, o203_90, o203_91, o203_94, o203_95, o203_96, o203_99, o203_100, o203_101, o203_102, o203_103, o203_106, o203_107, o203_108, o203_111, o203_112, o203_113, o203_115, o203_116, o203_119, o203_120, o203_121, o203_124, o203_125, o203_126, o203_127, o203_128, o203_129, c_X8_isThrown_, c_X8_isQueue, c_X5_checkChoice, c_queueOf_0, mc_pi, mc_pl, mc_pN, mn_pi, mn_pl, mn_pN, mi_pi, mi_pl, mi_pN, ml_pi, ml_pl, ml_pN, mr_pi, mr_pl, mr_pN, mt_pi, mt_pl, mz_pi, mz_pl, mz_pN, mcs_0, mcs_r, Kn_v, Kn_0, mrf_some, true_and, and_true, and_false, not_false_eq_true, implies_true, and_self, Nat.reduceEqDiff, Nat.reduceLeDiff, Nat.reduceSub, Nat.reduceAdd, Nat.zero_le, Nat.le_refl, i10, lt_le, Int32.reduceLT, cl0, cl1, cl2, cl3, cl4, cl5, cl6, cl7, Kc_v, Sum.inl.injEq, Option.some.injEq, Value.int.injEq, exists_eq_left', Nat.reduceLT, hAe, kc0, kc5, kc8, kc22, kc25, kc26, kc31, kc34, kc39, kn25, kn26, kr0_2, kr5_0, kr22_2, kr22_3, kr25_0, kr26_0, kz, ki34_0, ki34_1, vq3, g1, g2, g4, g5, g6, Int32.reduceLT, cl0, cl1, cl2, hta, hzt, lne, lti, vpk, Int.reduceLT, or_self]
          (try simp only [ite_ar, implies_true, true_and, and_true, Classical.not_not])
          first | refine ⟨Rl_F7 ?_, rfl⟩ | refine Rl_F7 ?_ | refine ⟨Rl_Fr ?_ (show Fr (p_i (p_l h (A 39) 0 _) (A 22) 9 0) _ from (Fr_pi (Fr_pi (Fr_pi (Fr_pi (Fr_pi (Fr_pi (Fr_pi (Fr_pN Fr_rfl) (Nat.le_refl _)) (Nat.le_refl _)) (Nat.le_refl _)) (Nat.le_refl _)) (Nat.le_refl _)) (Nat.le_refl _)) (Nat.le_refl _))), rfl⟩ | refine Rl_Fr ?_ (show Fr (p_i (p_l h (A 39) 0 _) (A 22) 9 0) _ from (Fr_pi (Fr_pi (Fr_pi (Fr_pi (Fr_pi (Fr_pi (Fr_pi (Fr_pN Fr_rfl) (Nat.le_refl _)) (Nat.le_refl _)) (Nat.le_refl _)) (Nat.le_refl _)) (Nat.le_refl _)) (Nat.le_refl _)) (Nat.le_refl _)))
          first | refine ⟨⟨?_, ?_, ?_, ?_, ?_, ?_, ?_, ?_, ?_, ?_, ?_, ?_⟩, rfl⟩ | refine ⟨?_, ?_, ?_, ?_, ?_, ?_, ?_, ?_, ?_, ?_, ?_, ?_⟩
          · (try simp only [K_pi, K_pl])
            exact vk
          · (try simp only [Cn_pi_j22 hA, Cn_pl])
            exact vcn
          · (try simp only [Vq0_pi_j22 hA, Vq0_pl])
            exact v0
          · (try simp only [Vq1_pi_j22 hA, Vq1_pl])
            exact v1
          · (try simp only [Vq2_pi_j22 hA, Vq2_pl])
            exact v2
          · (try simp only [Vp_thr hA, Vp_pl])
            exact vp
          · (try simp only [Vl0_pi_j22 hA, Vl0_pl])
            exact vl0
          · (try simp only [Vl1_pi_j22 hA, Vl1_pl])
            exact vl1
          · (try simp only [Vlr_pi_j22 hA, Vlr_pl_j39 hA])
            exact vlr
          · (try simp only [Vsr_pi_j22 hA, Vsr_pl_j39 hA])
            exact vsr
          · (try simp only [Vc_pi_j22 hA, Vc_pl])
            exact vc
          · (try simp only [Tx_pi_j22 hA, Tx_pl])
            exact tx
        · skip
          simp only [↓ar_ite, ↓ar_ite2, ↓ar_ok, ↓reduceIte, o309_0, o309_1, o309_2, o309_3, o309_4, o309_7, o309_8, o309_11, o309_22, o309_23, o79_0, o79_1, o79_2, o79_5, o79_6, o79_7, o79_9, o79_12, o79_13, o79_68, o79_69, o79_72, o79_75, o203_0, o203_1, o203_2, o203_5, o203_12, o203_13, o203_14, o203_17, o203_18, o203_20, o203_27, o203_28, o203_31, o203_36, o203_38, o203_40, o203_41, o203_42, o203_43, o203_46, o203_47, o203_48, o203_51, o203_52, o203_53, o203_54, o203_55, o203_58, o203_59, o203_60, o203_63, o203_64, o203_65, o203_66, o203_67, o203_70, o203_71, o203_72, o203_75, o203_76, o203_77, o203_78, o203_79, o203_82, o203_83, o203_84, o203_87, o203_88, o203_89, o203_90, o203_91, o203_94, o203_95, o203_96, o203_99, o203_100, o203_101, o203_102, o203_103, o203_106, o203_107, o203_108, o203_111, o203_112, o203_113, o203_115, o203_116, o203_119, o203_120, o203_121, o203_124, o203_125, o203_126, o203_127, o203_128, o203_129, c_X8_isThrown_, c_X8_isQueue, c_X5_checkChoice, c_queueOf_0, mc_pi, mc_pl, mc_pN, mn_pi, mn_pl, mn_pN, mi_pi, mi_pl, mi_pN, ml_pi, ml_pl, ml_pN, mr_pi, mr_pl, mr_pN, mt_pi, mt_pl, mz_pi, mz_pl, mz_pN, mcs_0, mcs_r, Kn_v, Kn_0, mrf_some, true_and, and_true, and_false, not_false_eq_true, implies_true, and_self, Nat.reduceEqDiff, Nat.reduceLeDiff, Nat.reduceSub, Nat.reduceAdd, Nat.zero_le, Nat.le_refl, i10, lt_le, Int32.reduceLT, cl0, cl1, cl2, cl3, cl4, cl5, cl6, cl7, Kc_v, Sum.inl.injEq, Option.some.injEq, Value.int.injEq, exists_eq_left', Nat.reduceLT, hAe, i20, kc0, kc5, kc9, kc22, kc25, kc26, kc31, kc34, kc39, kn25, kn26, kr0_2, kr5_1, kr22_2, kr22_3, kr25_0, kr26_0, kz, ki34_0, ki34_1, vq3, g1, g2, g4, g5, g6, Int32.reduceLT, cl0, cl1, cl2, hta, hzt, lne, lti, vpk, Int.reduceLT, or_self]
          (try simp only [ite_ar, implies_true, true_and, and_true, Classical.not_not])
          first | refine ⟨Rl_F7 ?_, rfl⟩ | refine Rl_F7 ?_ | refine ⟨Rl_Fr ?_ (show Fr (p_i (p_l h (A 39) 0 _) (A 22) 9 0) _ from (Fr_pi (Fr_pi (Fr_pi (Fr_pi (Fr_pi (Fr_pi (Fr_pi (Fr_pN Fr_rfl) (Nat.le_refl _)) (Nat.le_refl _)) (Nat.le_refl _)) (Nat.le_refl _)) (Nat.le_refl _)) (Nat.le_refl _)) (Nat.le_refl _))), rfl⟩ | refine Rl_Fr ?_ (show Fr (p_i (p_l h (A 39) 0 _) (A 22) 9 0) _ from (Fr_pi (Fr_pi (Fr_pi (Fr_pi (Fr_pi (Fr_pi (Fr_pi (Fr_pN Fr_rfl) (Nat.le_refl _)) (Nat.le_refl _)) (Nat.le_refl _)) (Nat.le_refl _)) (Nat.le_refl _)) (Nat.le_refl _)) (Nat.le_refl _)))
          first | refine ⟨⟨?_, ?_, ?_, ?_, ?_, ?_, ?_, ?_, ?_, ?_, ?_, ?_⟩, rfl⟩ | refine ⟨?_, ?_, ?_, ?_, ?_, ?_, ?_, ?_, ?_, ?_, ?_, ?_⟩
          · (try simp only [K_pi, K_pl])
            exact vk
          · (try simp only [Cn_pi_j22 hA, Cn_pl])
            exact vcn
          · (try simp only [Vq0_pi_j22 hA, Vq0_pl])
            exact v0
          · (try simp only [Vq1_pi_j22 hA, Vq1_pl])
            exact v1
          · (try simp only [Vq2_pi_j22 hA, Vq2_pl])
            exact v2
          · (try simp only [Vp_thr hA, Vp_pl])
            exact vp
          · (try simp only [Vl0_pi_j22 hA, Vl0_pl])
            exact vl0
          · (try simp only [Vl1_pi_j22 hA, Vl1_pl])
            exact vl1
          · (try simp only [Vlr_pi_j22 hA, Vlr_pl_j39 hA])
            exact vlr
          · (try simp only [Vsr_pi_j22 hA, Vsr_pl_j39 hA])
            exact vsr
          · (try simp only [Vc_pi_j22 hA, Vc_pl])
            exact vc
          · (try simp only [Tx_pi_j22 hA, Tx_pl])
            exact tx
        · skip
          simp only [↓ar_ite, ↓ar_ite2, ↓ar_ok, ↓reduceIte, o309_0, o309_1, o309_2, o309_3, o309_4, o309_7, o309_8, o309_11, o309_22, o309_23, o79_0, o79_1, o79_2, o79_5, o79_6, o79_7, o79_9, o79_12, o79_13, o79_76, o79_77, o79_80, o79_83, o203_0, o203_1, o203_2, o203_5, o203_12, o203_13, o203_14, o203_17, o203_18, o203_20, o203_27, o203_28, o203_31, o203_36, o203_38, o203_40, o203_41, o203_42, o203_43, o203_46, o203_47, o203_48, o203_51, o203_52, o203_53, o203_54, o203_55, o203_58, o203_59, o203_60, o203_63, o203_64, o203_65, o203_66, o203_67, o203_70, o203_71, o203_72, o203_75, o203_76, o203_77, o203_78, o203_79, o203_82, o203_83, o203_84, o203_87, o203_88, o203_89, o203_90, o203_91, o203_94, o203_95, o203_96, o203_99, o203_100, o203_101, o203_102, o203_103, o203_106, o203_107, o203_108, o203_111, o203_112, o203_113, o203_115, o203_116, o203_119, o203_120, o203_121, o203_124, o203_125, o203_126, o203_127, o203_128, o203_129, c_X8_isThrown_, c_X8_isQueue, c_X5_checkChoice, c_queueOf_0, mc_pi, mc_pl, mc_pN, mn_pi, mn_pl, mn_pN, mi_pi, mi_pl, mi_pN, ml_pi, ml_pl, ml_pN, mr_pi, mr_pl, mr_pN, mt_pi, mt_pl, mz_pi, mz_pl, mz_pN, mcs_0, mcs_r, Kn_v, Kn_0, mrf_some, true_and, and_true, and_false, not_false_eq_true, implies_true, and_self, Nat.reduceEqDiff, Nat.reduceLeDiff, Nat.reduceSub, Nat.reduceAdd, Nat.zero_le, Nat.le_refl, i10, lt_le, Int32.reduceLT, cl0, cl1, cl2, cl3, cl4, cl5, cl6, cl7, Kc_v, Sum.inl.injEq, Option.some.injEq, Value.int.injEq, exists_eq_left', Nat.reduceLT, hAe, i30, kc0, kc5, kc9, kc22, kc25, kc26, kc31, kc34, kc39, kn25, kn26, kr0_2, kr5_1, kr22_2, kr22_3, kr25_0, kr26_0, kz, ki34_0, ki34_1, vq3, g1, g2, g4, g5, g6, Int32.reduceLT, cl0, cl1, cl2, hta, hzt, lne, lti, vpk, Int.reduceLT, or_self]
          (try simp only [ite_ar, implies_true, true_and, and_true, Classical.not_not])
          first | refine ⟨Rl_F7 ?_, rfl⟩ | refine Rl_F7 ?_ | refine ⟨Rl_Fr ?_ (show Fr (p_i (p_l h (A 39) 0 _) (A 22) 9 0) _ from (Fr_pi (Fr_pi (Fr_pi (Fr_pi (Fr_pi (Fr_pi (Fr_pi (Fr_pN Fr_rfl) (Nat.le_refl _)) (Nat.le_refl _)) (Nat.le_refl _)) (Nat.le_refl _)) (Nat.le_refl _)) (Nat.le_refl _)) (Nat.le_refl _))), rfl⟩ | refine Rl_Fr ?_ (show Fr (p_i (p_l h (A 39) 0 _) (A 22) 9 0) _ from (Fr_pi (Fr_pi (Fr_pi (Fr_pi (Fr_pi (Fr_pi (Fr_pi (Fr_pN Fr_rfl) (Nat.le_refl _)) (Nat.le_refl _)) (Nat.le_refl _)) (Nat.le_refl _)) (Nat.le_refl _)) (Nat.le_refl _)) (Nat.le_refl _)))
          first | refine ⟨⟨?_, ?_, ?_, ?_, ?_, ?_, ?_, ?_, ?_, ?_, ?_, ?_⟩, rfl⟩ | refine ⟨?_, ?_, ?_, ?_, ?_, ?_, ?_, ?_, ?_, ?_, ?_, ?_⟩
          · (try simp only [K_pi, K_pl])
            exact vk
          · (try simp only [Cn_pi_j22 hA, Cn_pl])
            exact vcn
          · (try simp only [Vq0_pi_j22 hA, Vq0_pl])
            exact v0
          · (try simp only [Vq1_pi_j22 hA, Vq1_pl])
            exact v1
          · (try simp only [Vq2_pi_j22 hA, Vq2_pl])
            exact v2
          · (try simp only [Vp_thr hA, Vp_pl])
            exact vp
          · (try simp only [Vl0_pi_j22 hA, Vl0_pl])
            exact vl0
          · (try simp only [Vl1_pi_j22 hA, Vl1_pl])
            exact vl1
          · (try simp only [Vlr_pi_j22 hA, Vlr_pl_j39 hA])
            exact vlr
          · (try simp only [Vsr_pi_j22 hA, Vsr_pl_j39 hA])
            exact vsr
          · (try simp only [Vc_pi_j22 hA, Vc_pl])
            exact vc
          · (try simp only [Tx_pi_j22 hA, Tx_pl])
            exact tx
        · skip
          simp only [↓ar_ite, ↓ar_ite2, ↓ar_ok, ↓reduceIte, o309_0, o309_1, o309_2, o309_3, o309_4, o309_7, o309_8, o309_11, o309_22, o309_23, o79_0, o79_1, o79_2, o79_5, o79_6, o79_7, o79_9, o79_12, o79_13, o79_84, o79_85, o79_88, o79_91, o203_0, o203_1, o203_2, o203_5, o203_12, o203_13, o203_14, o203_17, o203_18, o203_20, o203_27, o203_28, o203_31, o203_36, o203_38, o203_40, o203_41, o203_42, o203_43, o203_46, o203_47, o203_48, o203_51, o203_52, o203_53, o203_54, o203_55, o203_58, o203_59, o203_60, o203_63, o203_64, o203_65, o203_66, o203_67, o203_70, o203_71, o203_72, o203_75, o203_76, o203_77, o203_78, o203_79, o203_82, o203_83, o203_84, o203_87, o203_88, o203_89, o203_90, o203_91, o203_94, o203_95, o203_96, o203_99, o203_100, o203_101, o203_102, o203_103, o203_106, o203_107, o203_108, o203_111, o203_112, o203_113, o203_115, o203_116, o203_119, o203_120, o203_121, o203_124, o203_125, o203_126, o203_127, o203_128, o203_129, c_X8_isThrown_, c_X8_isQueue, c_X5_checkChoice, c_queueOf_0, mc_pi, mc_pl, mc_pN, mn_pi, mn_pl, mn_pN, mi_pi, mi_pl, mi_pN, ml_pi, ml_pl, ml_pN, mr_pi, mr_pl, mr_pN, mt_pi, mt_pl, mz_pi, mz_pl, mz_pN, mcs_0, mcs_r, Kn_v, Kn_0, mrf_some, true_and, and_true, and_false, not_false_eq_true, implies_true, and_self, Nat.reduceEqDiff, Nat.reduceLeDiff, Nat.reduceSub, Nat.reduceAdd, Nat.zero_le, Nat.le_refl, i10, lt_le, Int32.reduceLT, cl0, cl1, cl2, cl3, cl4, cl5, cl6, cl7, Kc_v, Sum.inl.injEq, Option.some.injEq, Value.int.injEq, exists_eq_left', Nat.reduceLT, hAe, kc0, kc5, kc9, kc22, kc25, kc26, kc31, kc34, kc39, kn25, kn26, kr0_2, kr5_1, kr22_2, kr22_3, kr25_0, kr26_0, kz, ki34_0, ki34_1, vq3, g1, g2, g4, g5, g6, Int32.reduceLT, cl0, cl1, cl2, hta, hzt, lne, lti, vpk, Int.reduceLT, or_self]
          (try simp only [ite_ar, implies_true, true_and, and_true, Classical.not_not])
          first | refine ⟨Rl_F7 ?_, rfl⟩ | refine Rl_F7 ?_ | refine ⟨Rl_Fr ?_ (show Fr (p_i (p_l h (A 39) 0 _) (A 22) 9 0) _ from (Fr_pi (Fr_pi (Fr_pi (Fr_pi (Fr_pi (Fr_pi (Fr_pi (Fr_pN Fr_rfl) (Nat.le_refl _)) (Nat.le_refl _)) (Nat.le_refl _)) (Nat.le_refl _)) (Nat.le_refl _)) (Nat.le_refl _)) (Nat.le_refl _))), rfl⟩ | refine Rl_Fr ?_ (show Fr (p_i (p_l h (A 39) 0 _) (A 22) 9 0) _ from (Fr_pi (Fr_pi (Fr_pi (Fr_pi (Fr_pi (Fr_pi (Fr_pi (Fr_pN Fr_rfl) (Nat.le_refl _)) (Nat.le_refl _)) (Nat.le_refl _)) (Nat.le_refl _)) (Nat.le_refl _)) (Nat.le_refl _)) (Nat.le_refl _)))
          first | refine ⟨⟨?_, ?_, ?_, ?_, ?_, ?_, ?_, ?_, ?_, ?_, ?_, ?_⟩, rfl⟩ | refine ⟨?_, ?_, ?_, ?_, ?_, ?_, ?_, ?_, ?_, ?_, ?_, ?_⟩
          · (try simp only [K_pi, K_pl])
            exact vk
          · (try simp only [Cn_pi_j22 hA, Cn_pl])
            exact vcn
          · (try simp only [Vq0_pi_j22 hA, Vq0_pl])
            exact v0
          · (try simp only [Vq1_pi_j22 hA, Vq1_pl])
            exact v1
          · (try simp only [Vq2_pi_j22 hA, Vq2_pl])
            exact v2
          · (try simp only [Vp_thr hA, Vp_pl])
            exact vp
          · (try simp only [Vl0_pi_j22 hA, Vl0_pl])
            exact vl0
          · (try simp only [Vl1_pi_j22 hA, Vl1_pl])
            exact vl1
          · (try simp only [Vlr_pi_j22 hA, Vlr_pl_j39 hA])
            exact vlr
          · (try simp only [Vsr_pi_j22 hA, Vsr_pl_j39 hA])
            exact vsr
          · (try simp only [Vc_pi_j22 hA, Vc_pl])
            exact vc
          · (try simp only [Tx_pi_j22 hA, Tx_pl])
            exact tx
        · skip
          simp only [↓ar_ite, ↓ar_ite2, ↓ar_ok, ↓reduceIte, o309_0, o309_1, o309_2, o309_3, o309_4, o309_7, o309_8, o309_11, o309_22, o309_23, o79_0, o79_1, o79_2, o79_5, o79_6, o79_7, o79_9, o79_12, o79_13, o79_92, o79_93, o79_96, o79_99, o203_0, o203_1, o203_2, o203_5, o203_12, o203_13, o203_14, o203_17, o203_18, o203_20, o203_27, o203_28, o203_31, o203_36, o203_38, o203_40, o203_41, o203_42, o203_43, o203_46, o203_47, o203_48, o203_51, o203_52, o203_53, o203_54, o203_55, o203_58, o203_59, o203_60, o203_63, o203_64, o203_65, o203_66, o203_67, o203_70, o203_71, o203_72, o203_75, o203_76, o203_77, o203_78, o203_79, o203_82, o203_83, o203_84, o203_87, o203_88, o203_89, o203_90, o203_91, o203_94, o203_95, o203_96, o203_99, o203_100, o203_101, o203_102, o203_103, o203_106, o203_107, o203_108, o203_111, o203_112, o203_113, o203_115, o203_116, o203_119, o203_120, o203_121, o203_124, o203_125, o203_126, o203_127, o203_128, o203_129, c_X8_isThrown_, c_X8_isQueue, c_X5_checkChoice, c_queueOf_0, mc_pi, mc_pl, mc_pN, mn_pi, mn_pl, mn_pN, mi_pi, mi_pl, mi_pN, ml_pi, ml_pl, ml_pN, mr_pi, mr_pl, mr_pN, mt_pi, mt_pl, mz_pi, mz_pl, mz_pN, mcs_0, mcs_r, Kn_v, Kn_0, mrf_some, true_and, and_true, and_false, not_false_eq_true, implies_true, and_self, Nat.reduceEqDiff, Nat.reduceLeDiff, Nat.reduceSub, Nat.reduceAdd, Nat.zero_le, Nat.le_refl, i10, lt_le, Int32.reduceLT, cl0, cl1, cl2, cl3, cl4, cl5, cl6, cl7, Kc_v, Sum.inl.injEq, Option.some.injEq, Value.int.injEq, exists_eq_left', Nat.reduceLT, hAe, kc0, kc5, kc8, kc22, kc25, kc26, kc31, kc34, kc39, kn25, kn26, kr0_2, kr5_0, kr22_2, kr22_3, kr25_0, kr26_0, kz, ki8_2, ki34_0, ki34_1, vq3, g1, g2, g4, g5, g6, Int32.reduceLT, cl0, cl1, cl2, hta, hzt, lne, lti, vpk, Int.reduceLT, or_self]
          (try simp only [ite_ar, implies_true, true_and, and_true, Classical.not_not])
          first | refine ⟨Rl_F7 ?_, rfl⟩ | refine Rl_F7 ?_ | refine ⟨Rl_Fr ?_ (show Fr (p_i (p_l h (A 39) 0 _) (A 22) 9 0) _ from (Fr_pi (Fr_pi (Fr_pi (Fr_pi (Fr_pi (Fr_pi (Fr_pi (Fr_pN Fr_rfl) (Nat.le_refl _)) (Nat.le_refl _)) (Nat.le_refl _)) (Nat.le_refl _)) (Nat.le_refl _)) (Nat.le_refl _)) (Nat.le_refl _))), rfl⟩ | refine Rl_Fr ?_ (show Fr (p_i (p_l h (A 39) 0 _) (A 22) 9 0) _ from (Fr_pi (Fr_pi (Fr_pi (Fr_pi (Fr_pi (Fr_pi (Fr_pi (Fr_pN Fr_rfl) (Nat.le_refl _)) (Nat.le_refl _)) (Nat.le_refl _)) (Nat.le_refl _)) (Nat.le_refl _)) (Nat.le_refl _)) (Nat.le_refl _)))
          first | refine ⟨⟨?_, ?_, ?_, ?_, ?_, ?_, ?_, ?_, ?_, ?_, ?_, ?_⟩, rfl⟩ | refine ⟨?_, ?_, ?_, ?_, ?_, ?_, ?_, ?_, ?_, ?_, ?_, ?_⟩
          · (try simp only [K_pi, K_pl])
            exact vk
          · (try simp only [Cn_pi_j22 hA, Cn_pl])
            exact vcn
          · (try simp only [Vq0_pi_j22 hA, Vq0_pl])
            exact v0
          · (try simp only [Vq1_pi_j22 hA, Vq1_pl])
            exact v1
          · (try simp only [Vq2_pi_j22 hA, Vq2_pl])
            exact v2
          · (try simp only [Vp_thr hA, Vp_pl])
            exact vp
          · (try simp only [Vl0_pi_j22 hA, Vl0_pl])
            exact vl0
          · (try simp only [Vl1_pi_j22 hA, Vl1_pl])
            exact vl1
          · (try simp only [Vlr_pi_j22 hA, Vlr_pl_j39 hA])
            exact vlr
          · (try simp only [Vsr_pi_j22 hA, Vsr_pl_j39 hA])
            exact vsr
          · (try simp only [Vc_pi_j22 hA, Vc_pl])
            exact vc
          · (try simp only [Tx_pi_j22 hA, Tx_pl])
            exact tx
        · skip
          simp only [↓ar_ite, ↓ar_ite2, ↓ar_ok, ↓reduceIte, o309_0, o309_1, o309_2, o309_3, o309_4, o309_7, o309_8, o309_11, o309_22, o309_23, o79_0, o79_1, o79_2, o79_5, o79_6, o79_7, o79_9, o79_12, o79_13, o79_100, o79_101, o79_104, o79_107, o203_0, o203_1, o203_2, o203_5, o203_12, o203_13, o203_14, o203_17, o203_18, o203_20, o203_27, o203_28, o203_31, o203_36, o203_38, o203_40, o203_41, o203_42, o203_43, o203_46, o203_47, o203_48, o203_51, o203_52, o203_53, o203_54, o203_55, o203_58, o203_59, o203_60, o203_63, o203_64, o203_65, o203_66, o203_67, o203_70, o203_71, o203_72, o203_75, o203_76, o203_77, o203_78, o203_79, o203_82, o203_83, o203_84, o203_87, o203_88, o203_89, o203_90, o203_91, o203_94, o203_95, o203_96, o203_99, o203_100, o203_101, o203_102, o203_103, o203_106, o203_107, o203_108, o203_111, o203_112, o203_113, o203_115, o203_116, o203_119, o203_120, o203_121, o203_124, o203_125, o203_126, o203_127, o203_128, o203_129, c_X8_isThrown_, c_X8_isQueue, c_X5_checkChoice, c_queueOf_0, mc_pi, mc_pl, mc_pN, mn_pi, mn_pl, mn_pN, mi_pi, mi_pl, mi_pN, ml_pi, ml_pl, ml_pN, mr_pi, mr_pl, mr_pN, mt_pi, mt_pl, mz_pi, mz_pl, mz_pN, mcs_0, mcs_r, Kn_v, Kn_0, mrf_some, true_and, and_true, or_true, not_false_eq_true, implies_true, and_self, Nat.reduceEqDiff, Nat.reduceLeDiff, Nat.reduceSub, Nat.reduceAdd, Nat.zero_le, Nat.le_refl, i10, lt_le, Int32.reduceLT, cl0, cl1, cl2, cl3, cl4, cl5, cl6, cl7, Kc_v, Sum.inl.injEq, Option.some.injEq, Value.int.injEq, exists_eq_left', Nat.reduceLT, hAe, kc0, kc5, kc8, kc22, kc25, kc26, kc31, kc34, kc39, kn25, kn26, kr0_2, kr5_0, kr22_2, kr22_3, kr25_0, kr26_0, kz, ki8_1, ki34_0, ki34_1, vq3, g1, g2, g4, g5, g6, Int32.reduceLT, cl0, cl1, cl2, hta, hzt, lne, lti, vpk, Int.reduceLT, or_self]
          (try simp only [ite_ar, implies_true, true_and, and_true, Classical.not_not])
          first | refine ⟨Rl_F7 ?_, rfl⟩ | refine Rl_F7 ?_ | refine ⟨Rl_Fr ?_ (show Fr (p_i (p_l h (A 39) 0 _) (A 22) 9 0) _ from (Fr_pi (Fr_pi (Fr_pi (Fr_pi (Fr_pi (Fr_pi (Fr_pi (Fr_pN Fr_rfl) (Nat.le_refl _)) (Nat.le_refl _)) (Nat.le_refl _)) (Nat.le_refl _)) (Nat.le_refl _)) (Nat.le_refl _)) (Nat.le_refl _))), rfl⟩ | refine Rl_Fr ?_ (show Fr (p_i (p_l h (A 39) 0 _) (A 22) 9 0) _ from (Fr_pi (Fr_pi (Fr_pi (Fr_pi (Fr_pi (Fr_pi (Fr_pi (Fr_pN Fr_rfl) (Nat.le_refl _)) (Nat.le_refl _)) (Nat.le_refl _)) (Nat.le_refl _)) (Nat.le_refl _)) (Nat.le_refl _)) (Nat.le_refl _)))
          first | refine ⟨⟨?_, ?_, ?_, ?_, ?_, ?_, ?_, ?_, ?_, ?_, ?_, ?_⟩, rfl⟩ | refine ⟨?_, ?_, ?_, ?_, ?_, ?_, ?_, ?_, ?_, ?_, ?_, ?_⟩
          · (try simp only [K_pi, K_pl])
            exact vk
          · (try simp only [Cn_pi_j22 hA, Cn_pl])
            exact vcn
          · (try simp only [Vq0_pi_j22 hA, Vq0_pl])
            exact v0
          · (try simp only [Vq1_pi_j22 hA, Vq1_pl])
            exact v1
          · (try simp only [Vq2_pi_j22 hA, Vq2_pl])
            exact v2
          · (try simp only [Vp_thr hA, Vp_pl])
            exact vp
          · (try simp only [Vl0_pi_j22 hA, Vl0_pl])
            exact vl0
          · (try simp only [Vl1_pi_j22 hA, Vl1_pl])
            exact vl1
          · (try simp only [Vlr_pi_j22 hA, Vlr_pl_j39 hA])
            exact vlr
          · (try simp only [Vsr_pi_j22 hA, Vsr_pl_j39 hA])
            exact vsr
          · (try simp only [Vc_pi_j22 hA, Vc_pl])
            exact vc
          · (try simp only [Tx_pi_j22 hA, Tx_pl])
            exact tx
        · exact absurd (show (6 : Int32) < 7 by decide) bx9
        · exact absurd (show (6 : Int32) < 8 by decide) bx9
      · have he := v1.1
        have hm := v1.2
        have hT : mT h (A 27) 1 (A 32) (A 35) = cT h (A 6) (A 10) (A 11) := he.symm
        have he2 := he
        simp only [cT, mT, Prod.mk.injEq] at he2
        obtain ⟨g1, g2, g3, g4, g5, g6, g7⟩ := he2
        replace g1 := g1.symm
        replace g2 := g2.symm
        replace g3 := g3.symm
        replace g4 := g4.symm
        replace g5 := g5.symm
        replace g6 := g6.symm
        replace g7 := g7.symm
        obtain ⟨hmk, har, hl0, hl9⟩ := qA_1 _ hm
        have hark : arok 1 (g_i h (A 6) 3) := fun z => absurd (by decide) z
        have n1 : ¬ A 10 = A 11 := fun z => absurd ((hAe 10 11 (by decide) (by decide)).mp z) (by decide)
        rcases x_cases bx0 (x_le bx9 (by decide)) with rfl | rfl | rfl | rfl | rfl | rfl | rfl | rfl | rfl
        · skip
          simp only [↓ar_ite, ↓ar_ite2, ↓ar_ok, ↓reduceIte, o309_0, o309_1, o309_2, o309_3, o309_4, o309_7, o309_8, o309_11, o309_22, o309_23, o79_0, o79_1, o79_2, o79_5, o79_6, o79_7, o79_9, o79_12, o79_13, o79_52, o79_53, o79_56, o79_59, o203_0, o203_1, o203_2, o203_5, o203_12, o203_13, o203_14, o203_17, o203_18, o203_20, o203_27, o203_28, o203_31, o203_36, o203_38, o203_40, o203_41, o203_42, o203_43, o203_46, o203_47, o203_48, o203_51, o203_52, o203_53, o203_54, o203_55, o203_58, o203_59, o203_60, o203_63, o203_64, o203_65, o203_66, o203_67, o203_70, o203_71, o203_72, o203_75, o203_76, o203_77, o203_78, o203_79, o203_82, o203_83, o203_84, o203_87, o203_88, o203_89, o203_90, o203_91, o203_94, o203_95, o203_96, o203_99, o203_100, o203_101, o203_102, o203_103, o203_106, o203_107, o203_108, o203_111, o203_112, o203_113, o203_115, o203_116, o203_119, o203_120, o203_121, o203_124, o203_125, o203_126, o203_127, o203_128, o203_129, c_X8_isThrown_, c_X8_isQueue, c_X5_checkChoice, c_queueOf_1, mc_pi, mc_pl, mc_pN, mn_pi, mn_pl, mn_pN, mi_pi, mi_pl, mi_pN, ml_pi, ml_pl, ml_pN, mr_pi, mr_pl, mr_pN, mt_pi, mt_pl, mz_pi, mz_pl, mz_pN, mcs_0, mcs_r, Kn_v, Kn_0, mrf_some, true_and, and_true, and_false, not_false_eq_true, implies_true, and_self, Nat.reduceEqDiff, Nat.reduceLeDiff, Nat.reduceSub, Nat.reduceAdd, Nat.zero_le, Nat.le_refl, i10, i01, lt_le, Int32.reduceLT, cl0, cl1, cl2, cl3, cl4, cl5, cl6, cl7, Kc_v, Sum.inl.injEq, Option.some.injEq, Value.int.injEq, exists_eq_left', Nat.reduceLT, hAe, kc0, kc6, kc10, kc22, kc25, kc26, kc32, kc35, kc39, kn25, kn26, kr0_3, kr6_0, kr22_2, kr22_3, kr25_1, kr26_1, kz, ki35_0, ki35_1, vq3, g1, g2, g4, g5, g6, Int32.reduceLT, cl0, cl1, cl2, hta, hzt, lne, lti, vpk, Int.reduceLT, or_self]
          (try simp only [ite_ar, implies_true, true_and, and_true, Classical.not_not])
          first | refine ⟨Rl_F7 ?_, rfl⟩ | refine Rl_F7 ?_ | refine ⟨Rl_Fr ?_ (show Fr (p_i (p_l h (A 39) 0 _) (A 22) 9 0) _ from (Fr_pi (Fr_pi (Fr_pi (Fr_pi (Fr_pi (Fr_pi (Fr_pi (Fr_pN Fr_rfl) (Nat.le_refl _)) (Nat.le_refl _)) (Nat.le_refl _)) (Nat.le_refl _)) (Nat.le_refl _)) (Nat.le_refl _)) (Nat.le_refl _))), rfl⟩ | refine Rl_Fr ?_ (show Fr (p_i (p_l h (A 39) 0 _) (A 22) 9 0) _ from (Fr_pi (Fr_pi (Fr_pi (Fr_pi (Fr_pi (Fr_pi (Fr_pi (Fr_pN Fr_rfl) (Nat.le_refl _)) (Nat.le_refl _)) (Nat.le_refl _)) (Nat.le_refl _)) (Nat.le_refl _)) (Nat.le_refl _)) (Nat.le_refl _)))
          first | refine ⟨⟨?_, ?_, ?_, ?_, ?_, ?_, ?_, ?_, ?_, ?_, ?_, ?_⟩, rfl⟩ | refine ⟨?_, ?_, ?_, ?_, ?_, ?_, ?_, ?_, ?_, ?_, ?_, ?_⟩
          · (try simp only [K_pi, K_pl])
            exact vk
          · (try simp only [Cn_pi_j22 hA, Cn_pl])
            exact vcn
          · (try simp only [Vq0_pi_j22 hA, Vq0_pl])
            exact v0
          · (try simp only [Vq1_pi_j22 hA, Vq1_pl])
            exact v1
          · (try simp only [Vq2_pi_j22 hA, Vq2_pl])
            exact v2
          · (try simp only [Vp_thr hA, Vp_pl])
            exact vp
          · (try simp only [Vl0_pi_j22 hA, Vl0_pl])
            exact vl0
          · (try simp only [Vl1_pi_j22 hA, Vl1_pl])
            exact vl1
          · (try simp only [Vlr_pi_j22 hA, Vlr_pl_j39 hA])
            exact vlr
          · (try simp only [Vsr_pi_j22 hA, Vsr_pl_j39 hA])
            exact vsr
          · (try simp only [Vc_pi_j22 hA, Vc_pl])
            exact vc
          · (try simp only [Tx_pi_j22 hA, Tx_pl])
            exact tx
        · skip
          simp only [↓ar_ite, ↓ar_ite2, ↓ar_ok, ↓reduceIte, o309_0, o309_1, o309_2, o309_3, o309_4, o309_7, o309_8, o309_11, o309_22, o309_23, o79_0, o79_1, o79_2, o79_5, o79_6, o79_7, o79_9, o79_12, o79_13, o79_60, o79_61, o79_64, o79_67, o203_0, o203_1, o203_2, o203_5, o203_12, o203_13, o203_14, o203_17, o203_18, o203_20, o203_27, o203_28, o203_31, o203_36, o203_38, o203_40, o203_41, o203_42, o203_43, o203_46, o203_47, o203_48, o203_51, o203_52, o203_53, o203_54, o203_55, o203_58, o203_59, o203_60, o203_63, o203_64, o203_65, o203_66, o203_67, o203_70, o203_71, o203_72, o203_75, o203_76, o203_77, o203_78, o203_79, o203_82, o203_83, o203_84, o203_87, o203_88, o203_89, o203_90, o203_91, o203_94, o203_95, o203_96, o203_99, o203_100, o203_101, o203_102, o203_103, o203_106, o203_107, o203_108, o203_111, o203_112, o203_113, o203_115, o203_116, o203_119, o203_120, o203_121, o203_124, o203_125, o203_126, o203_127, o203_128, o203_129, c_X8_isThrown_, c_X8_isQueue, c_X5_checkChoice, c_queueOf_1, mc_pi, mc_pl, mc_pN, mn_pi, mn_pl, mn_pN, mi_pi, mi_pl, mi_pN, ml_pi, ml_pl, ml_pN, mr_pi, mr_pl, mr_pN, mt_pi, mt_pl, mz_pi, mz_pl, mz_pN, mcs_0, mcs_r, Kn_v, Kn_0, mrf_some, true_and, and_true, and_false, not_false_eq_true, implies_true, and_self, Nat.reduceEqDiff, Nat.reduceLeDiff, Nat.reduceSub, Nat.reduceAdd, Nat.zero_le, Nat.le_refl, i10, lt_le, Int32.reduceLT, cl0, cl1, cl2, cl3, cl4, cl5, cl6, cl7, Kc_v, Sum.inl.injEq, Option.some.injEq, Value.int.injEq, exists_eq_left', Nat.reduceLT, hAe, kc0, kc6, kc10, kc22, kc25, kc26, kc32, kc35, kc39, kn25, kn26, kr0_3, kr6_0, kr22_2, kr22_3, kr25_1, kr26_1, kz, ki35_0, ki35_1, vq3, g1, g2, g4, g5, g6, Int32.reduceLT, cl0, cl1, cl2, hta, hzt, lne, lti, vpk, Int.reduceLT, or_self]
          (try simp only [ite_ar, implies_true, true_and, and_true, Classical.not_not])
          first | refine ⟨Rl_F7 ?_, rfl⟩ | refine Rl_F7 ?_ | refine ⟨Rl_Fr ?_ (show Fr (p_i (p_l h (A 39) 0 _) (A 22) 9 0) _ from (Fr_pi (Fr_pi (Fr_pi (Fr_pi (Fr_pi (Fr_pi (Fr_pi (Fr_pN Fr_rfl) (Nat.le_refl _)) (Nat.le_refl _)) (Nat.le_refl _)) (Nat.le_refl _)) (Nat.le_refl _)) (Nat.le_refl _)) (Nat.le_refl _))), rfl⟩ | refine Rl_Fr ?_ (show Fr (p_i (p_l h (A 39) 0 _) (A 22) 9 0) _ from (Fr_pi (Fr_pi (Fr_pi (Fr_pi (Fr_pi (Fr_pi (Fr_pi (Fr_pN Fr_rfl) (Nat.le_refl _)) (Nat.le_refl _)) (Nat.le_refl _)) (Nat.le_refl _)) (Nat.le_refl _)) (Nat.le_refl _)) (Nat.le_refl _)))
          first | refine ⟨⟨?_, ?_, ?_, ?_, ?_, ?_, ?_, ?_, ?_, ?_, ?_, ?_⟩, rfl⟩ | refine ⟨?_, ?_, ?_, ?_, ?_, ?_, ?_, ?_, ?_, ?_, ?_, ?_⟩
          · (try simp only [K_pi, K_pl])
            exact vk
          · (try simp only [Cn_pi_j22 hA, Cn_pl])
            exact vcn
          · (try simp only [Vq0_pi_j22 hA, Vq0_pl])
            exact v0
          · (try simp only [Vq1_pi_j22 hA, Vq1_pl])
            exact v1
          · (try simp only [Vq2_pi_j22 hA, Vq2_pl])
            exact v2
          · (try simp only [Vp_thr hA, Vp_pl])
            exact vp
          · (try simp only [Vl0_pi_j22 hA, Vl0_pl])
            exact vl0
          · (try simp only [Vl1_pi_j22 hA, Vl1_pl])
            exact vl1
          · (try simp only [Vlr_pi_j22 hA, Vlr_pl_j39 hA])
            exact vlr
          · (try simp only [Vsr_pi_j22 hA, Vsr_pl_j39 hA])
            exact vsr
          · (try simp only [Vc_pi_j22 hA, Vc_pl])
            exact vc
          · (try simp only [Tx_pi_j22 hA, Tx_pl])
            exact tx
        · skip
          simp only [↓ar_ite, ↓ar_ite2, ↓ar_ok, ↓reduceIte, o309_0, o309_1, o309_2, o309_3, o309_4, o309_7, o309_8, o309_11, o309_22, o309_23, o79_0, o79_1, o79_2, o79_5, o79_6, o79_7, o79_9, o79_12, o79_13, o79_68, o79_69, o79_72, o79_75, o203_0, o203_1, o203_2, o203_5, o203_12, o203_13, o203_14, o203_17, o203_18, o203_20, o203_27, o203_28, o203_31, o203_36, o203_38, o203_40, o203_41, o203_42, o203_43, o203_46, o203_47, o203_48, o203_51, o203_52, o203_53, o203_54, o203_55, o203_58, o203_59, o203_60, o203_63, o203_64, o203_65, o203_66, o203_67, o203_70, o203_71, o203_72, o203_75, o203_76, o203_77, o203_78, o203_79, o203_82, o203_83, o203_84, o203_87, o203_88, o203_89, o203_90, o203_91, o203_94, o203_95, o203_96, o203_99, o203_100, o203_101, o203_102, o203_103, o203_106, o203_107, o203_108, o203_111, o203_112, o203_113, o203_115, o203_116, o203_119, o203_120, o203_121, o203_124, o203_125, o203_126, o203_127, o203_128, o203_129, c_X8_isThrown_, c_X8_isQueue, c_X5_checkChoice, c_queueOf_1, mc_pi, mc_pl, mc_pN, mn_pi, mn_pl, mn_pN, mi_pi, mi_pl, mi_pN, ml_pi, ml_pl, ml_pN, mr_pi, mr_pl, mr_pN, mt_pi, mt_pl, mz_pi, mz_pl, mz_pN, mcs_0, mcs_r, Kn_v, Kn_0, mrf_some, true_and, and_true, and_false, not_false_eq_true, implies_true, and_self, Nat.reduceEqDiff, Nat.reduceLeDiff, Nat.reduceSub, Nat.reduceAdd, Nat.zero_le, Nat.le_refl, i10, lt_le, Int32.reduceLT, cl0, cl1, cl2, cl3, cl4, cl5, cl6, cl7, Kc_v, Sum.inl.injEq, Option.some.injEq, Value.int.injEq, exists_eq_left', Nat.reduceLT, hAe, i20, kc0, kc6, kc11, kc22, kc25, kc26, kc32, kc35, kc39, kn25, kn26, kr0_3, kr6_1, kr22_2, kr22_3, kr25_1, kr26_1, kz, ki35_0, ki35_1, vq3, g1, g2, g4, g5, g6, Int32.reduceLT, cl0, cl1, cl2, hta, hzt, lne, lti, vpk, Int.reduceLT, or_self]
          (try simp only [ite_ar, implies_true, true_and, and_true, Classical.not_not])
          first | refine ⟨Rl_F7 ?_, rfl⟩ | refine Rl_F7 ?_ | refine ⟨Rl_Fr ?_ (show Fr (p_i (p_l h (A 39) 0 _) (A 22) 9 0) _ from (Fr_pi (Fr_pi (Fr_pi (Fr_pi (Fr_pi (Fr_pi (Fr_pi (Fr_pN Fr_rfl) (Nat.le_refl _)) (Nat.le_refl _)) (Nat.le_refl _)) (Nat.le_refl _)) (Nat.le_refl _)) (Nat.le_refl _)) (Nat.le_refl _))), rfl⟩ | refine Rl_Fr ?_ (show Fr (p_i (p_l h (A 39) 0 _) (A 22) 9 0) _ from (Fr_pi (Fr_pi (Fr_pi (Fr_pi (Fr_pi (Fr_pi (Fr_pi (Fr_pN Fr_rfl) (Nat.le_refl _)) (Nat.le_refl _)) (Nat.le_refl _)) (Nat.le_refl _)) (Nat.le_refl _)) (Nat.le_refl _)) (Nat.le_refl _)))
          first | refine ⟨⟨?_, ?_, ?_, ?_, ?_, ?_, ?_, ?_, ?_, ?_, ?_, ?_⟩, rfl⟩ | refine ⟨?_, ?_, ?_, ?_, ?_, ?_, ?_, ?_, ?_, ?_, ?_, ?_⟩
          · (try simp only [K_pi, K_pl])
            exact vk
          · (try simp only [Cn_pi_j22 hA, Cn_pl])
            exact vcn
          · (try simp only [Vq0_pi_j22 hA, Vq0_pl])
            exact v0
          · (try simp only [Vq1_pi_j22 hA, Vq1_pl])
            exact v1
          · (try simp only [Vq2_pi_j22 hA, Vq2_pl])
            exact v2
          · (try simp only [Vp_thr hA, Vp_pl])
            exact vp
          · (try simp only [Vl0_pi_j22 hA, Vl0_pl])
            exact vl0
          · (try simp only [Vl1_pi_j22 hA, Vl1_pl])
            exact vl1
          · (try simp only [Vlr_pi_j22 hA, Vlr_pl_j39 hA])
            exact vlr
          · (try simp only [Vsr_pi_j22 hA, Vsr_pl_j39 hA])
            exact vsr
          · (try simp only [Vc_pi_j22 hA, Vc_pl])
            exact vc
          · (try simp only [Tx_pi_j22 hA, Tx_pl])
            exact tx
        · skip
          simp only [↓ar_ite, ↓ar_ite2, ↓ar_ok, ↓reduceIte, o309_0, o309_1, o309_2, o309_3, o309_4, o309_7, o309_8, o309_11, o309_22, o309_23, o79_0, o79_1, o79_2, o79_5, o79_6, o79_7, o79_9, o79_12, o79_13, o79_76, o79_77, o79_80, o79_83, o203_0, o203_1, o203_2, o203_5, o203_12, o203_13, o203_14, o203_17, o203_18, o203_20, o203_27, o203_28, o203_31, o203_36, o203_38, o203_40, o203_41, o203_42, o203_43, o203_46, o203_47, o203_48, o203_51, o203_52, o203_53, o203_54, o203_55, o203_58, o203_59, o203_60, o203_63, o203_64, o203_65, o203_66, o203_67, o203_70, o203_71, o203_72, o203_75, o203_76, o203_77, o203_78, o203_79, o203_82, o203_83, o203_84, o203_87, o203_88, o203_89, o203_90, o203_91, o203_94, o203_95, o203_96, o203_99, o203_100, o203_101, o203_102, o203_103, o203_106, o203_107, o203_108, o203_111, o203_112, o203_113, o203_115, o203_116, o203_119, o203_120, o203_121, o203_124, o203_125, o203_126, o203_127, o203_128, o203_129, c_X8_isThrown_, c_X8_isQueue, c_X5_checkChoice, c_queueOf_1, mc_pi, mc_pl, mc_pN, mn_pi, mn_pl, mn_pN, mi_pi, mi_pl, mi_pN, ml_pi, ml_pl, ml_pN, mr_pi, mr_pl, mr_pN, mt_pi, mt_pl, mz_pi, mz_pl, mz_pN, mcs_0, mcs_r, Kn_v, Kn_0, mrf_some, true_and, and_true, and_false, not_false_eq_true, implies_true, and_self, Nat.reduceEqDiff, Nat.reduceLeDiff, Nat.reduceSub, Nat.reduceAdd, Nat.zero_le, Nat.le_refl, i10, lt_le, Int32.reduceLT, cl0, cl1, cl2, cl3, cl4, cl5, cl6, cl7, Kc_v, Sum.inl.injEq, Option.some.injEq, Value.int.injEq, exists_eq_left', Nat.reduceLT, hAe, i30, kc0, kc6, kc11, kc22, kc25, kc26, kc32, kc35, kc39, kn25, kn26, kr0_3, kr6_1, kr22_2, kr22_3, kr25_1, kr26_1, kz, ki35_0, ki35_1, vq3, g1, g2, g4, g5, g6, Int32.reduceLT, cl0, cl1, cl2, hta, hzt, lne, lti, vpk, Int.reduceLT, or_self]
          (try simp only [ite_ar, implies_true, true_and, and_true, Classical.not_not])
          first | refine ⟨Rl_F7 ?_, rfl⟩ | refine Rl_F7 ?_ | refine ⟨Rl_Fr ?_ (show Fr (p_i (p_l h (A 39) 0 _) (A 22) 9 0) _ from (Fr_pi (Fr_pi (Fr_pi (Fr_pi (Fr_pi (Fr_pi (Fr_pi (Fr_pN Fr_rfl) (Nat.le_refl _)) (Nat.le_refl _)) (Nat.le_refl _)) (Nat.le_refl _)) (Nat.le_refl _)) (Nat.le_refl _)) (Nat.le_refl _))), rfl⟩ | refine Rl_Fr ?_ (show Fr (p_i (p_l h (A 39) 0 _) (A 22) 9 0) _ from (Fr_pi (Fr_pi (Fr_pi (Fr_pi (Fr_pi (Fr_pi (Fr_pi (Fr_pN Fr_rfl) (Nat.le_refl _)) (Nat.le_refl _)) (Nat.le_refl _)) (Nat.le_refl _)) (Nat.le_refl _)) (Nat.le_refl _)) (Nat.le_refl _)))
          first | refine ⟨⟨?_, ?_, ?_, ?_, ?_, ?_, ?_, ?_, ?_, ?_, ?_, ?_⟩, rfl⟩ | refine ⟨?_, ?_, ?_, ?_, ?_, ?_, ?_, ?_, ?_, ?_, ?_, ?_⟩
          · (try simp only [K_pi, K_pl])
            exact vk
          · (try simp only [Cn_pi_j22 hA, Cn_pl])
            exact vcn
          · (try simp only [Vq0_pi_j22 hA, Vq0_pl])
            exact v0
          · (try simp only [Vq1_pi_j22 hA, Vq1_pl])
            exact v1
          · (try simp only [Vq2_pi_j22 hA, Vq2_pl])
            exact v2
          · (try simp only [Vp_thr hA, Vp_pl])
            exact vp
          · (try simp only [Vl0_pi_j22 hA, Vl0_pl])
            exact vl0
          · (try simp only [Vl1_pi_j22 hA, Vl1_pl])
            exact vl1
          · (try simp only [Vlr_pi_j22 hA, Vlr_pl_j39 hA])
            exact vlr
          · (try simp only [Vsr_pi_j22 hA, Vsr_pl_j39 hA])
            exact vsr
          · (try simp only [Vc_pi_j22 hA, Vc_pl])
            exact vc
          · (try simp only [Tx_pi_j22 hA, Tx_pl])
            exact tx
        · skip
          simp only [↓ar_ite, ↓ar_ite2, ↓ar_ok, ↓reduceIte, o309_0, o309_1, o309_2, o309_3, o309_4, o309_7, o309_8, o309_11, o309_22, o309_23, o79_0, o79_1, o79_2, o79_5, o79_6, o79_7, o79_9, o79_12, o79_13, o79_84, o79_85, o79_88, o79_91, o203_0, o203_1, o203_2, o203_5, o203_12, o203_13, o203_14, o203_17, o203_18, o203_20, o203_27, o203_28, o203_31, o203_36, o203_38, o203_40, o203_41, o203_42, o203_43, o203_46, o203_47, o203_48, o203_51, o203_52, o203_53, o203_54, o203_55, o203_58, o203_59, o203_60, o203_63, o203_64, o203_65, o203_66, o203_67, o203_70, o203_71, o203_72, o203_75, o203_76, o203_77, o203_78, o203_79, o203_82, o203_83, o203_84, o203_87, o203_88, o203_89, o203_90, o203_91, o203_94, o203_95, o203_96, o203_99, o203_100, o203_101, o203_102, o203_103, o203_106, o203_107, o203_108, o203_111, o203_112, o203_113, o203_115, o203_116, o203_119, o203_120, o203_121, o203_124, o203_125, o203_126, o203_127, o203_128, o203_129, c_X8_isThrown_, c_X8_isQueue, c_X5_checkChoice, c_queueOf_1, mc_pi, mc_pl, mc_pN, mn_pi, mn_pl, mn_pN, mi_pi, mi_pl, mi_pN, ml_pi, ml_pl, ml_pN, mr_pi, mr_pl, mr_pN, mt_pi, mt_pl, mz_pi, mz_pl, mz_pN, mcs_0, mcs_r, Kn_v, Kn_0, mrf_some, true_and, and_true, and_false, not_false_eq_true, implies_true, and_self, Nat.reduceEqDiff, Nat.reduceLeDiff, Nat.reduceSub, Nat.reduceAdd, Nat.zero_le, Nat.le_refl, i10, lt_le, Int32.reduceLT, cl0, cl1, cl2, cl3, cl4, cl5, cl6, cl7, Kc_v, Sum.inl.injEq, Option.some.injEq, Value.int.injEq, exists_eq_left', Nat.reduceLT, hAe, kc0, kc6, kc11, kc22, kc25, kc26, kc32, kc35, kc39, kn25, kn26, kr0_3, kr6_1, kr22_2, kr22_3, kr25_1, kr26_1, kz, ki35_0, ki35_1, vq3, g1, g2, g4, g5, g6, Int32.reduceLT, cl0, cl1, cl2, hta, hzt, lne, lti, vpk, Int.reduceLT, or_self]
          (try simp only [ite_ar, implies_true, true_and, and_true, Classical.not_not])
          first | refine ⟨Rl_F7 ?_, rfl⟩ | refine Rl_F7 ?_ | refine ⟨Rl_Fr ?_ (show Fr (p_i (p_l h (A 39) 0 _) (A 22) 9 0) _ from (Fr_pi (Fr_pi (Fr_pi (Fr_pi (Fr_pi (Fr_pi (Fr_pi (Fr_pN Fr_rfl) (Nat.le_refl _)) (Nat.le_refl _)) (Nat.le_refl _)) (Nat.le_refl _)) (Nat.le_refl _)) (Nat.le_refl _)) (Nat.le_refl _))), rfl⟩ | refine Rl_Fr ?_ (show Fr (p_i (p_l h (A 39) 0 _) (A 22) 9 0) _ from (Fr_pi (Fr_pi (Fr_pi (Fr_pi (Fr_pi (Fr_pi (Fr_pi (Fr_pN Fr_rfl) (Nat.le_refl _)) (Nat.le_refl _)) (Nat.le_refl _)) (Nat.le_refl _)) (Nat.le_refl _)) (Nat.le_refl _)) (Nat.le_refl _)))
          first | refine ⟨⟨?_, ?_, ?_, ?_, ?_, ?_, ?_, ?_, ?_, ?_, ?_, ?_⟩, rfl⟩ | refine ⟨?_, ?_, ?_, ?_, ?_, ?_, ?_, ?_, ?_, ?_, ?_, ?_⟩
          · (try simp only [K_pi, K_pl])
            exact vk
          · (try simp only [Cn_pi_j22 hA, Cn_pl])
            exact vcn
          · (try simp only [Vq0_pi_j22 hA, Vq0_pl])
            exact v0
          · (try simp only [Vq1_pi_j22 hA, Vq1_pl])
            exact v1
          · (try simp only [Vq2_pi_j22 hA, Vq2_pl])
            exact v2
          · (try simp only [Vp_thr hA, Vp_pl])
            exact vp
          · (try simp only [Vl0_pi_j22 hA, Vl0_pl])
            exact vl0
          · (try simp only [Vl1_pi_j22 hA, Vl1_pl])
            exact vl1
          · (try simp only [Vlr_pi_j22 hA, Vlr_pl_j39 hA])
            exact vlr
          · (try simp only [Vsr_pi_j22 hA, Vsr_pl_j39 hA])
            exact vsr
          · (try simp only [Vc_pi_j22 hA, Vc_pl])
            exact vc
          · (try simp only [Tx_pi_j22 hA, Tx_pl])
            exact tx
        · skip
          simp only [↓ar_ite, ↓ar_ite2, ↓ar_ok, ↓reduceIte, o309_0, o309_1, o309_2, o309_3, o309_4, o309_7, o309_8, o309_11, o309_22, o309_23, o79_0, o79_1, o79_2, o79_5, o79_6, o79_7, o79_9, o79_12, o79_13, o79_92, o79_93, o79_96, o79_99, o203_0, o203_1, o203_2, o203_5, o203_12, o203_13, o203_14, o203_17, o203_18, o203_20, o203_27, o203_28, o203_31, o203_36, o203_38, o203_40, o203_41, o203_42, o203_43, o203_46, o203_47, o203_48, o203_51, o203_52, o203_53, o203_54, o203_55, o203_58, o203_59, o203_60, o203_63, o203_64, o203_65, o203_66, o203_67, o203_70, o203_71, o203_72, o203_75, o203_76, o203_77, o203_78, o203_79, o203_82, o203_83, o203_84, o203_87, o203_88, o203_89, o203_90, o203_91, o203_94, o203_95, o203_96, o203_99, o203_100, o203_101, o203_102, o203_103, o203_106, o203_107, o203_108, o203_111, o203_112, o203_113, o203_115, o203_116, o203_119, o203_120, o203_121, o203_124, o203_125, o203_126, o203_127, o203_128, o203_129, c_X8_isThrown_, c_X8_isQueue, c_X5_checkChoice, c_queueOf_1, mc_pi, mc_pl, mc_pN, mn_pi, mn_pl, mn_pN, mi_pi, mi_pl, mi_pN, ml_pi, ml_pl, ml_pN, mr_pi, mr_pl, mr_pN, mt_pi, mt_pl, mz_pi, mz_pl, mz_pN, mcs_0, mcs_r, Kn_v, Kn_0, mrf_some, true_and, and_true, and_false, not_false_eq_true, implies_true, and_self, Nat.reduceEqDiff, Nat.reduceLeDiff, Nat.reduceSub, Nat.reduceAdd, Nat.zero_le, Nat.le_refl, i10, lt_le, Int32.reduceLT, cl0, cl1, cl2, cl3, cl4, cl5, cl6, cl7, Kc_v, Sum.inl.injEq, Option.some.injEq, Value.int.injEq, exists_eq_left', Nat.reduceLT, hAe, kc0, kc6, kc10, kc22, kc25, kc26, kc32, kc35, kc39, kn25, kn26, kr0_3, kr6_0, kr22_2, kr22_3, kr25_1, kr26_1, kz, ki10_2, ki35_0, ki35_1, vq3, g1, g2, g4, g5, g6, Int32.reduceLT, cl0, cl1, cl2, hta, hzt, lne, lti, vpk, Int.reduceLT, or_self]
          (try simp only [ite_ar, implies_true, true_and, and_true, Classical.not_not])
          first | refine ⟨Rl_F7 ?_, rfl⟩ | refine Rl_F7 ?_ | refine ⟨Rl_Fr ?_ (show Fr (p_i (p_l h (A 39) 0 _) (A 22) 9 0) _ from (Fr_pi (Fr_pi (Fr_pi (Fr_pi (Fr_pi (Fr_pi (Fr_pi (Fr_pN Fr_rfl) (Nat.le_refl _)) (Nat.le_refl _)) (Nat.le_refl _)) (Nat.le_refl _)) (Nat.le_refl _)) (Nat.le_refl _)) (Nat.le_refl _))), rfl⟩ | refine Rl_Fr ?_ (show Fr (p_i (p_l h (A 39) 0 _) (A 22) 9 0) _ from (Fr_pi (Fr_pi (Fr_pi (Fr_pi (Fr_pi (Fr_pi (Fr_pi (Fr_pN Fr_rfl) (Nat.le_refl _)) (Nat.le_refl _)) (Nat.le_refl _)) (Nat.le_refl _)) (Nat.le_refl _)) (Nat.le_refl _)) (Nat.le_refl _)))
          first | refine ⟨⟨?_, ?_, ?_, ?_, ?_, ?_, ?_, ?_, ?_, ?_, ?_, ?_⟩, rfl⟩ | refine ⟨?_, ?_, ?_, ?_, ?_, ?_, ?_, ?_, ?_, ?_, ?_, ?_⟩
          · (try simp only [K_pi, K_pl])
            exact vk
          · (try simp only [Cn_pi_j22 hA, Cn_pl])
            exact vcn
          · (try simp only [Vq0_pi_j22 hA, Vq0_pl])
            exact v0
          · (try simp only [Vq1_pi_j22 hA, Vq1_pl])
            exact v1
          · (try simp only [Vq2_pi_j22 hA, Vq2_pl])
            exact v2
          · (try simp only [Vp_thr hA, Vp_pl])
            exact vp
          · (try simp only [Vl0_pi_j22 hA, Vl0_pl])
            exact vl0
          · (try simp only [Vl1_pi_j22 hA, Vl1_pl])
            exact vl1
          · (try simp only [Vlr_pi_j22 hA, Vlr_pl_j39 hA])
            exact vlr
          · (try simp only [Vsr_pi_j22 hA, Vsr_pl_j39 hA])
            exact vsr
          · (try simp only [Vc_pi_j22 hA, Vc_pl])
            exact vc
          · (try simp only [Tx_pi_j22 hA, Tx_pl])
            exact tx
        · skip
          simp only [↓ar_ite, ↓ar_ite2, ↓ar_ok, ↓reduceIte, o309_0, o309_1, o309_2, o309_3, o309_4, o309_7, o309_8, o309_11, o309_22, o309_23, o79_0, o79_1, o79_2, o79_5, o79_6, o79_7, o79_9, o79_12, o79_13, o79_100, o79_101, o79_104, o79_107, o203_0, o203_1, o203_2, o203_5, o203_12, o203_13, o203_14, o203_17, o203_18, o203_20, o203_27, o203_28, o203_31, o203_36, o203_38, o203_40, o203_41, o203_42, o203_43, o203_46, o203_47, o203_48, o203_51, o203_52, o203_53, o203_54, o203_55, o203_58, o203_59, o203_60, o203_63, o203_64, o203_65, o203_66, o203_67, o203_70, o203_71, o203_72, o203_75, o203_76, o203_77, o203_78, o203_79, o203_82, o203_83, o203_84, o203_87, o203_88, o203_89, o203_90, o203_91, o203_94, o203_95, o203_96, o203_99, o203_100, o203_101, o203_102, o203_103, o203_106, o203_107, o203_108, o203_111, o203_112, o203_113, o203_115, o203_116, o203_119, o203_120, o203_121, o203_124, o203_125, o203_126, o203_127, o203_128, o203_129, c_X8_isThrown_, c_X8_isQueue, c_X5_checkChoice, c_queueOf_1, mc_pi, mc_pl, mc_pN, mn_pi, mn_pl, mn_pN, mi_pi, mi_pl, mi_pN, ml_pi, ml_pl, ml_pN, mr_pi, mr_pl, mr_pN, mt_pi, mt_pl, mz_pi, mz_pl, mz_pN, mcs_0, mcs_r, Kn_v, Kn_0, mrf_some, true_and, and_true, or_true, not_false_eq_true, implies_true, and_self, Nat.reduceEqDiff, Nat.reduceLeDiff, Nat.reduceSub, Nat.reduceAdd, Nat.zero_le, Nat.le_refl, i10, lt_le, Int32.reduceLT, cl0, cl1, cl2, cl3, cl4, cl5, cl6, cl7, Kc_v, Sum.inl.injEq, Option.some.injEq, Value.int.injEq, exists_eq_left', Nat.reduceLT, hAe, kc0, kc6, kc10, kc22, kc25, kc26, kc32, kc35, kc39, kn25, kn26, kr0_3, kr6_0, kr22_2, kr22_3, kr25_1, kr26_1, kz, ki10_1, ki35_0, ki35_1, vq3, g1, g2, g4, g5, g6, Int32.reduceLT, cl0, cl1, cl2, hta, hzt, lne, lti, vpk, Int.reduceLT, or_self]
          (try simp only [ite_ar, implies_true, true_and, and_true, Classical.not_not])
          first | refine ⟨Rl_F7 ?_, rfl⟩ | refine Rl_F7 ?_ | refine ⟨Rl_Fr ?_ (show Fr (p_i (p_l h (A 39) 0 _) (A 22) 9 0) _ from (Fr_pi (Fr_pi (Fr_pi (Fr_pi (Fr_pi (Fr_pi (Fr_pi (Fr_pN Fr_rfl) (Nat.le_refl _)) (Nat.le_refl _)) (Nat.le_refl _)) (Nat.le_refl _)) (Nat.le_refl _)) (Nat.le_refl _)) (Nat.le_refl _))), rfl⟩ | refine Rl_Fr ?_ (show Fr (p_i (p_l h (A 39) 0 _) (A 22) 9 0) _ from (Fr_pi (Fr_pi (Fr_pi (Fr_pi (Fr_pi (Fr_pi (Fr_pi (Fr_pN Fr_rfl) (Nat.le_refl _)) (Nat.le_refl _)) (Nat.le_refl _)) (Nat.le_refl _)) (Nat.le_refl _)) (Nat.le_refl _)) (Nat.le_refl _)))
          first | refine ⟨⟨?_, ?_, ?_, ?_, ?_, ?_, ?_, ?_, ?_, ?_, ?_, ?_⟩, rfl⟩ | refine ⟨?_, ?_, ?_, ?_, ?_, ?_, ?_, ?_, ?_, ?_, ?_, ?_⟩
          · (try simp only [K_pi, K_pl])
            exact vk
          · (try simp only [Cn_pi_j22 hA, Cn_pl])
            exact vcn
          · (try simp only [Vq0_pi_j22 hA, Vq0_pl])
            exact v0
          · (try simp only [Vq1_pi_j22 hA, Vq1_pl])
            exact v1
          · (try simp only [Vq2_pi_j22 hA, Vq2_pl])
            exact v2
          · (try simp only [Vp_thr hA, Vp_pl])
            exact vp
          · (try simp only [Vl0_pi_j22 hA, Vl0_pl])
            exact vl0
          · (try simp only [Vl1_pi_j22 hA, Vl1_pl])
            exact vl1
          · (try simp only [Vlr_pi_j22 hA, Vlr_pl_j39 hA])
            exact vlr
          · (try simp only [Vsr_pi_j22 hA, Vsr_pl_j39 hA])
            exact vsr
          · (try simp only [Vc_pi_j22 hA, Vc_pl])
            exact vc
          · (try simp only [Tx_pi_j22 hA, Tx_pl])
            exact tx
        · exact absurd (show (6 : Int32) < 7 by decide) bx9
        · exact absurd (show (6 : Int32) < 8 by decide) bx9
      · have he := v2.1
        have hm := v2.2
        have hT : mT h (A 27) 2 (A 33) (A 36) = cT h (A 7) (A 12) (A 13) := he.symm
        have he2 := he
        simp only [cT, mT, Prod.mk.injEq] at he2
        obtain ⟨g1, g2, g3, g4, g5, g6, g7⟩ := he2
        replace g1 := g1.symm
        replace g2 := g2.symm
        replace g3 := g3.symm
        replace g4 := g4.symm
        replace g5 := g5.symm
        replace g6 := g6.symm
        replace g7 := g7.symm
        obtain ⟨hmk, har, hl0, hl9⟩ := qA_2 _ hm
        have hark : arok 2 (g_i h (A 7) 3) := fun _ => har
        have n1 : ¬ A 12 = A 13 := fun z => absurd ((hAe 12 13 (by decide) (by decide)).mp z) (by decide)
        rcases x_cases bx0 (x_le bx9 (by decide)) with rfl | rfl | rfl | rfl | rfl | rfl | rfl | rfl | rfl
        · skip
          simp only [↓ar_ite, ↓ar_ite2, ↓ar_ok, ↓reduceIte, o309_0, o309_1, o309_2, o309_3, o309_4, o309_7, o309_8, o309_11, o309_22, o309_23, o79_0, o79_1, o79_2, o79_5, o79_6, o79_7, o79_9, o79_12, o79_13, o79_52, o79_53, o79_56, o79_59, o203_0, o203_1, o203_2, o203_5, o203_12, o203_13, o203_14, o203_17, o203_18, o203_20, o203_27, o203_28, o203_31, o203_36, o203_38, o203_40, o203_41, o203_42, o203_43, o203_46, o203_47, o203_48, o203_51, o203_52, o203_53, o203_54, o203_55, o203_58, o203_59, o203_60, o203_63, o203_64, o203_65, o203_66, o203_67, o203_70, o203_71, o203_72, o203_75, o203_76, o203_77, o203_78, o203_79, o203_82, o203_83, o203_84, o203_87, o203_88, o203_89, o203_90, o203_91, o203_94, o203_95, o203_96, o203_99, o203_100, o203_101, o203_102, o203_103, o203_106, o203_107, o203_108, o203_111, o203_112, o203_113, o203_115, o203_116, o203_119, o203_120, o203_121, o203_124, o203_125, o203_126, o203_127, o203_128, o203_129, c_X8_isThrown_, c_X8_isQueue, c_X5_checkChoice, c_queueOf_2, mc_pi, mc_pl, mc_pN, mn_pi, mn_pl, mn_pN, mi_pi, mi_pl, mi_pN, ml_pi, ml_pl, ml_pN, mr_pi, mr_pl, mr_pN, mt_pi, mt_pl, mz_pi, mz_pl, mz_pN, mcs_0, mcs_r, Kn_v, Kn_0, mrf_some, true_and, and_true, and_false, not_false_eq_true, implies_true, and_self, Nat.reduceEqDiff, Nat.reduceLeDiff, Nat.reduceSub, Nat.reduceAdd, Nat.zero_le, Nat.le_refl, i10, i01, lt_le, Int32.reduceLT, cl0, cl1, cl2, cl3, cl4, cl5, cl6, cl7, Kc_v, Sum.inl.injEq, Option.some.injEq, Value.int.injEq, exists_eq_left', Nat.reduceLT, hAe, kc0, kc7, kc12, kc22, kc25, kc26, kc33, kc36, kc39, kn25, kn26, kr0_4, kr7_0, kr22_2, kr22_3, kr25_2, kr26_2, kz, ki36_0, ki36_1, vq3, g1, g2, g4, g5, g6, Int32.reduceLT, cl0, cl1, cl2, hta, hzt, lne, lti, vpk, Int.reduceLT, or_self]
          (try simp only [ite_ar, implies_true, true_and, and_true, Classical.not_not])
          first | refine ⟨Rl_F7 ?_, rfl⟩ | refine Rl_F7 ?_ | refine ⟨Rl_Fr ?_ (show Fr (p_i (p_l h (A 39) 0 _) (A 22) 9 0) _ from (Fr_pi (Fr_pi (Fr_pi (Fr_pi (Fr_pi (Fr_pi (Fr_pi (Fr_pN Fr_rfl) (Nat.le_refl _)) (Nat.le_refl _)) (Nat.le_refl _)) (Nat.le_refl _)) (Nat.le_refl _)) (Nat.le_refl _)) (Nat.le_refl _))), rfl⟩ | refine Rl_Fr ?_ (show Fr (p_i (p_l h (A 39) 0 _) (A 22) 9 0) _ from (Fr_pi (Fr_pi (Fr_pi (Fr_pi (Fr_pi (Fr_pi (Fr_pi (Fr_pN Fr_rfl) (Nat.le_refl _)) (Nat.le_refl _)) (Nat.le_refl _)) (Nat.le_refl _)) (Nat.le_refl _)) (Nat.le_refl _)) (Nat.le_refl _)))
          first | refine ⟨⟨?_, ?_, ?_, ?_, ?_, ?_, ?_, ?_, ?_, ?_, ?_, ?_⟩, rfl⟩ | refine ⟨?_, ?_, ?_, ?_, ?_, ?_, ?_, ?_, ?_, ?_, ?_, ?_⟩
          · (try simp only [K_pi, K_pl])
            exact vk
          · (try simp only [Cn_pi_j22 hA, Cn_pl])
            exact vcn
          · (try simp only [Vq0_pi_j22 hA, Vq0_pl])
            exact v0
          · (try simp only [Vq1_pi_j22 hA, Vq1_pl])
            exact v1
          · (try simp only [Vq2_pi_j22 hA, Vq2_pl])
            exact v2
          · (try simp only [Vp_thr hA, Vp_pl])
            exact vp
          · (try simp only [Vl0_pi_j22 hA, Vl0_pl])
            exact vl0
          · (try simp only [Vl1_pi_j22 hA, Vl1_pl])
            exact vl1
          · (try simp only [Vlr_pi_j22 hA, Vlr_pl_j39 hA])
            exact vlr
          · (try simp only [Vsr_pi_j22 hA, Vsr_pl_j39 hA])
            exact vsr
          · (try simp only [Vc_pi_j22 hA, Vc_pl])
            exact vc
          · (try simp only [Tx_pi_j22 hA, Tx_pl])
            exact tx
        · skip
          simp only [↓ar_ite, ↓ar_ite2, ↓ar_ok, ↓reduceIte, o309_0, o309_1, o309_2, o309_3, o309_4, o309_7, o309_8, o309_11, o309_22, o309_23, o79_0, o79_1, o79_2, o79_5, o79_6, o79_7, o79_9, o79_12, o79_13, o79_60, o79_61, o79_64, o79_67, o203_0, o203_1, o203_2, o203_5, o203_12, o203_13, o203_14, o203_17, o203_18, o203_20, o203_27, o203_28, o203_31, o203_36, o203_38, o203_40, o203_41, o203_42, o203_43, o203_46, o203_47, o203_48, o203_51, o203_52, o203_53, o203_54, o203_55, o203_58, o203_59, o203_60, o203_63, o203_64, o203_65, o203_66, o203_67, o203_70, o203_71, o203_72, o203_75, o203_76, o203_77, o203_78, o203_79, o203_82, o203_83, o203_84, o203_87, o203_88, o203_89, o203_90, o203_91, o203_94, o203_95, o203_96, o203_99, o203_100, o203_101, o203_102, o203_103, o203_106, o203_107, o203_108, o203_111, o203_112, o203_113, o203_115, o203_116, o203_119, o203_120, o203_121, o203_124, o203_125, o203_126, o203_127, o203_128, o203_129, c_X8_isThrown_, c_X8_isQueue, c_X5_checkChoice, c_queueOf_2, mc_pi, mc_pl, mc_pN, mn_pi, mn_pl, mn_pN, mi_pi, mi_pl, mi_pN, ml_pi, ml_pl, ml_pN, mr_pi, mr_pl, mr_pN, mt_pi, mt_pl, mz_pi, mz_pl, mz_pN, mcs_0, mcs_r, Kn_v, Kn_0, mrf_some, true_and, and_true, and_false, not_false_eq_true, implies_true, and_self, Nat.reduceEqDiff, Nat.reduceLeDiff, Nat.reduceSub, Nat.reduceAdd, Nat.zero_le, Nat.le_refl, i10, lt_le, Int32.reduceLT, cl0, cl1, cl2, cl3, cl4, cl5, cl6, cl7, Kc_v, Sum.inl.injEq, Option.some.injEq, Value.int.injEq, exists_eq_left', Nat.reduceLT, hAe, kc0, kc7, kc12, kc22, kc25, kc26, kc33, kc36, kc39, kn25, kn26, kr0_4, kr7_0, kr22_2, kr22_3, kr25_2, kr26_2, kz, ki36_0, ki36_1, vq3, g1, g2, g4, g5, g6, Int32.reduceLT, cl0, cl1, cl2, hta, hzt, lne, lti, vpk, Int.reduceLT, or_self]
          (try simp only [ite_ar, implies_true, true_and, and_true, Classical.not_not])
          first | refine ⟨Rl_F7 ?_, rfl⟩ | refine Rl_F7 ?_ | refine ⟨Rl_Fr ?_ (show Fr (p_i (p_l h (A 39) 0 _) (A 22) 9 0) _ from (Fr_pi (Fr_pi (Fr_pi (Fr_pi (Fr_pi (Fr_pi (Fr_pi (Fr_pN Fr_rfl) (Nat.le_refl _)) (Nat.le_refl _)) (Nat.le_refl _)) (Nat.le_refl _)) (Nat.le_refl _)) (Nat.le_refl _)) (Nat.le_refl _))), rfl⟩ | refine Rl_Fr ?_ (show Fr (p_i (p_l h (A 39) 0 _) (A 22) 9 0) _ from (Fr_pi (Fr_pi (Fr_pi (Fr_pi (Fr_pi (Fr_pi (Fr_pi (Fr_pN Fr_rfl) (Nat.le_refl _)) (Nat.le_refl _)) (Nat.le_refl _)) (Nat.le_refl _)) (Nat.le_refl _)) (Nat.le_refl _)) (Nat.le_refl _)))
          first | refine ⟨⟨?_, ?_, ?_, ?_, ?_, ?_, ?_, ?_, ?_, ?_, ?_, ?_⟩, rfl⟩ | refine ⟨?_, ?_, ?_, ?_, ?_, ?_, ?_, ?_, ?_, ?_, ?_, ?_⟩
          · (try simp only [K_pi, K_pl])
            exact vk
          · (try simp only [Cn_pi_j22 hA, Cn_pl])
            exact vcn
          · (try simp only [Vq0_pi_j22 hA, Vq0_pl])
            exact v0
          · (try simp only [Vq1_pi_j22 hA, Vq1_pl])
            exact v1
          · (try simp only [Vq2_pi_j22 hA, Vq2_pl])
            exact v2
          · (try simp only [Vp_thr hA, Vp_pl])
            exact vp
          · (try simp only [Vl0_pi_j22 hA, Vl0_pl])
            exact vl0
          · (try simp only [Vl1_pi_j22 hA, Vl1_pl])
            exact vl1
          · (try simp only [Vlr_pi_j22 hA, Vlr_pl_j39 hA])
            exact vlr
          · (try simp only [Vsr_pi_j22 hA, Vsr_pl_j39 hA])
            exact vsr
          · (try simp only [Vc_pi_j22 hA, Vc_pl])
            exact vc
          · (try simp only [Tx_pi_j22 hA, Tx_pl])
            exact tx
        · skip
          simp only [↓ar_ite, ↓ar_ite2, ↓ar_ok, ↓reduceIte, o309_0, o309_1, o309_2, o309_3, o309_4, o309_7, o309_8, o309_11, o309_22, o309_23, o79_0, o79_1, o79_2, o79_5, o79_6, o79_7, o79_9, o79_12, o79_13, o79_68, o79_69, o79_72, o79_75, o203_0, o203_1, o203_2, o203_5, o203_12, o203_13, o203_14, o203_17, o203_18, o203_20, o203_27, o203_28, o203_31, o203_36, o203_38, o203_40, o203_41, o203_42, o203_43, o203_46, o203_47, o203_48, o203_51, o203_52, o203_53, o203_54, o203_55, o203_58, o203_59, o203_60, o203_63, o203_64, o203_65, o203_66, o203_67, o203_70, o203_71, o203_72, o203_75, o203_76, o203_77, o203_78, o203_79, o203_82, o203_83, o203_84, o203_87, o203_88, o203_89, o203_90, o203_91, o203_94, o203_95, o203_96, o203_99, o203_100, o203_101, o203_102, o203_103, o203_106, o203_107, o203_108, o203_111, o203_112, o203_113, o203_115, o203_116, o203_119, o203_120, o203_121, o203_124, o203_125, o203_126, o203_127, o203_128, o203_129, c_X8_isThrown_, c_X8_isQueue, c_X5_checkChoice, c_queueOf_2, mc_pi, mc_pl, mc_pN, mn_pi, mn_pl, mn_pN, mi_pi, mi_pl, mi_pN, ml_pi, ml_pl, ml_pN, mr_pi, mr_pl, mr_pN, mt_pi, mt_pl, mz_pi, mz_pl, mz_pN, mcs_0, mcs_r, Kn_v, Kn_0, mrf_some, true_and, and_true, and_false, not_false_eq_true, implies_true, and_self, Nat.reduceEqDiff, Nat.reduceLeDiff, Nat.reduceSub, Nat.reduceAdd, Nat.zero_le, Nat.le_refl, i10, lt_le, Int32.reduceLT, cl0, cl1, cl2, cl3, cl4, cl5, cl6, cl7, Kc_v, Sum.inl.injEq, Option.some.injEq, Value.int.injEq, exists_eq_left', Nat.reduceLT, hAe, i20, kc0, kc7, kc13, kc22, kc25, kc26, kc33, kc36, kc39, kn25, kn26, kr0_4, kr7_1, kr22_2, kr22_3, kr25_2, kr26_2, kz, ki36_0, ki36_1, vq3, g1, g2, g4, g5, g6, Int32.reduceLT, cl0, cl1, cl2, hta, hzt, lne, lti, vpk, Int.reduceLT, or_self]
          (try simp only [ite_ar, implies_true, true_and, and_true, Classical.not_not])
          first | refine ⟨Rl_F7 ?_, rfl⟩ | refine Rl_F7 ?_ | refine ⟨Rl_Fr ?_ (show Fr (p_i (p_l h (A 39) 0 _) (A 22) 9 0) _ from (Fr_pi (Fr_pi (Fr_pi (Fr_pi (Fr_pi (Fr_pi (Fr_pi (Fr_pN Fr_rfl) (Nat.le_refl _)) (Nat.le_refl _)) (Nat.le_refl _)) (Nat.le_refl _)) (Nat.le_refl _)) (Nat.le_refl _)) (Nat.le_refl _))), rfl⟩ | refine Rl_Fr ?_ (show Fr (p_i (p_l h (A 39) 0 _) (A 22) 9 0) _ from (Fr_pi (Fr_pi (Fr_pi (Fr_pi (Fr_pi (Fr_pi (Fr_pi (Fr_pN Fr_rfl) (Nat.le_refl _)) (Nat.le_refl _)) (Nat.le_refl _)) (Nat.le_refl _)) (Nat.le_refl _)) (Nat.le_refl _)) (Nat.le_refl _)))
          first | refine ⟨⟨?_, ?_, ?_, ?_, ?_, ?_, ?_, ?_, ?_, ?_, ?_, ?_⟩, rfl⟩ | refine ⟨?_, ?_, ?_, ?_, ?_, ?_, ?_, ?_, ?_, ?_, ?_, ?_⟩
          · (try simp only [K_pi, K_pl])
            exact vk
          · (try simp only [Cn_pi_j22 hA, Cn_pl])
            exact vcn
          · (try simp only [Vq0_pi_j22 hA, Vq0_pl])
            exact v0
          · (try simp only [Vq1_pi_j22 hA, Vq1_pl])
            exact v1
          · (try simp only [Vq2_pi_j22 hA, Vq2_pl])
            exact v2
          · (try simp only [Vp_thr hA, Vp_pl])
            exact vp
          · (try simp only [Vl0_pi_j22 hA, Vl0_pl])
            exact vl0
          · (try simp only [Vl1_pi_j22 hA, Vl1_pl])
            exact vl1
          · (try simp only [Vlr_pi_j22 hA, Vlr_pl_j39 hA])
            exact vlr
          · (try simp only [Vsr_pi_j22 hA, Vsr_pl_j39 hA])
            exact vsr
          · (try simp only [Vc_pi_j22 hA, Vc_pl])
            exact vc
          · (try simp only [Tx_pi_j22 hA, Tx_pl])
            exact tx
        · skip
          simp only [↓ar_ite, ↓ar_ite2, ↓ar_ok, ↓reduceIte, o309_0, o309_1, o309_2, o309_3, o309_4, o309_7, o309_8, o309_11, o309_22, o309_23, o79_0, o79_1, o79_2, o79_5, o79_6, o79_7, o79_9, o79_12, o79_13, o79_76, o79_77, o79_80, o79_83, o203_0, o203_1, o203_2, o203_5, o203_12, o203_13, o203_14, o203_17, o203_18, o203_20, o203_27, o203_28, o203_31, o203_36, o203_38, o203_40, o203_41, o203_42, o203_43, o203_46, o203_47, o203_48, o203_51, o203_52, o203_53, o203_54, o203_55, o203_58, o203_59, o203_60, o203_63, o203_64, o203_65, o203_66, o203_67, o203_70, o203_71, o203_72, o203_75, o203_76, o203_77, o203_78, o203_79, o203_82, o203_83, o203_84, o203_87, o203_88, o203_89, o203_90, o203_91, o203_94, o203_95, o203_96, o203_99, o203_100, o203_101, o203_102, o203_103, o203_106, o203_107, o203_108, o203_111, o203_112, o203_113, o203_115, o203_116, o203_119, o203_120, o203_121, o203_124, o203_125, o203_126, o203_127, o203_128, o203_129, c_X8_isThrown_, c_X8_isQueue, c_X5_checkChoice, c_queueOf_2, mc_pi, mc_pl, mc_pN, mn_pi, mn_pl, mn_pN, mi_pi, mi_pl, mi_pN, ml_pi, ml_pl, ml_pN, mr_pi, mr_pl, mr_pN, mt_pi, mt_pl, mz_pi, mz_pl, mz_pN, mcs_0, mcs_r, Kn_v, Kn_0, mrf_some, true_and, and_true, and_false, not_false_eq_true, implies_true, and_self, Nat.reduceEqDiff, Nat.reduceLeDiff, Nat.reduceSub, Nat.reduceAdd, Nat.zero_le, Nat.le_refl, i10, lt_le, Int32.reduceLT, cl0, cl1, cl2, cl3, cl4, cl5, cl6, cl7, Kc_v, Sum.inl.injEq, Option.some.injEq, Value.int.injEq, exists_eq_left', Nat.reduceLT, hAe, i30, kc0, kc7, kc13, kc22, kc25, kc26, kc33, kc36, kc39, kn25, kn26, kr0_4, kr7_1, kr22_2, kr22_3, kr25_2, kr26_2, kz, ki36_0, ki36_1, vq3, g1, g2, g4, g5, g6, Int32.reduceLT, cl0, cl1, cl2, hta, hzt, lne, lti, vpk, Int.reduceLT, or_self]
          (try simp only [ite_ar, implies_true, true_and, and_true, Classical.not_not])
          first | refine ⟨Rl_F7 ?_, rfl⟩ | refine Rl_F7 ?_ | refine ⟨Rl_Fr ?_ (show Fr (p_i (p_l h (A 39) 0 _) (A 22) 9 0) _ from (Fr_pi (Fr_pi (Fr_pi (Fr_pi (Fr_pi (Fr_pi (Fr_pi (Fr_pN Fr_rfl) (Nat.le_refl _)) (Nat.le_refl _)) (Nat.le_refl _)) (Nat.le_refl _)) (Nat.le_refl _)) (Nat.le_refl _)) (Nat.le_refl _))), rfl⟩ | refine Rl_Fr ?_ (show Fr (p_i (p_l h (A 39) 0 _) (A 22) 9 0) _ from (Fr_pi (Fr_pi (Fr_pi (Fr_pi (Fr_pi (Fr_pi (Fr_pi (Fr_pN Fr_rfl) (Nat.le_refl _)) (Nat.le_refl _)) (Nat.le_refl _)) (Nat.le_refl _)) (Nat.le_refl _)) (Nat.le_refl _)) (Nat.le_refl _)))
          first | refine ⟨⟨?_, ?_, ?_, ?_, ?_, ?_, ?_, ?_, ?_, ?_, ?_, ?_⟩, rfl⟩ | refine ⟨?_, ?_, ?_, ?_, ?_, ?_, ?_, ?_, ?_, ?_, ?_, ?_⟩
          · (try simp only [K_pi, K_pl])
            exact vk
          · (try simp only [Cn_pi_j22 hA, Cn_pl])
            exact vcn
          · (try simp only [Vq0_pi_j22 hA, Vq0_pl])
            exact v0
          · (try simp only [Vq1_pi_j22 hA, Vq1_pl])
            exact v1
          · (try simp only [Vq2_pi_j22 hA, Vq2_pl])
            exact v2
          · (try simp only [Vp_thr hA, Vp_pl])
            exact vp
          · (try simp only [Vl0_pi_j22 hA, Vl0_pl])
            exact vl0
          · (try simp only [Vl1_pi_j22 hA, Vl1_pl])
            exact vl1
          · (try simp only [Vlr_pi_j22 hA, Vlr_pl_j39 hA])
            exact vlr
          · (try simp only [Vsr_pi_j22 hA, Vsr_pl_j39 hA])
            exact vsr
          · (try simp only [Vc_pi_j22 hA, Vc_pl])
            exact vc
          · (try simp only [Tx_pi_j22 hA, Tx_pl])
            exact tx
        · skip
          simp only [↓ar_ite, ↓ar_ite2, ↓ar_ok, ↓reduceIte, o309_0, o309_1, o309_2, o309_3, o309_4, o309_7, o309_8, o309_11, o309_22, o309_23, o79_0, o79_1, o79_2, o79_5, o79_6, o79_7, o79_9, o79_12, o79_13, o79_84, o79_85, o79_88, o79_91, o203_0, o203_1, o203_2, o203_5, o203_12, o203_13, o203_14, o203_17, o203_18, o203_20, o203_27, o203_28, o203_31, o203_36, o203_38, o203_40, o203_41, o203_42, o203_43, o203_46, o203_47, o203_48, o203_51, o203_52, o203_53, o203_54, o203_55, o203_58, o203_59, o203_60, o203_63, o203_64, o203_65, o203_66, o203_67, o203_70, o203_71, o203_72, o203_75, o203_76, o203_77, o203_78, o203_79, o203_82, o203_83, o203_84, o203_87, o203_88, o203_89, o203_90, o203_91, o203_94, o203_95, o203_96, o203_99, o203_100, o203_101, o203_102, o203_103, o203_106, o203_107, o203_108, o203_111, o203_112, o203_113, o203_115, o203_116, o203_119, o203_120, o203_121, o203_124, o203_125, o203_126, o203_127, o203_128, o203_129, c_X8_isThrown_, c_X8_isQueue, c_X5_checkChoice, c_queueOf_2, mc_pi, mc_pl, mc_pN, mn_pi, mn_pl, mn_pN, mi_pi, mi_pl, mi_pN, ml_pi, ml_pl, ml_pN, mr_pi, mr_pl, mr_pN, mt_pi, mt_pl, mz_pi, mz_pl, mz_pN, mcs_0, mcs_r, Kn_v, Kn_0, mrf_some, true_and, and_true, and_false, not_false_eq_true, implies_true, and_self, Nat.reduceEqDiff, Nat.reduceLeDiff, Nat.reduceSub, Nat.reduceAdd, Nat.zero_le, Nat.le_refl, i10, lt_le, Int32.reduceLT, cl0, cl1, cl2, cl3, cl4, cl5, cl6, cl7, Kc_v, Sum.inl.injEq, Option.some.injEq, Value.int.injEq, exists_eq_left', Nat.reduceLT, hAe, kc0, kc7, kc13, kc22, kc25, kc26, kc33, kc36, kc39, kn25, kn26, kr0_4, kr7_1, kr22_2, kr22_3, kr25_2, kr26_2, kz, ki36_0, ki36_1, vq3, g1, g2, g4, g5, g6, Int32.reduceLT, cl0, cl1, cl2, hta, hzt, lne, lti, vpk, Int.reduceLT, or_self]
          (try simp only [ite_ar, implies_true, true_and, and_true, Classical.not_not])
          first | refine ⟨Rl_F7 ?_, rfl⟩ | refine Rl_F7 ?_ | refine ⟨Rl_Fr ?_ (show Fr (p_i (p_l h (A 39) 0 _) (A 22) 9 0) _ from (Fr_pi (Fr_pi (Fr_pi (Fr_pi (Fr_pi (Fr_pi (Fr_pi (Fr_pN Fr_rfl) (Nat.le_refl _)) (Nat.le_refl _)) (Nat.le_refl _)) (Nat.le_refl _)) (Nat.le_refl _)) (Nat.le_refl _)) (Nat.le_refl _))), rfl⟩ | refine Rl_Fr ?_ (show Fr (p_i (p_l h (A 39) 0 _) (A 22) 9 0) _ from (Fr_pi (Fr_pi (Fr_pi (Fr_pi (Fr_pi (Fr_pi (Fr_pi (Fr_pN Fr_rfl) (Nat.le_refl _)) (Nat.le_refl _)) (Nat.le_refl _)) (Nat.le_refl _)) (Nat.le_refl _)) (Nat.le_refl _)) (Nat.le_refl _)))
          first | refine ⟨⟨?_, ?_, ?_, ?_, ?_, ?_, ?_, ?_, ?_, ?_, ?_, ?_⟩, rfl⟩ | refine ⟨?_, ?_, ?_, ?_, ?_, ?_, ?_, ?_, ?_, ?_, ?_, ?_⟩
          · (try simp only [K_pi, K_pl])
            exact vk
          · (try simp only [Cn_pi_j22 hA, Cn_pl])
            exact vcn
          · (try simp only [Vq0_pi_j22 hA, Vq0_pl])
            exact v0
          · (try simp only [Vq1_pi_j22 hA, Vq1_pl])
            exact v1
          · (try simp only [Vq2_pi_j22 hA, Vq2_pl])
            exact v2
          · (try simp only [Vp_thr hA, Vp_pl])
            exact vp
          · (try simp only [Vl0_pi_j22 hA, Vl0_pl])
            exact vl0
          · (try simp only [Vl1_pi_j22 hA, Vl1_pl])
            exact vl1
          · (try simp only [Vlr_pi_j22 hA, Vlr_pl_j39 hA])
            exact vlr
          · (try simp only [Vsr_pi_j22 hA, Vsr_pl_j39 hA])
            exact vsr
          · (try simp only [Vc_pi_j22 hA, Vc_pl])
            exact vc
          · (try simp only [Tx_pi_j22 hA, Tx_pl])
            exact tx
        · skip
          simp only [↓ar_ite, ↓ar_ite2, ↓ar_ok, ↓reduceIte, o309_0, o309_1, o309_2, o309_3, o309_4, o309_7, o309_8, o309_11, o309_22, o309_23, o79_0, o79_1, o79_2, o79_5, o79_6, o79_7, o79_9, o79_12, o79_13, o79_92, o79_93, o79_96, o79_99, o203_0, o203_1, o203_2, o203_5, o203_12, o203_13, o203_14, o203_17, o203_18, o203_20, o203_27, o203_28, o203_31, o203_36, o203_38, o203_40, o203_41, o203_42, o203_43, o203_46, o203_47, o203_48, o203_51, o203_52, o203_53, o203_54, o203_55, o203_58, o203_59, o203_60, o203_63, o203_64, o203_65, o203_66, o203_67, o203_70, o203_71, o203_72, o203_75, o203_76, o203_77, o203_78, o203_79, o203_82, o203_83, o203_84, o203_87, o203_88, o203_89, o203_90, o203_91, o203_94, o203_95, o203_96, o203_99, o203_100, o203_101, o203_102, o203_103, o203_106, o203_107, o203_108, o203_111, o203_112, o203_113, o203_115, o203_116, o203_119, o203_120, o203_121, o203_124, o203_125, o203_126, o203_127, o203_128, o203_129, c_X8_isThrown_, c_X8_isQueue, c_X5_checkChoice, c_queueOf_2, mc_pi, mc_pl, mc_pN, mn_pi, mn_pl, mn_pN, mi_pi, mi_pl, mi_pN, ml_pi, ml_pl, ml_pN, mr_pi, mr_pl, mr_pN, mt_pi, mt_pl, mz_pi, mz_pl, mz_pN, mcs_0, mcs_r, Kn_v, Kn_0, mrf_some, true_and, and_true, and_false, not_false_eq_true, implies_true, and_self, Nat.reduceEqDiff, Nat.reduceLeDiff, Nat.reduceSub, Nat.reduceAdd, Nat.zero_le, Nat.le_refl, i10, lt_le, Int32.reduceLT, cl0, cl1, cl2, cl3, cl4, cl5, cl6, cl7, Kc_v, Sum.inl.injEq, Option.some.injEq, Value.int.injEq, exists_eq_left', Nat.reduceLT, hAe, kc0, kc7, kc12, kc22, kc25, kc26, kc33, kc36, kc39, kn25, kn26, kr0_4, kr7_0, kr22_2, kr22_3, kr25_2, kr26_2, kz, ki12_2, ki36_0, ki36_1, vq3, g1, g2, g4, g5, g6, Int32.reduceLT, cl0, cl1, cl2, hta, hzt, lne, lti, vpk, Int.reduceLT, or_self]
          (try simp only [ite_ar, implies_true, true_and, and_true, Classical.not_not])
          first | refine ⟨Rl_F7 ?_, rfl⟩ | refine Rl_F7 ?_ | refine ⟨Rl_Fr ?_ (show Fr (p_i (p_l h (A 39) 0 _) (A 22) 9 0) _ from (Fr_pi (Fr_pi (Fr_pi (Fr_pi (Fr_pi (Fr_pi (Fr_pi (Fr_pN Fr_rfl) (Nat.le_refl _)) (Nat.le_refl _)) (Nat.le_refl _)) (Nat.le_refl _)) (Nat.le_refl _)) (Nat.le_refl _)) (Nat.le_refl _))), rfl⟩ | refine Rl_Fr ?_ (show Fr (p_i (p_l h (A 39) 0 _) (A 22) 9 0) _ from (Fr_pi (Fr_pi (Fr_pi (Fr_pi (Fr_pi (Fr_pi (Fr_pi (Fr_pN Fr_rfl) (Nat.le_refl _)) (Nat.le_refl _)) (Nat.le_refl _)) (Nat.le_refl _)) (Nat.le_refl _)) (Nat.le_refl _)) (Nat.le_refl _)))
          first | refine ⟨⟨?_, ?_, ?_, ?_, ?_, ?_, ?_, ?_, ?_, ?_, ?_, ?_⟩, rfl⟩ | refine ⟨?_, ?_, ?_, ?_, ?_, ?_, ?_, ?_, ?_, ?_, ?_, ?_⟩
          · (try simp only [K_pi, K_pl])
            exact vk
          · (try simp only [Cn_pi_j22 hA, Cn_pl])
            exact vcn
          · (try simp only [Vq0_pi_j22 hA, Vq0_pl])
            exact v0
          · (try simp only [Vq1_pi_j22 hA, Vq1_pl])
            exact v1
          · (try simp only [Vq2_pi_j22 hA, Vq2_pl])
            exact v2
          · (try simp only [Vp_thr hA, Vp_pl])
            exact vp
          · (try simp only [Vl0_pi_j22 hA, Vl0_pl])
            exact vl0
          · (try simp only [Vl1_pi_j22 hA, Vl1_pl])
            exact vl1
          · (try simp only [Vlr_pi_j22 hA, Vlr_pl_j39 hA])
            exact vlr
          · (try simp only [Vsr_pi_j22 hA, Vsr_pl_j39 hA])
            exact vsr
          · (try simp only [Vc_pi_j22 hA, Vc_pl])
            exact vc
          · (try simp only [Tx_pi_j22 hA, Tx_pl])
            exact tx
        · skip
          simp only [↓ar_ite, ↓ar_ite2, ↓ar_ok, ↓reduceIte, o309_0, o309_1, o309_2, o309_3, o309_4, o309_7, o309_8, o309_11, o309_22, o309_23, o79_0, o79_1, o79_2, o79_5, o79_6, o79_7, o79_9, o79_12, o79_13, o79_100, o79_101, o79_104, o79_107, o203_0, o203_1, o203_2, o203_5, o203_12, o203_13, o203_14, o203_17, o203_18, o203_20, o203_27, o203_28, o203_31, o203_36, o203_38, o203_40, o203_41, o203_42, o203_43, o203_46, o203_47, o203_48, o203_51, o203_52, o203_53, o203_54, o203_55, o203_58, o203_59, o203_60, o203_63, o203_64, o203_65, o203_66, o203_67, o203_70, o203_71, o203_72, o203_75, o203_76, o203_77, o203_78, o203_79, o203_82, o203_83, o203_84, o203_87, o203_88, o203_89, o203_90, o203_91, o203_94, o203_95, o203_96, o203_99, o203_100, o203_101, o203_102, o203_103, o203_106, o203_107, o203_108, o203_111, o203_112, o203_113, o203_115, o203_116, o203_119, o203_120, o203_121, o203_124, o203_125, o203_126, o203_127, o203_128, o203_129, c_X8_isThrown_, c_X8_isQueue, c_X5_checkChoice, c_queueOf_2, mc_pi, mc_pl, mc_pN, mn_pi, mn_pl, mn_pN, mi_pi, mi_pl, mi_pN, ml_pi, ml_pl, ml_pN, mr_pi, mr_pl, mr_pN, mt_pi, mt_pl, mz_pi, mz_pl, mz_pN, mcs_0, mcs_r, Kn_v, Kn_0, mrf_some, true_and, and_true, or_true, not_false_eq_true, implies_true, and_self, Nat.reduceEqDiff, Nat.reduceLeDiff, Nat.reduceSub, Nat.reduceAdd, Nat.zero_le, Nat.le_refl, i10, lt_le, Int32.reduceLT, cl0, cl1, cl2, cl3, cl4, cl5, cl6, cl7, Kc_v, Sum.inl.injEq, Option.some.injEq, Value.int.injEq, exists_eq_left', Nat.reduceLT, hAe, kc0, kc7, kc12, kc22, kc25, kc26, kc33, kc36, kc39, kn25, kn26, kr0_4, kr7_0, kr22_2, kr22_3, kr25_2, kr26_2, kz, ki12_1, ki36_0, ki36_1, vq3, g1, g2, g4, g5, g6, Int32.reduceLT, cl0, cl1, cl2, hta, hzt, lne, lti, vpk, Int.reduceLT, or_self]
          (try simp only [ite_ar, implies_true, true_and, and_true, Classical.not_not])
          first | refine ⟨Rl_F7 ?_, rfl⟩ | refine Rl_F7 ?_ | refine ⟨Rl_Fr ?_ (show Fr (p_i (p_l h (A 39) 0 _) (A 22) 9 0) _ from (Fr_pi (Fr_pi (Fr_pi (Fr_pi (Fr_pi (Fr_pi (Fr_pi (Fr_pN Fr_rfl) (Nat.le_refl _)) (Nat.le_refl _)) (Nat.le_refl _)) (Nat.le_refl _)) (Nat.le_refl _)) (Nat.le_refl _)) (Nat.le_refl _))), rfl⟩ | refine Rl_Fr ?_ (show Fr (p_i (p_l h (A 39) 0 _) (A 22) 9 0) _ from (Fr_pi (Fr_pi (Fr_pi (Fr_pi (Fr_pi (Fr_pi (Fr_pi (Fr_pN Fr_rfl) (Nat.le_refl _)) (Nat.le_refl _)) (Nat.le_refl _)) (Nat.le_refl _)) (Nat.le_refl _)) (Nat.le_refl _)) (Nat.le_refl _)))
          first | refine ⟨⟨?_, ?_, ?_, ?_, ?_, ?_, ?_, ?_, ?_, ?_, ?_, ?_⟩, rfl⟩ | refine ⟨?_, ?_, ?_, ?_, ?_, ?_, ?_, ?_, ?_, ?_, ?_, ?_⟩
          · (try simp only [K_pi, K_pl])
            exact vk
          · (try simp only [Cn_pi_j22 hA, Cn_pl])
            exact vcn
          · (try simp only [Vq0_pi_j22 hA, Vq0_pl])
            exact v0
          · (try simp only [Vq1_pi_j22 hA, Vq1_pl])
            exact v1
          · (try simp only [Vq2_pi_j22 hA, Vq2_pl])
            exact v2
          · (try simp only [Vp_thr hA, Vp_pl])
            exact vp
          · (try simp only [Vl0_pi_j22 hA, Vl0_pl])
            exact vl0
          · (try simp only [Vl1_pi_j22 hA, Vl1_pl])
            exact vl1
          · (try simp only [Vlr_pi_j22 hA, Vlr_pl_j39 hA])
            exact vlr
          · (try simp only [Vsr_pi_j22 hA, Vsr_pl_j39 hA])
            exact vsr
          · (try simp only [Vc_pi_j22 hA, Vc_pl])
            exact vc
          · (try simp only [Tx_pi_j22 hA, Tx_pl])
            exact tx
        · exact absurd (show (6 : Int32) < 7 by decide) bx9
        · exact absurd (show (6 : Int32) < 8 by decide) bx9


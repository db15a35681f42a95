theorem hx_319_1 {l rest : List Value} {bc bs : Nat} {Q : MR → MH → Prop} {h : MH} : Kc Ok 319 4 7 l rest bc bs Q (.inr 1) h ↔ ∀ q : Nat, Ok 319 14 l [.ref q] h bc bs Q := Kc_x (by decide +kernel) (by decide +kernel)
theorem hx_319_2 {l rest : List Value} {bc bs : Nat} {Q : MR → MH → Prop} {h : MH} : Kc Ok 319 4 7 l rest bc bs Q (.inr 2) h ↔ ∀ q : Nat, Ok 319 18 l [.ref q] h bc bs Q := Kc_x (by decide +kernel) (by decide +kernel)
set_option maxHeartbeats 8000000 in
theorem op_lensMake {A : Nat → Nat} {h : MH} (R : Rl A h) {e x : Int32} : Ok 319 0 [.ref (A 0), .int e, .int x, .ref (A 39), mk0] [] h 7 47 (fun r h1 => ∃ k : Int32, r = .inl (some (.int k)) ∧ g_c h1 (A 22) = 9 ∧ Ok 225 0 [.ref (A 22), .int e, .int x, mk0] [] h1 4 24 (fun r2 h2 => ∃ b : Int32, r2 = .inl (some (.int b)) ∧ RlX A h2 ∧ g_i h2 (A 22) 9 = k ∧ (k = 0 → g_l h2 (A 39) 0 = b.toInt64))) := by
  obtain ⟨vk, vcn, v0, v1, v2, vp, vl0, vl1, vlr, vsr, vc, tx⟩ := R
  have vk0 := vk
  have vcn0 := vcn
  (refine K_el vk0 ?_; intros hA kc0 kc1 kc2 kc3 kc4 kc5 kc6 kc7 kc8 kc9 kc10 kc11 kc12 kc13 kc14 kc15 kc16 kc17 kc18 kc19 kc20 kc21 kc22 kc23 kc24 kc25 kc26 kc27 kc28 kc29 kc30 kc31 kc32 kc33 kc34 kc35 kc36 kc37 kc38 kc39 kz kt kn3 kn4 kn18 kn21 kn23 kn24 kn25 kn26 kn27 kn29 kn30 kr0_0 kr0_1 kr0_2 kr0_3 kr0_4 kr0_5 kr0_7 kr0_8 kr0_9 kr0_10 kr1_0 kr2_0 kr5_0 kr5_1 kr6_0 kr6_1 kr7_0 kr7_1 kr8_0 kr9_0 kr10_0 kr11_0 kr12_0 kr13_0 kr14_0 kr15_0 kr16_0 kr17_0 kr19_0 kr19_1 kr22_0 kr22_1 kr22_2 kr22_3 kr22_4 kr22_5 kr22_7 kr22_8 kr25_0 kr25_1 kr25_2 kr26_0 kr26_1 kr26_2 kr29_0 kr29_1)
  (refine Cn_el vcn0 ?_; intros ki5_2 ki6_2 ki7_2 ki8_1 ki8_2 ki8_3 ki9_1 ki9_2 ki9_3 ki10_1 ki10_2 ki10_3 ki11_1 ki11_2 ki11_3 ki12_1 ki12_2 ki12_3 ki13_1 ki13_2 ki13_3 ki14_1 ki14_2 ki14_3 ki28_0 ki28_1 ki31_0 ki31_1 ki32_0 ki32_1 ki33_0 ki33_1 ki34_0 ki34_1 ki35_0 ki35_1 ki36_0 ki36_1)
  have hAe : ∀ i j, i < 40 → j < 40 → (A i = A j ↔ i = j) := hA
  have hta : ∀ i, i < 40 → (A i = g_t h) = False := fun i hi => eq_false (fun z => by have := kt i hi; omega)
  have hta2 : ∀ i, i < 40 → (g_t h = A i) = False := fun i hi => eq_false (fun z => by have := kt i hi; omega)
  have htb : ∀ i, i < 40 → (A i = g_t h + 1) = False := fun i hi => eq_false (fun z => by have := kt i hi; omega)
  have htb2 : ∀ i, i < 40 → (g_t h + 1 = A i) = False := fun i hi => eq_false (fun z => by have := kt i hi; omega)
  have hzt : g_z h ≤ g_t h := Nat.le_trans (kz 0 (by decide)) (Nat.le_of_lt (kt 0 (by decide)))
  have hzt1 : g_z h ≤ g_t h + 1 := Nat.le_trans hzt (Nat.le_succ _)
  have hn1 : (g_t h = g_t h + 1) = False := eq_false (fun z => by omega)
  have hn2 : (g_t h + 1 = g_t h) = False := eq_false (fun z => by omega)
  have nta : nt A (g_t h) := fun j hj z => by have := kt j hj; omega
  have ntb : nt A (g_t h + 1) := fun j hj z => by have := kt j hj; omega
  by_cases bx0 : x < 0 <;> by_cases bx9 : 3 < x
  · exact absurd (Int32.lt_trans bx9 bx0) (by decide)
  · by_cases be : e < 0 ∨ ¬ e < 2
    · have be2 := e_bad be
      simp only [↓ar_ite, ↓ar_ite2, ↓reduceIte, o319_0, o319_1, o319_2, o319_3, o319_4, o319_14, o319_16, o319_17, o94_0, o94_1, o94_2, o225_0, o225_1, o225_2, o225_5, o225_8, o225_9, o225_13, o225_14, o225_22, o225_23, o225_27, o225_30, o225_33, o225_34, hx_319_1, c_X8_isThrown_, c_X8_isLens, c_lensOf_bad, mc_pT, mi_pi, ml_pi, ml_pT, mz_pT, mcs_0, mcs_r, Kn_v, Kn_x, true_and, and_true, false_implies, forall_const, and_self, Nat.reduceLeDiff, Nat.reduceSub, Nat.reduceAdd, Nat.zero_le, Nat.le_refl, i10, Sum.inl.injEq, Option.some.injEq, Value.int.injEq, exists_eq_left', Nat.reduceLT, kc0, kc22, kz, be, be2, bx0]
      (try simp only [ite_ar, implies_true, true_and, and_true, Classical.not_not])
      intro t ht
      first | refine ⟨RlX_of ⟨?_, ?_, ?_, ?_, ?_, ?_, ?_, ?_, ?_, ?_, ?_, ?_⟩, rfl⟩ | refine RlX_of ⟨?_, ?_, ?_, ?_, ?_, ?_, ?_, ?_, ?_, ?_, ?_, ?_⟩
      · (try simp only [K_pi])
        exact K_pT ht vk
      · (try simp only [Cn_pi_j22 hA, Cn_pT])
        exact vcn
      · (try simp only [Vq0_pi_j22 hA, Vq0_pT])
        exact v0
      · (try simp only [Vq1_pi_j22 hA, Vq1_pT])
        exact v1
      · (try simp only [Vq2_pi_j22 hA, Vq2_pT])
        exact v2
      · (try simp only [Vp_thr hA, Vp_pT])
        exact vp
      · (try simp only [Vl0_pi_j22 hA, Vl0_pT])
        exact vl0
      · (try simp only [Vl1_pi_j22 hA, Vl1_pT])
        exact vl1
      · (try simp only [Vlr_pi_j22 hA, Vlr_pT])
        exact vlr
      · (try simp only [Vsr_pi_j22 hA, Vsr_pT])
        exact vsr
      · (try simp only [Vc_pi_j22 hA, Vc_pT])
        exact vc
      · (try simp only [Tx_pi_j22 hA])
        exact Tx_pT ht tx
    · have y1 : ¬ e < 0 := fun z => be (Or.inl z)
      have y2 : e < 2 := Classical.byContradiction fun z => be (Or.inr z)
      rcases e_cases y1 y2 with rfl | rfl
      · skip
        simp only [↓ar_ite, ↓ar_ite2, ↓reduceIte, o319_0, o319_1, o319_2, o319_3, o319_4, o319_18, o319_20, o319_21, o94_0, o94_1, o94_2, o94_5, o94_6, o94_7, o94_8, o225_0, o225_1, o225_2, o225_5, o225_12, o225_13, o225_14, o225_22, o225_23, o225_27, o225_30, o225_33, o225_34, hx_319_2, c_X8_isThrown_, c_X8_isLens, c_X5_checkChoice, c_lensOf_0, mc_pT, mi_pi, ml_pi, ml_pT, mz_pT, mcs_0, mcs_r, Kn_v, Kn_x, true_and, and_true, and_false, or_false, false_implies, forall_const, and_self, Nat.reduceLeDiff, Nat.reduceSub, Nat.reduceAdd, Nat.zero_le, Nat.le_refl, i10, i01, Sum.inl.injEq, Option.some.injEq, Value.int.injEq, exists_eq_left', Nat.reduceLT, i20, kc0, kc22, kr0_7, kz, bx0, bx9]
        (try simp only [ite_ar, implies_true, true_and, and_true, Classical.not_not])
        intro t ht
        first | refine ⟨RlX_of ⟨?_, ?_, ?_, ?_, ?_, ?_, ?_, ?_, ?_, ?_, ?_, ?_⟩, rfl⟩ | refine RlX_of ⟨?_, ?_, ?_, ?_, ?_, ?_, ?_, ?_, ?_, ?_, ?_, ?_⟩
        · (try simp only [K_pi])
          exact K_pT ht vk
        · (try simp only [Cn_pi_j22 hA, Cn_pT])
          exact vcn
        · (try simp only [Vq0_pi_j22 hA, Vq0_pT])
          exact v0
        · (try simp only [Vq1_pi_j22 hA, Vq1_pT])
          exact v1
        · (try simp only [Vq2_pi_j22 hA, Vq2_pT])
          exact v2
        · (try simp only [Vp_thr hA, Vp_pT])
          exact vp
        · (try simp only [Vl0_pi_j22 hA, Vl0_pT])
          exact vl0
        · (try simp only [Vl1_pi_j22 hA, Vl1_pT])
          exact vl1
        · (try simp only [Vlr_pi_j22 hA, Vlr_pT])
          exact vlr
        · (try simp only [Vsr_pi_j22 hA, Vsr_pT])
          exact vsr
        · (try simp only [Vc_pi_j22 hA, Vc_pT])
          exact vc
        · (try simp only [Tx_pi_j22 hA])
          exact Tx_pT ht tx
      · skip
        simp only [↓ar_ite, ↓ar_ite2, ↓reduceIte, o319_0, o319_1, o319_2, o319_3, o319_4, o319_18, o319_20, o319_21, o94_0, o94_1, o94_2, o94_5, o94_6, o94_7, o94_8, o225_0, o225_1, o225_2, o225_5, o225_12, o225_13, o225_14, o225_22, o225_23, o225_27, o225_30, o225_33, o225_34, hx_319_2, c_X8_isThrown_, c_X8_isLens, c_X5_checkChoice, c_lensOf_1, mc_pT, mi_pi, ml_pi, ml_pT, mz_pT, mcs_0, mcs_r, Kn_v, Kn_x, true_and, and_true, and_false, or_true, or_false, false_implies, forall_const, and_self, Nat.reduceLeDiff, Nat.reduceSub, Nat.reduceAdd, Nat.zero_le, Nat.le_refl, i10, Sum.inl.injEq, Option.some.injEq, Value.int.injEq, exists_eq_left', Nat.reduceLT, i20, kc0, kc22, kr0_8, kz, bx0, bx9]
        (try simp only [ite_ar, implies_true, true_and, and_true, Classical.not_not])
        intro t ht
        first | refine ⟨RlX_of ⟨?_, ?_, ?_, ?_, ?_, ?_, ?_, ?_, ?_, ?_, ?_, ?_⟩, rfl⟩ | refine RlX_of ⟨?_, ?_, ?_, ?_, ?_, ?_, ?_, ?_, ?_, ?_, ?_, ?_⟩
        · (try simp only [K_pi])
          exact K_pT ht vk
        · (try simp only [Cn_pi_j22 hA, Cn_pT])
          exact vcn
        · (try simp only [Vq0_pi_j22 hA, Vq0_pT])
          exact v0
        · (try simp only [Vq1_pi_j22 hA, Vq1_pT])
          exact v1
        · (try simp only [Vq2_pi_j22 hA, Vq2_pT])
          exact v2
        · (try simp only [Vp_thr hA, Vp_pT])
          exact vp
        · (try simp only [Vl0_pi_j22 hA, Vl0_pT])
          exact vl0
        · (try simp only [Vl1_pi_j22 hA, Vl1_pT])
          exact vl1
        · (try simp only [Vlr_pi_j22 hA, Vlr_pT])
          exact vlr
        · (try simp only [Vsr_pi_j22 hA, Vsr_pT])
          exact vsr
        · (try simp only [Vc_pi_j22 hA, Vc_pT])
          exact vc
        · (try simp only [Tx_pi_j22 hA])
          exact Tx_pT ht tx
  · by_cases be : e < 0 ∨ ¬ e < 2
    · have be2 := e_bad be
      simp only [↓ar_ite, ↓ar_ite2, ↓reduceIte, o319_0, o319_1, o319_2, o319_3, o319_4, o319_14, o319_16, o319_17, o94_0, o94_1, o94_2, o225_0, o225_1, o225_2, o225_5, o225_8, o225_9, o225_13, o225_14, o225_17, o225_18, o225_19, o225_22, o225_23, o225_27, o225_30, o225_33, o225_34, hx_319_1, c_X8_isThrown_, c_X8_isLens, c_lensOf_bad, mc_pT, mi_pi, ml_pi, ml_pT, mz_pT, mcs_0, mcs_r, Kn_v, Kn_x, true_and, and_true, not_true_eq_false, false_implies, forall_const, and_self, Nat.reduceLeDiff, Nat.reduceSub, Nat.reduceAdd, Nat.zero_le, Nat.le_refl, i10, lt_le, Sum.inl.injEq, Option.some.injEq, Value.int.injEq, exists_eq_left', Nat.reduceLT, kc0, kc22, kz, be, be2, bx0, bx9]
      (try simp only [ite_ar, implies_true, true_and, and_true, Classical.not_not])
      intro t ht
      first | refine ⟨RlX_of ⟨?_, ?_, ?_, ?_, ?_, ?_, ?_, ?_, ?_, ?_, ?_, ?_⟩, rfl⟩ | refine RlX_of ⟨?_, ?_, ?_, ?_, ?_, ?_, ?_, ?_, ?_, ?_, ?_, ?_⟩
      · (try simp only [K_pi])
        exact K_pT ht vk
      · (try simp only [Cn_pi_j22 hA, Cn_pT])
        exact vcn
      · (try simp only [Vq0_pi_j22 hA, Vq0_pT])
        exact v0
      · (try simp only [Vq1_pi_j22 hA, Vq1_pT])
        exact v1
      · (try simp only [Vq2_pi_j22 hA, Vq2_pT])
        exact v2
      · (try simp only [Vp_thr hA, Vp_pT])
        exact vp
      · (try simp only [Vl0_pi_j22 hA, Vl0_pT])
        exact vl0
      · (try simp only [Vl1_pi_j22 hA, Vl1_pT])
        exact vl1
      · (try simp only [Vlr_pi_j22 hA, Vlr_pT])
        exact vlr
      · (try simp only [Vsr_pi_j22 hA, Vsr_pT])
        exact vsr
      · (try simp only [Vc_pi_j22 hA, Vc_pT])
        exact vc
      · (try simp only [Tx_pi_j22 hA])
        exact Tx_pT ht tx
    · have y1 : ¬ e < 0 := fun z => be (Or.inl z)
      have y2 : e < 2 := Classical.byContradiction fun z => be (Or.inr z)
      rcases e_cases y1 y2 with rfl | rfl
      · skip
        simp only [↓ar_ite, ↓ar_ite2, ↓reduceIte, o319_0, o319_1, o319_2, o319_3, o319_4, o319_18, o319_20, o319_21, o94_0, o94_1, o94_2, o94_5, o94_6, o94_7, o94_8, o225_0, o225_1, o225_2, o225_5, o225_12, o225_13, o225_14, o225_17, o225_18, o225_19, o225_22, o225_23, o225_27, o225_30, o225_33, o225_34, hx_319_2, c_X8_isThrown_, c_X8_isLens, c_X5_checkChoice, c_lensOf_0, mc_pT, mi_pi, ml_pi, ml_pT, mz_pT, mcs_0, mcs_r, Kn_v, Kn_x, true_and, and_true, and_false, or_true, or_false, not_true_eq_false, false_implies, forall_const, and_self, Nat.reduceLeDiff, Nat.reduceSub, Nat.reduceAdd, Nat.zero_le, Nat.le_refl, i10, i01, lt_le, Sum.inl.injEq, Option.some.injEq, Value.int.injEq, exists_eq_left', Nat.reduceLT, i20, kc0, kc22, kr0_7, kz, bx0, bx9]
        (try simp only [ite_ar, implies_true, true_and, and_true, Classical.not_not])
        intro t ht
        first | refine ⟨RlX_of ⟨?_, ?_, ?_, ?_, ?_, ?_, ?_, ?_, ?_, ?_, ?_, ?_⟩, rfl⟩ | refine RlX_of ⟨?_, ?_, ?_, ?_, ?_, ?_, ?_, ?_, ?_, ?_, ?_, ?_⟩
        · (try simp only [K_pi])
          exact K_pT ht vk
        · (try simp only [Cn_pi_j22 hA, Cn_pT])
          exact vcn
        · (try simp only [Vq0_pi_j22 hA, Vq0_pT])
          exact v0
        · (try simp only [Vq1_pi_j22 hA, Vq1_pT])
          exact v1
        · (try simp only [Vq2_pi_j22 hA, Vq2_pT])
          exact v2
        · (try simp only [Vp_thr hA, Vp_pT])
          exact vp
        · (try simp only [Vl0_pi_j22 hA, Vl0_pT])
          exact vl0
        · (try simp only [Vl1_pi_j22 hA, Vl1_pT])
          exact vl1
        · (try simp only [Vlr_pi_j22 hA, Vlr_pT])
          exact vlr
        · (try simp only [Vsr_pi_j22 hA, Vsr_pT])
          exact vsr
        · (try simp only [Vc_pi_j22 hA, Vc_pT])
          exact vc
        · (try simp only [Tx_pi_j22 hA])
          exact Tx_pT ht tx
      · skip
        simp only [↓ar_ite, ↓ar_ite2, ↓reduceIte, o319_0, o319_1, o319_2, o319_3, o319_4, o319_18, o319_20, o319_21, o94_0, o94_1, o94_2, o94_5, o94_6, o94_7, o94_8, o225_0, o225_1, o225_2, o225_5, o225_12, o225_13, o225_14, o225_17, o225_18, o225_19, o225_22, o225_23, o225_27, o225_30, o225_33, o225_34, hx_319_2, c_X8_isThrown_, c_X8_isLens, c_X5_checkChoice, c_lensOf_1, mc_pT, mi_pi, ml_pi, ml_pT, mz_pT, mcs_0, mcs_r, Kn_v, Kn_x, true_and, and_true, and_false, or_true, not_true_eq_false, false_implies, forall_const, and_self, Nat.reduceLeDiff, Nat.reduceSub, Nat.reduceAdd, Nat.zero_le, Nat.le_refl, i10, lt_le, Sum.inl.injEq, Option.some.injEq, Value.int.injEq, exists_eq_left', Nat.reduceLT, i20, kc0, kc22, kr0_8, kz, bx0, bx9]
        (try simp only [ite_ar, implies_true, true_and, and_true, Classical.not_not])
        intro t ht
        first | refine ⟨RlX_of ⟨?_, ?_, ?_, ?_, ?_, ?_, ?_, ?_, ?_, ?_, ?_, ?_⟩, rfl⟩ | refine RlX_of ⟨?_, ?_, ?_, ?_, ?_, ?_, ?_, ?_, ?_, ?_, ?_, ?_⟩
        · (try simp only [K_pi])
          exact K_pT ht vk
        · (try simp only [Cn_pi_j22 hA, Cn_pT])
          exact vcn
        · (try simp only [Vq0_pi_j22 hA, Vq0_pT])
          exact v0
        · (try simp only [Vq1_pi_j22 hA, Vq1_pT])
          exact v1
        · (try simp only [Vq2_pi_j22 hA, Vq2_pT])
          exact v2
        · (try simp only [Vp_thr hA, Vp_pT])
          exact vp
        · (try simp only [Vl0_pi_j22 hA, Vl0_pT])
          exact vl0
        · (try simp only [Vl1_pi_j22 hA, Vl1_pT])
          exact vl1
        · (try simp only [Vlr_pi_j22 hA, Vlr_pT])
          exact vlr
        · (try simp only [Vsr_pi_j22 hA, Vsr_pT])
          exact vsr
        · (try simp only [Vc_pi_j22 hA, Vc_pT])
          exact vc
        · (try simp only [Tx_pi_j22 hA])
          exact Tx_pT ht tx
  · by_cases be : e < 0 ∨ ¬ e < 2
    · have be2 := e_bad be
      simp only [↓ar_ite, ↓ar_ite2, ↓reduceIte, o319_0, o319_1, o319_2, o319_3, o319_4, o319_14, o319_16, o319_17, o94_0, o94_1, o94_2, o225_0, o225_1, o225_2, o225_5, o225_8, o225_9, o225_13, o225_14, o225_17, o225_18, o225_19, o225_26, o225_27, o225_30, o225_33, o225_34, hx_319_1, c_X8_isThrown_, c_X8_isLens, c_lensOf_bad, mc_pT, mi_pi, ml_pi, ml_pT, mz_pT, mcs_0, mcs_r, Kn_v, Kn_x, true_and, and_true, not_false_eq_true, false_implies, forall_const, and_self, Nat.reduceLeDiff, Nat.reduceSub, Nat.reduceAdd, Nat.zero_le, Nat.le_refl, i10, lt_le, Sum.inl.injEq, Option.some.injEq, Value.int.injEq, exists_eq_left', Nat.reduceLT, kc0, kc22, kz, be, be2, bx0, bx9]
      (try simp only [ite_ar, implies_true, true_and, and_true, Classical.not_not])
      intro t ht
      first | refine ⟨RlX_of ⟨?_, ?_, ?_, ?_, ?_, ?_, ?_, ?_, ?_, ?_, ?_, ?_⟩, rfl⟩ | refine RlX_of ⟨?_, ?_, ?_, ?_, ?_, ?_, ?_, ?_, ?_, ?_, ?_, ?_⟩
      · (try simp only [K_pi])
        exact K_pT ht vk
      · (try simp only [Cn_pi_j22 hA, Cn_pT])
        exact vcn
      · (try simp only [Vq0_pi_j22 hA, Vq0_pT])
        exact v0
      · (try simp only [Vq1_pi_j22 hA, Vq1_pT])
        exact v1
      · (try simp only [Vq2_pi_j22 hA, Vq2_pT])
        exact v2
      · (try simp only [Vp_thr hA, Vp_pT])
        exact vp
      · (try simp only [Vl0_pi_j22 hA, Vl0_pT])
        exact vl0
      · (try simp only [Vl1_pi_j22 hA, Vl1_pT])
        exact vl1
      · (try simp only [Vlr_pi_j22 hA, Vlr_pT])
        exact vlr
      · (try simp only [Vsr_pi_j22 hA, Vsr_pT])
        exact vsr
      · (try simp only [Vc_pi_j22 hA, Vc_pT])
        exact vc
      · (try simp only [Tx_pi_j22 hA])
        exact Tx_pT ht tx
    · have y1 : ¬ e < 0 := fun z => be (Or.inl z)
      have y2 : e < 2 := Classical.byContradiction fun z => be (Or.inr z)
      rcases e_cases y1 y2 with rfl | rfl
      · have hl2 := vl0
        obtain ⟨⟨b1, b2, b3, b4, b5, b6⟩, ln⟩ := hl2
        replace b1 := b1.symm
        replace b2 := b2.symm
        replace b3 := b3.symm
        replace b4 := b4.symm
        replace b5 := b5.symm
        replace b6 := b6.symm
        rw [b1, b2, b3, b4, b5, b6] at ln
        rcases x_cases bx0 (x_le bx9 (by decide)) with rfl | rfl | rfl | rfl | rfl | rfl | rfl | rfl | rfl
        · have hq9 := ln
          have s0 := ln.2.2.2.2.1 rfl
          simp only [↓ar_ite, ↓ar_ite2, ↓ar_ok, ↓reduceIte, o319_0, o319_1, o319_2, o319_3, o319_4, o319_7, o319_8, o319_11, o319_22, o319_23, o94_0, o94_1, o94_2, o94_5, o94_6, o94_7, o94_8, o94_11, o94_12, o94_13, o94_14, o94_15, o94_18, o94_20, o94_21, o94_22, o94_24, o94_27, o94_28, o94_31, o94_33, o94_36, o94_39, o225_0, o225_1, o225_2, o225_5, o225_12, o225_13, o225_14, o225_17, o225_18, o225_19, o225_26, o225_27, o225_30, o225_35, o225_36, o225_39, o225_40, o225_41, o225_42, o225_43, o225_44, o225_68, o225_69, o225_70, o225_81, o225_82, o225_85, o225_86, o225_89, o225_90, o225_91, o225_94, o225_95, o225_98, o225_99, o225_102, o225_110, o225_111, o225_115, o225_116, o225_119, o225_122, o225_123, o225_124, o225_127, o225_128, o225_129, o225_130, o225_133, o225_136, o225_137, o225_140, o225_141, o225_142, o225_143, o225_146, o225_149, o225_150, o225_151, o225_154, o225_155, o225_156, o225_159, o225_162, c_X8_isThrown_, c_X8_isLens, c_X5_checkChoice, c_lensOf_0, c_X3_init, c_X7_init, c_X0_done (cs := A 18), c_X8_done (cs := A 30), mc_pi, mc_pl, mc_pr, mc_pN, mn_pi, mn_pl, mn_pr, mn_pN, mi_pi, mi_pl, mi_pr, mi_pN, ml_pi, ml_pl, ml_pr, ml_pN, mr_pi, mr_pl, mr_pr, mr_pN, mt_pi, mt_pl, mt_pr, mt_pN, mz_pi, mz_pl, mz_pr, mz_pN, mcs_0, mcs_i, mcs_r, Kn_v, Kn_0, mrf_some, kok_0, true_and, and_true, and_false, or_false, not_false_eq_true, implies_true, and_self, Nat.reduceEqDiff, Nat.reduceLeDiff, Nat.reduceSub, Nat.reduceAdd, Nat.zero_le, Nat.le_refl, i10, i01, kz1, lt_le, cl0, Kc_v, Sum.inl.injEq, Option.some.injEq, Value.int.injEq, exists_eq_left', Nat.reduceLT, hAe, kc0, kc15, kc17, kc18, kc22, kc29, kc30, kc37, kc39, kn18, kn29, kn30, kr0_7, kr0_9, kr15_0, kr17_0, kr22_7, kr22_8, kr29_0, kz, be0, b1, b2, b3, b4, b5, b6, bx0, bx9, s0, kz1, hta, htb, hzt, hzt1, lne, lti, Int.reduceLT, or_self, or_false, o47_0, o47_3, o47_4, o47_5, o47_8, o47_9, o47_12, o47_13, o47_16, o47_17, o47_20, o47_21, o47_22, o47_23, o47_26, o47_29, o47_30, o47_31, o47_34, o47_37, o47_38, o47_39, o47_42, o47_45, o47_46, o136_0, o136_1, o136_28, o136_29, o136_30, o136_33, o136_36, o137_0, o137_1, o137_4, o137_5, o137_6, o137_9, o137_17, cl0]
          (try simp only [ite_ar, implies_true, true_and, and_true, Classical.not_not])
          rw [s0] at hq9
          refine ⟨rfl, ⟨(up (up A 15 (g_t h)) 37 (g_t h + 1)), rfl, rfl, rfl, ⟨?_, ?_, ?_, ?_, ?_, ?_, ?_, ?_, ?_, ?_, ?_, ?_⟩⟩⟩
          · refine ⟨(inj_up (inj_up hA nta) (nt_up ntb (fun z => by omega))), ?_, (Kz1_up (Kz1_up vk.2.2.1 (by simp only [mz_pi, mz_pl, mz_pr, mz_pN]) (by simp only [mt_pi, mt_pl, mt_pr, mt_pN]; omega) hzt (by simp only [mt_pi, mt_pl, mt_pr, mt_pN]; omega)) rfl (Nat.le_refl _) (by simp only [mz_pi, mz_pl, mz_pr, mz_pN]; exact hzt1) (by simp only [mt_pi, mt_pl, mt_pr, mt_pN]; omega)), ?_, ?_⟩
            · simp only [Kc1, up, mc_pi, mc_pl, mc_pr, mc_pN, mt_pi, mt_pl, mt_pr, mt_pN, hta, htb, hn1, hn2, Nat.reduceLT, Nat.reduceEqDiff, if_false, if_true, kc0, kc1, kc2, kc3, kc4, kc5, kc6, kc7, kc8, kc9, kc10, kc11, kc12, kc13, kc14, kc16, kc17, kc18, kc19, kc20, kc21, kc22, kc23, kc24, kc25, kc26, kc27, kc28, kc29, kc30, kc31, kc32, kc33, kc34, kc35, kc36, kc38, kc39, and_self]
            · simp only [Kn1, up, mn_pi, mn_pl, mn_pr, mn_pN, mt_pi, mt_pl, mt_pr, mt_pN, hta, htb, Nat.reduceLT, Nat.reduceEqDiff, if_false, kn3, kn4, kn18, kn21, kn23, kn24, kn25, kn26, kn27, kn29, kn30, and_self]
            · simp only [Kr1, up, mr_pi, mr_pl, mr_pr, mr_pN, mt_pi, mt_pl, mt_pr, mt_pN, hta, hta2, htb, hn1, hAe, Nat.reduceLT, Nat.reduceEqDiff, and_false, and_true, if_false, if_true, kr0_0, kr0_1, kr0_2, kr0_3, kr0_4, kr0_5, kr0_7, kr0_8, kr0_9, kr0_10, kr1_0, kr2_0, kr5_0, kr5_1, kr6_0, kr6_1, kr7_0, kr7_1, kr8_0, kr9_0, kr10_0, kr11_0, kr12_0, kr13_0, kr14_0, kr16_0, kr17_0, kr19_0, kr19_1, kr22_0, kr22_1, kr22_2, kr22_3, kr22_4, kr22_5, kr22_7, kr22_8, kr25_0, kr25_1, kr25_2, kr26_0, kr26_1, kr26_2, kr29_0, kr29_1, and_self]
          · simp only [Cn, up, mi_pi, mi_pl, mi_pr, mi_pN, mt_pi, mt_pl, mt_pr, mt_pN, hta, htb, mi_pi, mi_pl, mi_pr, hAe, Nat.reduceLT, Nat.reduceEqDiff, and_true, if_false, ki5_2, ki6_2, ki7_2, ki8_1, ki8_2, ki8_3, ki9_1, ki9_2, ki9_3, ki10_1, ki10_2, ki10_3, ki11_1, ki11_2, ki11_3, ki12_1, ki12_2, ki12_3, ki13_1, ki13_2, ki13_3, ki14_1, ki14_2, ki14_3, ki28_0, ki28_1, ki31_0, ki31_1, ki32_0, ki32_1, ki33_0, ki33_1, ki34_0, ki34_1, ki35_0, ki35_1, ki36_0, ki36_1, and_self]
          · (try simp only [Vq0_pi_j18 hA, Vq0_pi_j22 hA, Vq0_pi_j30 hA, Vq0_pl, Vq0_pr, Vq0_up15, Vq0_up37, Vq0_pia, Vq0_pN, nta, ntb, mt_pi, mt_pl, mt_pr, mt_pN])
            exact v0
          · (try simp only [Vq1_pi_j18 hA, Vq1_pi_j22 hA, Vq1_pi_j30 hA, Vq1_pl, Vq1_pr, Vq1_up15, Vq1_up37, Vq1_pia, Vq1_pN, nta, ntb, mt_pi, mt_pl, mt_pr, mt_pN])
            exact v1
          · (try simp only [Vq2_pi_j18 hA, Vq2_pi_j22 hA, Vq2_pi_j30 hA, Vq2_pl, Vq2_pr, Vq2_up15, Vq2_up37, Vq2_pia, Vq2_pN, nta, ntb, mt_pi, mt_pl, mt_pr, mt_pN])
            exact v2
          · (try simp only [Vp_pi_j18 hA, Vp_pi_j30 hA, Vp_thr hA, Vp_pl, Vp_pr, Vp_up15, Vp_up37, Vp_pia, Vp_pN, nta, ntb, mt_pi, mt_pl, mt_pr, mt_pN])
            exact vp
          · simp only [Vl0, up, mi_pi, mi_pl, mi_pr, mi_pN, mt_pi, mt_pl, mt_pr, mt_pN, hta2, htb2, hn1, hn2, mi_pi, mi_pl, mi_pr, Nat.reduceLT, Nat.reduceEqDiff, and_false, true_and, and_true, if_false, if_true, true_and, and_self, and_true]
            first | exact hq9 | exact ⟨⟨rfl, rfl, rfl, rfl, rfl, rfl⟩, hq9⟩ | exact ⟨trivial, hq9⟩
          · (try simp only [Vl1_pi_j18 hA, Vl1_pi_j22 hA, Vl1_pi_j30 hA, Vl1_pl, Vl1_pr, Vl1_up15, Vl1_up37, Vl1_pia, Vl1_pN, nta, ntb, mt_pi, mt_pl, mt_pr, mt_pN])
            exact vl1
          · (try simp only [Vlr_pi_j18 hA, Vlr_pi_j22 hA, Vlr_pi_j30 hA, Vlr_pl_j39 hA, Vlr_pr, Vlr_up15, Vlr_up37, Vlr_pia, Vlr_pN, nta, ntb, mt_pi, mt_pl, mt_pr, mt_pN])
            exact vlr
          · (try simp only [Vsr_pi_j18 hA, Vsr_pi_j22 hA, Vsr_pi_j30 hA, Vsr_pl_j39 hA, Vsr_pr, Vsr_up15, Vsr_up37, Vsr_pia, Vsr_pN, nta, ntb, mt_pi, mt_pl, mt_pr, mt_pN])
            exact vsr
          · refine Vc_of (c := 0) vc (by decide) (fun k => ?_) (fun k => ?_) <;> simp only [mi_pi, mi_pl, mi_pr, hAe, Nat.reduceLT, Nat.reduceEqDiff, false_and, true_and, if_false, up, mi_pi, mi_pl, mi_pr, mi_pN, mt_pi, mt_pl, mt_pr, mt_pN, hta, htb]
          · simp only [Tx_up15, Tx_up37]
            refine Tx_of tx (by simp only [mz_pi, mz_pl, mz_pr, mz_pN]) (by simp only [mt_pi, mt_pl, mt_pr, mt_pN]; omega) (fun b hb => ?_) ?_ ?_ ?_
            · have q1 : (b = g_t h) = False := eq_false (by omega)
              have q2 : (b = g_t h + 1) = False := eq_false (by omega)
              simp only [mc_pi, mc_pl, mc_pr, mc_pN, mn_pi, mn_pl, mn_pr, mn_pN, mt_pi, mt_pl, mt_pr, mt_pN, q1, q2, if_false, and_self]
            · simp only [mr_pi, mr_pl, mr_pr, mr_pN, mt_pi, mt_pl, mt_pr, mt_pN, hta, htb, hAe, Nat.reduceLT, Nat.reduceEqDiff, and_false, and_true, if_false]
            · simp only [mi_pi, mi_pl, mi_pr, mi_pN, mt_pi, mt_pl, mt_pr, mt_pN, hta, htb, mi_pi, mi_pl, mi_pr, hAe, Nat.reduceLT, Nat.reduceEqDiff, and_false, and_true, if_false]
            · simp only [mi_pi, mi_pl, mi_pr, mi_pN, mt_pi, mt_pl, mt_pr, mt_pN, hta, htb, mi_pi, mi_pl, mi_pr, hAe, Nat.reduceLT, Nat.reduceEqDiff, and_false, and_true, if_false]
        · have hq9 := lnCut2 ln (by decide) (by decide)
          have s0 := ln.2.2.2.2.1 rfl
          simp only [↓ar_ite, ↓ar_ite2, ↓ar_ok, ↓reduceIte, o319_0, o319_1, o319_2, o319_3, o319_4, o319_7, o319_8, o319_11, o319_22, o319_23, o94_0, o94_1, o94_2, o94_5, o94_6, o94_7, o94_8, o94_11, o94_12, o94_13, o94_14, o94_15, o94_18, o94_20, o94_21, o94_22, o94_24, o94_27, o94_28, o94_31, o94_33, o94_36, o94_39, o225_0, o225_1, o225_2, o225_5, o225_12, o225_13, o225_14, o225_17, o225_18, o225_19, o225_26, o225_27, o225_30, o225_35, o225_36, o225_39, o225_40, o225_41, o225_42, o225_43, o225_44, o225_47, o225_48, o225_51, o225_52, o225_53, o225_54, o225_57, o225_58, o225_61, o225_64, o225_65, o225_149, o225_150, o225_151, o225_154, o225_155, o225_156, o225_159, o225_162, c_X8_isThrown_, c_X8_isLens, c_X5_checkChoice, c_lensOf_0, c_X3_init, c_X7_init, c_X3_rests, c_X7_rests, c_X0_done (cs := A 18), c_X8_done (cs := A 30), mc_pi, mc_pl, mc_pr, mc_pN, mn_pi, mn_pl, mn_pr, mn_pN, mi_pi, mi_pl, mi_pr, mi_pN, ml_pi, ml_pl, ml_pr, ml_pN, mr_pi, mr_pl, mr_pr, mr_pN, mt_pi, mt_pl, mt_pr, mt_pN, mz_pi, mz_pl, mz_pr, mz_pN, mcs_0, mcs_i, mcs_r, Kn_v, Kn_0, mrf_some, true_and, and_true, and_false, or_false, not_false_eq_true, implies_true, and_self, Nat.reduceEqDiff, Nat.reduceLeDiff, Nat.reduceSub, Nat.reduceAdd, Nat.zero_le, Nat.le_refl, i10, i01, kz1, lt_le, cl0, Kc_v, Sum.inl.injEq, Option.some.injEq, Value.int.injEq, exists_eq_left', Nat.reduceLT, hAe, kc0, kc15, kc17, kc18, kc22, kc29, kc30, kc37, kc39, kn18, kn29, kn30, kr0_7, kr0_9, kr15_0, kr17_0, kr22_7, kr22_8, kr29_0, kz, be0, b1, b3, b4, b5, bx0, bx9, s0, kz1, hta, htb, hzt, hzt1, lne, lti, Int.reduceLT, or_self, or_false, o48_0, o48_3, o48_4, o48_5, o48_8, o48_9, o48_12, o48_13, o48_14, o48_15, o48_16, o48_19, o48_22, o136_0, o136_1, o136_37, o136_38, o136_39, o136_42, o136_43, o136_46, o136_49, o137_0, o137_1, o137_4, o137_5, o137_6, o137_9, o137_17, o224_0, o224_3, o224_4, o224_5, o224_8, o224_9, o224_10, o224_11, o224_12, o224_15, o224_16, o224_19, cl0]
          (try simp only [ite_ar, implies_true, true_and, and_true, Classical.not_not])
          rw [s0] at hq9
          refine ⟨rfl, ⟨(up (up A 15 (g_t h)) 37 (g_t h + 1)), rfl, rfl, rfl, ⟨?_, ?_, ?_, ?_, ?_, ?_, ?_, ?_, ?_, ?_, ?_, ?_⟩⟩⟩
          · refine ⟨(inj_up (inj_up hA nta) (nt_up ntb (fun z => by omega))), ?_, (Kz1_up (Kz1_up vk.2.2.1 (by simp only [mz_pi, mz_pl, mz_pr, mz_pN]) (by simp only [mt_pi, mt_pl, mt_pr, mt_pN]; omega) hzt (by simp only [mt_pi, mt_pl, mt_pr, mt_pN]; omega)) rfl (Nat.le_refl _) (by simp only [mz_pi, mz_pl, mz_pr, mz_pN]; exact hzt1) (by simp only [mt_pi, mt_pl, mt_pr, mt_pN]; omega)), ?_, ?_⟩
            · simp only [Kc1, up, mc_pi, mc_pl, mc_pr, mc_pN, mt_pi, mt_pl, mt_pr, mt_pN, hta, htb, hn1, hn2, Nat.reduceLT, Nat.reduceEqDiff, if_false, if_true, kc0, kc1, kc2, kc3, kc4, kc5, kc6, kc7, kc8, kc9, kc10, kc11, kc12, kc13, kc14, kc16, kc17, kc18, kc19, kc20, kc21, kc22, kc23, kc24, kc25, kc26, kc27, kc28, kc29, kc30, kc31, kc32, kc33, kc34, kc35, kc36, kc38, kc39, and_self]
            · simp only [Kn1, up, mn_pi, mn_pl, mn_pr, mn_pN, mt_pi, mt_pl, mt_pr, mt_pN, hta, htb, Nat.reduceLT, Nat.reduceEqDiff, if_false, kn3, kn4, kn18, kn21, kn23, kn24, kn25, kn26, kn27, kn29, kn30, and_self]
            · simp only [Kr1, up, mr_pi, mr_pl, mr_pr, mr_pN, mt_pi, mt_pl, mt_pr, mt_pN, hta, hta2, htb, hn1, hAe, Nat.reduceLT, Nat.reduceEqDiff, and_false, and_true, if_false, if_true, kr0_0, kr0_1, kr0_2, kr0_3, kr0_4, kr0_5, kr0_7, kr0_8, kr0_9, kr0_10, kr1_0, kr2_0, kr5_0, kr5_1, kr6_0, kr6_1, kr7_0, kr7_1, kr8_0, kr9_0, kr10_0, kr11_0, kr12_0, kr13_0, kr14_0, kr16_0, kr17_0, kr19_0, kr19_1, kr22_0, kr22_1, kr22_2, kr22_3, kr22_4, kr22_5, kr22_7, kr22_8, kr25_0, kr25_1, kr25_2, kr26_0, kr26_1, kr26_2, kr29_0, kr29_1, and_self]
          · simp only [Cn, up, mi_pi, mi_pl, mi_pr, mi_pN, mt_pi, mt_pl, mt_pr, mt_pN, hta, htb, mi_pi, mi_pl, mi_pr, hAe, Nat.reduceLT, Nat.reduceEqDiff, and_true, if_false, ki5_2, ki6_2, ki7_2, ki8_1, ki8_2, ki8_3, ki9_1, ki9_2, ki9_3, ki10_1, ki10_2, ki10_3, ki11_1, ki11_2, ki11_3, ki12_1, ki12_2, ki12_3, ki13_1, ki13_2, ki13_3, ki14_1, ki14_2, ki14_3, ki28_0, ki28_1, ki31_0, ki31_1, ki32_0, ki32_1, ki33_0, ki33_1, ki34_0, ki34_1, ki35_0, ki35_1, ki36_0, ki36_1, and_self]
          · (try simp only [Vq0_pi_j18 hA, Vq0_pi_j22 hA, Vq0_pi_j30 hA, Vq0_pl, Vq0_pr, Vq0_up15, Vq0_up37, Vq0_pia, Vq0_pN, nta, ntb, mt_pi, mt_pl, mt_pr, mt_pN])
            exact v0
          · (try simp only [Vq1_pi_j18 hA, Vq1_pi_j22 hA, Vq1_pi_j30 hA, Vq1_pl, Vq1_pr, Vq1_up15, Vq1_up37, Vq1_pia, Vq1_pN, nta, ntb, mt_pi, mt_pl, mt_pr, mt_pN])
            exact v1
          · (try simp only [Vq2_pi_j18 hA, Vq2_pi_j22 hA, Vq2_pi_j30 hA, Vq2_pl, Vq2_pr, Vq2_up15, Vq2_up37, Vq2_pia, Vq2_pN, nta, ntb, mt_pi, mt_pl, mt_pr, mt_pN])
            exact v2
          · (try simp only [Vp_pi_j18 hA, Vp_pi_j30 hA, Vp_thr hA, Vp_pl, Vp_pr, Vp_up15, Vp_up37, Vp_pia, Vp_pN, nta, ntb, mt_pi, mt_pl, mt_pr, mt_pN])
            exact vp
          · simp only [Vl0, up, mi_pi, mi_pl, mi_pr, mi_pN, mt_pi, mt_pl, mt_pr, mt_pN, hta2, htb2, hn1, hn2, mi_pi, mi_pl, mi_pr, Nat.reduceLT, Nat.reduceEqDiff, and_false, true_and, and_true, if_false, if_true, true_and, and_self, and_true]
            first | exact hq9 | exact ⟨⟨rfl, rfl, rfl, rfl, rfl, rfl⟩, hq9⟩ | exact ⟨trivial, hq9⟩
          · (try simp only [Vl1_pi_j18 hA, Vl1_pi_j22 hA, Vl1_pi_j30 hA, Vl1_pl, Vl1_pr, Vl1_up15, Vl1_up37, Vl1_pia, Vl1_pN, nta, ntb, mt_pi, mt_pl, mt_pr, mt_pN])
            exact vl1
          · (try simp only [Vlr_pi_j18 hA, Vlr_pi_j22 hA, Vlr_pi_j30 hA, Vlr_pl_j39 hA, Vlr_pr, Vlr_up15, Vlr_up37, Vlr_pia, Vlr_pN, nta, ntb, mt_pi, mt_pl, mt_pr, mt_pN])
            exact vlr
          · (try simp only [Vsr_pi_j18 hA, Vsr_pi_j22 hA, Vsr_pi_j30 hA, Vsr_pl_j39 hA, Vsr_pr, Vsr_up15, Vsr_up37, Vsr_pia, Vsr_pN, nta, ntb, mt_pi, mt_pl, mt_pr, mt_pN])
            exact vsr
          · refine Vc_of (c := 0) vc (by decide) (fun k => ?_) (fun k => ?_) <;> simp only [mi_pi, mi_pl, mi_pr, hAe, Nat.reduceLT, Nat.reduceEqDiff, false_and, true_and, if_false, up, mi_pi, mi_pl, mi_pr, mi_pN, mt_pi, mt_pl, mt_pr, mt_pN, hta, htb]
          · simp only [Tx_up15, Tx_up37]
            refine Tx_of tx (by simp only [mz_pi, mz_pl, mz_pr, mz_pN]) (by simp only [mt_pi, mt_pl, mt_pr, mt_pN]; omega) (fun b hb => ?_) ?_ ?_ ?_
            · have q1 : (b = g_t h) = False := eq_false (by omega)
              have q2 : (b = g_t h + 1) = False := eq_false (by omega)
              simp only [mc_pi, mc_pl, mc_pr, mc_pN, mn_pi, mn_pl, mn_pr, mn_pN, mt_pi, mt_pl, mt_pr, mt_pN, q1, q2, if_false, and_self]
            · simp only [mr_pi, mr_pl, mr_pr, mr_pN, mt_pi, mt_pl, mt_pr, mt_pN, hta, htb, hAe, Nat.reduceLT, Nat.reduceEqDiff, and_false, and_true, if_false]
            · simp only [mi_pi, mi_pl, mi_pr, mi_pN, mt_pi, mt_pl, mt_pr, mt_pN, hta, htb, mi_pi, mi_pl, mi_pr, hAe, Nat.reduceLT, Nat.reduceEqDiff, and_false, and_true, if_false]
            · simp only [mi_pi, mi_pl, mi_pr, mi_pN, mt_pi, mt_pl, mt_pr, mt_pN, hta, htb, mi_pi, mi_pl, mi_pr, hAe, Nat.reduceLT, Nat.reduceEqDiff, and_false, and_true, if_false]
        · have hq9 := lnSeal ln
          have s0 := ln.2.2.2.2.1 rfl
          simp only [↓ar_ite, ↓ar_ite2, ↓ar_ok, ↓reduceIte, o319_0, o319_1, o319_2, o319_3, o319_4, o319_7, o319_8, o319_11, o319_22, o319_23, o94_0, o94_1, o94_2, o94_5, o94_6, o94_7, o94_8, o94_11, o94_12, o94_13, o94_14, o94_15, o94_18, o94_20, o94_21, o94_22, o94_24, o94_27, o94_28, o94_31, o94_33, o94_36, o94_39, o225_0, o225_1, o225_2, o225_5, o225_12, o225_13, o225_14, o225_17, o225_18, o225_19, o225_26, o225_27, o225_30, o225_35, o225_36, o225_39, o225_40, o225_41, o225_42, o225_43, o225_44, o225_68, o225_69, o225_70, o225_81, o225_82, o225_85, o225_86, o225_89, o225_90, o225_91, o225_94, o225_95, o225_98, o225_99, o225_102, o225_110, o225_111, o225_115, o225_116, o225_119, o225_122, o225_123, o225_124, o225_127, o225_128, o225_129, o225_130, o225_133, o225_136, o225_137, o225_140, o225_141, o225_142, o225_143, o225_146, o225_149, o225_150, o225_151, o225_154, o225_155, o225_156, o225_159, o225_162, c_X8_isThrown_, c_X8_isLens, c_X5_checkChoice, c_lensOf_0, c_X3_init, c_X7_init, c_X0_done (cs := A 18), c_X8_done (cs := A 30), mc_pi, mc_pl, mc_pr, mc_pN, mn_pi, mn_pl, mn_pr, mn_pN, mi_pi, mi_pl, mi_pr, mi_pN, ml_pi, ml_pl, ml_pr, ml_pN, mr_pi, mr_pl, mr_pr, mr_pN, mt_pi, mt_pl, mt_pr, mt_pN, mz_pi, mz_pl, mz_pr, mz_pN, mcs_0, mcs_i, mcs_r, Kn_v, Kn_0, mrf_some, kok_0, true_and, and_true, and_false, or_false, not_false_eq_true, implies_true, and_self, Nat.reduceEqDiff, Nat.reduceLeDiff, Nat.reduceSub, Nat.reduceAdd, Nat.zero_le, Nat.le_refl, i10, i01, kz1, lt_le, cl0, Kc_v, Sum.inl.injEq, Option.some.injEq, Value.int.injEq, exists_eq_left', Nat.reduceLT, hAe, i20, kc0, kc15, kc17, kc18, kc22, kc29, kc30, kc37, kc39, kn18, kn29, kn30, kr0_7, kr0_9, kr15_0, kr17_0, kr22_7, kr22_8, kr29_0, kz, be0, b1, b2, b3, b4, b5, b6, bx0, bx9, s0, kz1, hta, htb, hzt, hzt1, lne, lti, Int.reduceLT, or_self, or_false, o47_0, o47_3, o47_4, o47_5, o47_8, o47_9, o47_12, o47_13, o47_16, o47_17, o47_20, o47_21, o47_22, o47_23, o47_26, o47_29, o47_30, o47_31, o47_34, o47_37, o47_38, o47_39, o47_42, o47_45, o47_46, o136_0, o136_1, o136_50, o136_51, o136_52, o136_55, o137_0, o137_1, o137_4, o137_5, o137_6, o137_9, o137_17, cl0]
          (try simp only [ite_ar, implies_true, true_and, and_true, Classical.not_not])
          refine ⟨rfl, ⟨(up (up A 15 (g_t h)) 37 (g_t h + 1)), rfl, rfl, rfl, ⟨?_, ?_, ?_, ?_, ?_, ?_, ?_, ?_, ?_, ?_, ?_, ?_⟩⟩⟩
          · refine ⟨(inj_up (inj_up hA nta) (nt_up ntb (fun z => by omega))), ?_, (Kz1_up (Kz1_up vk.2.2.1 (by simp only [mz_pi, mz_pl, mz_pr, mz_pN]) (by simp only [mt_pi, mt_pl, mt_pr, mt_pN]; omega) hzt (by simp only [mt_pi, mt_pl, mt_pr, mt_pN]; omega)) rfl (Nat.le_refl _) (by simp only [mz_pi, mz_pl, mz_pr, mz_pN]; exact hzt1) (by simp only [mt_pi, mt_pl, mt_pr, mt_pN]; omega)), ?_, ?_⟩
            · simp only [Kc1, up, mc_pi, mc_pl, mc_pr, mc_pN, mt_pi, mt_pl, mt_pr, mt_pN, hta, htb, hn1, hn2, Nat.reduceLT, Nat.reduceEqDiff, if_false, if_true, kc0, kc1, kc2, kc3, kc4, kc5, kc6, kc7, kc8, kc9, kc10, kc11, kc12, kc13, kc14, kc16, kc17, kc18, kc19, kc20, kc21, kc22, kc23, kc24, kc25, kc26, kc27, kc28, kc29, kc30, kc31, kc32, kc33, kc34, kc35, kc36, kc38, kc39, and_self]
            · simp only [Kn1, up, mn_pi, mn_pl, mn_pr, mn_pN, mt_pi, mt_pl, mt_pr, mt_pN, hta, htb, Nat.reduceLT, Nat.reduceEqDiff, if_false, kn3, kn4, kn18, kn21, kn23, kn24, kn25, kn26, kn27, kn29, kn30, and_self]
            · simp only [Kr1, up, mr_pi, mr_pl, mr_pr, mr_pN, mt_pi, mt_pl, mt_pr, mt_pN, hta, hta2, htb, hn1, hAe, Nat.reduceLT, Nat.reduceEqDiff, and_false, and_true, if_false, if_true, kr0_0, kr0_1, kr0_2, kr0_3, kr0_4, kr0_5, kr0_7, kr0_8, kr0_9, kr0_10, kr1_0, kr2_0, kr5_0, kr5_1, kr6_0, kr6_1, kr7_0, kr7_1, kr8_0, kr9_0, kr10_0, kr11_0, kr12_0, kr13_0, kr14_0, kr16_0, kr17_0, kr19_0, kr19_1, kr22_0, kr22_1, kr22_2, kr22_3, kr22_4, kr22_5, kr22_7, kr22_8, kr25_0, kr25_1, kr25_2, kr26_0, kr26_1, kr26_2, kr29_0, kr29_1, and_self]
          · simp only [Cn, up, mi_pi, mi_pl, mi_pr, mi_pN, mt_pi, mt_pl, mt_pr, mt_pN, hta, htb, mi_pi, mi_pl, mi_pr, hAe, Nat.reduceLT, Nat.reduceEqDiff, and_true, if_false, ki5_2, ki6_2, ki7_2, ki8_1, ki8_2, ki8_3, ki9_1, ki9_2, ki9_3, ki10_1, ki10_2, ki10_3, ki11_1, ki11_2, ki11_3, ki12_1, ki12_2, ki12_3, ki13_1, ki13_2, ki13_3, ki14_1, ki14_2, ki14_3, ki28_0, ki28_1, ki31_0, ki31_1, ki32_0, ki32_1, ki33_0, ki33_1, ki34_0, ki34_1, ki35_0, ki35_1, ki36_0, ki36_1, and_self]
          · (try simp only [Vq0_pi_j18 hA, Vq0_pi_j22 hA, Vq0_pi_j30 hA, Vq0_pl, Vq0_pr, Vq0_up15, Vq0_up37, Vq0_pia, Vq0_pN, nta, ntb, mt_pi, mt_pl, mt_pr, mt_pN])
            exact v0
          · (try simp only [Vq1_pi_j18 hA, Vq1_pi_j22 hA, Vq1_pi_j30 hA, Vq1_pl, Vq1_pr, Vq1_up15, Vq1_up37, Vq1_pia, Vq1_pN, nta, ntb, mt_pi, mt_pl, mt_pr, mt_pN])
            exact v1
          · (try simp only [Vq2_pi_j18 hA, Vq2_pi_j22 hA, Vq2_pi_j30 hA, Vq2_pl, Vq2_pr, Vq2_up15, Vq2_up37, Vq2_pia, Vq2_pN, nta, ntb, mt_pi, mt_pl, mt_pr, mt_pN])
            exact v2
          · (try simp only [Vp_pi_j18 hA, Vp_pi_j30 hA, Vp_thr hA, Vp_pl, Vp_pr, Vp_up15, Vp_up37, Vp_pia, Vp_pN, nta, ntb, mt_pi, mt_pl, mt_pr, mt_pN])
            exact vp
          · simp only [Vl0, up, mi_pi, mi_pl, mi_pr, mi_pN, mt_pi, mt_pl, mt_pr, mt_pN, hta2, htb2, hn1, hn2, mi_pi, mi_pl, mi_pr, Nat.reduceLT, Nat.reduceEqDiff, and_false, true_and, and_true, if_false, if_true, true_and, and_self, and_true]
            first | exact hq9 | exact ⟨⟨rfl, rfl, rfl, rfl, rfl, rfl⟩, hq9⟩ | exact ⟨trivial, hq9⟩
          · (try simp only [Vl1_pi_j18 hA, Vl1_pi_j22 hA, Vl1_pi_j30 hA, Vl1_pl, Vl1_pr, Vl1_up15, Vl1_up37, Vl1_pia, Vl1_pN, nta, ntb, mt_pi, mt_pl, mt_pr, mt_pN])
            exact vl1
          · (try simp only [Vlr_pi_j18 hA, Vlr_pi_j22 hA, Vlr_pi_j30 hA, Vlr_pl_j39 hA, Vlr_pr, Vlr_up15, Vlr_up37, Vlr_pia, Vlr_pN, nta, ntb, mt_pi, mt_pl, mt_pr, mt_pN])
            exact vlr
          · (try simp only [Vsr_pi_j18 hA, Vsr_pi_j22 hA, Vsr_pi_j30 hA, Vsr_pl_j39 hA, Vsr_pr, Vsr_up15, Vsr_up37, Vsr_pia, Vsr_pN, nta, ntb, mt_pi, mt_pl, mt_pr, mt_pN])
            exact vsr
          · refine Vc_of (c := 0) vc (by decide) (fun k => ?_) (fun k => ?_) <;> simp only [mi_pi, mi_pl, mi_pr, hAe, Nat.reduceLT, Nat.reduceEqDiff, false_and, true_and, if_false, up, mi_pi, mi_pl, mi_pr, mi_pN, mt_pi, mt_pl, mt_pr, mt_pN, hta, htb]
          · simp only [Tx_up15, Tx_up37]
            refine Tx_of tx (by simp only [mz_pi, mz_pl, mz_pr, mz_pN]) (by simp only [mt_pi, mt_pl, mt_pr, mt_pN]; omega) (fun b hb => ?_) ?_ ?_ ?_
            · have q1 : (b = g_t h) = False := eq_false (by omega)
              have q2 : (b = g_t h + 1) = False := eq_false (by omega)
              simp only [mc_pi, mc_pl, mc_pr, mc_pN, mn_pi, mn_pl, mn_pr, mn_pN, mt_pi, mt_pl, mt_pr, mt_pN, q1, q2, if_false, and_self]
            · simp only [mr_pi, mr_pl, mr_pr, mr_pN, mt_pi, mt_pl, mt_pr, mt_pN, hta, htb, hAe, Nat.reduceLT, Nat.reduceEqDiff, and_false, and_true, if_false]
            · simp only [mi_pi, mi_pl, mi_pr, mi_pN, mt_pi, mt_pl, mt_pr, mt_pN, hta, htb, mi_pi, mi_pl, mi_pr, hAe, Nat.reduceLT, Nat.reduceEqDiff, and_false, and_true, if_false]
            · simp only [mi_pi, mi_pl, mi_pr, mi_pN, mt_pi, mt_pl, mt_pr, mt_pN, hta, htb, mi_pi, mi_pl, mi_pr, hAe, Nat.reduceLT, Nat.reduceEqDiff, and_false, and_true, if_false]
        · have hq9 := ln30
          have s0 := ln.2.2.2.2.1 rfl
          simp only [↓ar_ite, ↓ar_ite2, ↓ar_ok, ↓reduceIte, o319_0, o319_1, o319_2, o319_3, o319_4, o319_7, o319_8, o319_11, o319_22, o319_23, o94_0, o94_1, o94_2, o94_5, o94_6, o94_7, o94_8, o94_11, o94_12, o94_13, o94_14, o94_15, o94_18, o94_20, o94_21, o94_22, o94_24, o94_27, o94_28, o94_31, o94_33, o94_36, o94_39, o225_0, o225_1, o225_2, o225_5, o225_12, o225_13, o225_14, o225_17, o225_18, o225_19, o225_26, o225_27, o225_30, o225_35, o225_36, o225_39, o225_40, o225_41, o225_42, o225_43, o225_44, o225_68, o225_69, o225_70, o225_73, o225_74, o225_75, o225_78, o225_149, o225_150, o225_151, o225_154, o225_155, o225_156, o225_159, o225_162, c_X8_isThrown_, c_X8_isLens, c_X5_checkChoice, c_lensOf_0, c_X3_init, c_X7_init, c_X3_setLimit, c_X3_setPlace, c_X0_done (cs := A 18), c_X8_done (cs := A 30), mc_pi, mc_pl, mc_pr, mc_pN, mn_pi, mn_pl, mn_pr, mn_pN, mi_pi, mi_pl, mi_pr, mi_pN, ml_pi, ml_pl, ml_pr, ml_pN, mr_pi, mr_pl, mr_pr, mr_pN, mt_pi, mt_pl, mt_pr, mt_pN, mz_pi, mz_pl, mz_pr, mz_pN, mcs_0, mcs_i, mcs_r, Kn_v, Kn_0, mrf_some, kok_0, true_and, and_true, and_false, or_true, or_false, not_false_eq_true, implies_true, and_self, Nat.reduceEqDiff, Nat.reduceLeDiff, Nat.reduceSub, Nat.reduceAdd, Nat.zero_le, Nat.le_refl, i10, i01, kz1, lt_le, Int32.reduceLT, Int32.reduceSub, cl0, Kc_v, Sum.inl.injEq, Option.some.injEq, Value.int.injEq, exists_eq_left', Nat.reduceLT, hAe, i30, kc0, kc17, kc18, kc22, kc29, kc30, kc39, kn18, kn29, kn30, kr0_0, kr0_7, kr0_9, kr17_0, kr22_7, kr22_8, kr29_0, kz, be0, bx0, bx9, kz1, hta, htb, hzt, hzt1, lne, lti, Int.reduceLT, or_self, or_false, o136_0, o136_1, o136_56, o136_57, o136_60, o136_61, o136_64, o136_67, o136_77, o133_0, o133_3, o133_4, o133_5, o133_6, o133_8, o133_9, o133_12, o133_13, o133_14, o133_16, o133_19, o133_20, o133_21, o133_24, o133_25, o137_0, o137_1, o137_4, o137_5, o137_6, o137_9, o137_17, o160_0, o160_1, o160_4, o160_5, o160_6, o160_9, o160_12, o160_13, o160_14, o160_16, o160_17, o160_19, o160_22, o160_39, o160_40, o160_41, o160_44, o160_45, o160_46, o160_47, o160_48, o160_49, o160_52, cl0]
          (try simp only [ite_ar, implies_true, true_and, and_true, Classical.not_not])
          refine ⟨rfl, ⟨(up (up A 15 (g_t h)) 37 (g_t h + 1)), rfl, rfl, rfl, ⟨?_, ?_, ?_, ?_, ?_, ?_, ?_, ?_, ?_, ?_, ?_, ?_⟩⟩⟩
          · refine ⟨(inj_up (inj_up hA nta) (nt_up ntb (fun z => by omega))), ?_, (Kz1_up (Kz1_up vk.2.2.1 (by simp only [mz_pi, mz_pl, mz_pr, mz_pN]) (by simp only [mt_pi, mt_pl, mt_pr, mt_pN]; omega) hzt (by simp only [mt_pi, mt_pl, mt_pr, mt_pN]; omega)) rfl (Nat.le_refl _) (by simp only [mz_pi, mz_pl, mz_pr, mz_pN]; exact hzt1) (by simp only [mt_pi, mt_pl, mt_pr, mt_pN]; omega)), ?_, ?_⟩
            · simp only [Kc1, up, mc_pi, mc_pl, mc_pr, mc_pN, mt_pi, mt_pl, mt_pr, mt_pN, hta, htb, hn1, hn2, Nat.reduceLT, Nat.reduceEqDiff, if_false, if_true, kc0, kc1, kc2, kc3, kc4, kc5, kc6, kc7, kc8, kc9, kc10, kc11, kc12, kc13, kc14, kc16, kc17, kc18, kc19, kc20, kc21, kc22, kc23, kc24, kc25, kc26, kc27, kc28, kc29, kc30, kc31, kc32, kc33, kc34, kc35, kc36, kc38, kc39, and_self]
            · simp only [Kn1, up, mn_pi, mn_pl, mn_pr, mn_pN, mt_pi, mt_pl, mt_pr, mt_pN, hta, htb, Nat.reduceLT, Nat.reduceEqDiff, if_false, kn3, kn4, kn18, kn21, kn23, kn24, kn25, kn26, kn27, kn29, kn30, and_self]
            · simp only [Kr1, up, mr_pi, mr_pl, mr_pr, mr_pN, mt_pi, mt_pl, mt_pr, mt_pN, hta, hta2, htb, hn1, hAe, Nat.reduceLT, Nat.reduceEqDiff, and_false, and_true, if_false, if_true, kr0_0, kr0_1, kr0_2, kr0_3, kr0_4, kr0_5, kr0_7, kr0_8, kr0_9, kr0_10, kr1_0, kr2_0, kr5_0, kr5_1, kr6_0, kr6_1, kr7_0, kr7_1, kr8_0, kr9_0, kr10_0, kr11_0, kr12_0, kr13_0, kr14_0, kr16_0, kr17_0, kr19_0, kr19_1, kr22_0, kr22_1, kr22_2, kr22_3, kr22_4, kr22_5, kr22_7, kr22_8, kr25_0, kr25_1, kr25_2, kr26_0, kr26_1, kr26_2, kr29_0, kr29_1, and_self]
          · simp only [Cn, up, mi_pi, mi_pl, mi_pr, mi_pN, mt_pi, mt_pl, mt_pr, mt_pN, hta, htb, mi_pi, mi_pl, mi_pr, hAe, Nat.reduceLT, Nat.reduceEqDiff, and_true, if_false, ki5_2, ki6_2, ki7_2, ki8_1, ki8_2, ki8_3, ki9_1, ki9_2, ki9_3, ki10_1, ki10_2, ki10_3, ki11_1, ki11_2, ki11_3, ki12_1, ki12_2, ki12_3, ki13_1, ki13_2, ki13_3, ki14_1, ki14_2, ki14_3, ki28_0, ki28_1, ki31_0, ki31_1, ki32_0, ki32_1, ki33_0, ki33_1, ki34_0, ki34_1, ki35_0, ki35_1, ki36_0, ki36_1, and_self]
          · (try simp only [Vq0_pi_j18 hA, Vq0_pi_j22 hA, Vq0_pi_j30 hA, Vq0_pl, Vq0_pr, Vq0_up15, Vq0_up37, Vq0_pia, Vq0_pN, nta, ntb, mt_pi, mt_pl, mt_pr, mt_pN])
            exact v0
          · (try simp only [Vq1_pi_j18 hA, Vq1_pi_j22 hA, Vq1_pi_j30 hA, Vq1_pl, Vq1_pr, Vq1_up15, Vq1_up37, Vq1_pia, Vq1_pN, nta, ntb, mt_pi, mt_pl, mt_pr, mt_pN])
            exact v1
          · (try simp only [Vq2_pi_j18 hA, Vq2_pi_j22 hA, Vq2_pi_j30 hA, Vq2_pl, Vq2_pr, Vq2_up15, Vq2_up37, Vq2_pia, Vq2_pN, nta, ntb, mt_pi, mt_pl, mt_pr, mt_pN])
            exact v2
          · (try simp only [Vp_pi_j18 hA, Vp_pi_j30 hA, Vp_thr hA, Vp_pl, Vp_pr, Vp_up15, Vp_up37, Vp_pia, Vp_pN, nta, ntb, mt_pi, mt_pl, mt_pr, mt_pN])
            exact vp
          · simp only [Vl0, up, mi_pi, mi_pl, mi_pr, mi_pN, mt_pi, mt_pl, mt_pr, mt_pN, hta2, htb2, hn1, hn2, mi_pi, mi_pl, mi_pr, Nat.reduceLT, Nat.reduceEqDiff, and_false, true_and, and_true, if_false, if_true, true_and, and_self, and_true]
            first | exact hq9 | exact ⟨⟨rfl, rfl, rfl, rfl, rfl, rfl⟩, hq9⟩ | exact ⟨trivial, hq9⟩
          · (try simp only [Vl1_pi_j18 hA, Vl1_pi_j22 hA, Vl1_pi_j30 hA, Vl1_pl, Vl1_pr, Vl1_up15, Vl1_up37, Vl1_pia, Vl1_pN, nta, ntb, mt_pi, mt_pl, mt_pr, mt_pN])
            exact vl1
          · (try simp only [Vlr_pi_j18 hA, Vlr_pi_j22 hA, Vlr_pi_j30 hA, Vlr_pl_j39 hA, Vlr_pr, Vlr_up15, Vlr_up37, Vlr_pia, Vlr_pN, nta, ntb, mt_pi, mt_pl, mt_pr, mt_pN])
            exact vlr
          · (try simp only [Vsr_pi_j18 hA, Vsr_pi_j22 hA, Vsr_pi_j30 hA, Vsr_pl_j39 hA, Vsr_pr, Vsr_up15, Vsr_up37, Vsr_pia, Vsr_pN, nta, ntb, mt_pi, mt_pl, mt_pr, mt_pN])
            exact vsr
          · refine Vc_of (c := 0) vc (by decide) (fun k => ?_) (fun k => ?_) <;> simp only [mi_pi, mi_pl, mi_pr, hAe, Nat.reduceLT, Nat.reduceEqDiff, false_and, true_and, if_false, up, mi_pi, mi_pl, mi_pr, mi_pN, mt_pi, mt_pl, mt_pr, mt_pN, hta, htb]
          · simp only [Tx_up15, Tx_up37]
            refine Tx_of tx (by simp only [mz_pi, mz_pl, mz_pr, mz_pN]) (by simp only [mt_pi, mt_pl, mt_pr, mt_pN]; omega) (fun b hb => ?_) ?_ ?_ ?_
            · have q1 : (b = g_t h) = False := eq_false (by omega)
              have q2 : (b = g_t h + 1) = False := eq_false (by omega)
              simp only [mc_pi, mc_pl, mc_pr, mc_pN, mn_pi, mn_pl, mn_pr, mn_pN, mt_pi, mt_pl, mt_pr, mt_pN, q1, q2, if_false, and_self]
            · simp only [mr_pi, mr_pl, mr_pr, mr_pN, mt_pi, mt_pl, mt_pr, mt_pN, hta, htb, hAe, Nat.reduceLT, Nat.reduceEqDiff, and_false, and_true, if_false]
            · simp only [mi_pi, mi_pl, mi_pr, mi_pN, mt_pi, mt_pl, mt_pr, mt_pN, hta, htb, mi_pi, mi_pl, mi_pr, hAe, Nat.reduceLT, Nat.reduceEqDiff, and_false, and_true, if_false]
            · simp only [mi_pi, mi_pl, mi_pr, mi_pN, mt_pi, mt_pl, mt_pr, mt_pN, hta, htb, mi_pi, mi_pl, mi_pr, hAe, Nat.reduceLT, Nat.reduceEqDiff, and_false, and_true, if_false]
        · exact absurd (show (3 : Int32) < 4 by decide) bx9
        · exact absurd (show (3 : Int32) < 5 by decide) bx9
        · exact absurd (show (3 : Int32) < 6 by decide) bx9
        · exact absurd (show (3 : Int32) < 7 by decide) bx9
        · exact absurd (show (3 : Int32) < 8 by decide) bx9
      · have hl2 := vl1
        obtain ⟨⟨b1, b2, b3, b4, b5, b6⟩, ln⟩ := hl2
        replace b1 := b1.symm
        replace b2 := b2.symm
        replace b3 := b3.symm
        replace b4 := b4.symm
        replace b5 := b5.symm
        replace b6 := b6.symm
        rw [b1, b2, b3, b4, b5, b6] at ln
        rcases x_cases bx0 (x_le bx9 (by decide)) with rfl | rfl | rfl | rfl | rfl | rfl | rfl | rfl | rfl
        · have hq9 := ln
          rcases ln.2.2.2.1 with s0 | s0
          · skip
            simp only [↓ar_ite, ↓ar_ite2, ↓ar_ok, ↓reduceIte, o319_0, o319_1, o319_2, o319_3, o319_4, o319_7, o319_8, o319_11, o319_22, o319_23, o94_0, o94_1, o94_2, o94_5, o94_6, o94_7, o94_8, o94_11, o94_12, o94_13, o94_14, o94_15, o94_18, o94_20, o94_21, o94_22, o94_24, o94_27, o94_28, o94_31, o94_33, o94_36, o94_39, o225_0, o225_1, o225_2, o225_5, o225_12, o225_13, o225_14, o225_17, o225_18, o225_19, o225_26, o225_27, o225_30, o225_35, o225_36, o225_39, o225_40, o225_41, o225_42, o225_43, o225_44, o225_68, o225_69, o225_70, o225_81, o225_82, o225_85, o225_86, o225_89, o225_90, o225_91, o225_94, o225_95, o225_98, o225_99, o225_102, o225_105, o225_106, o225_107, o225_114, o225_115, o225_116, o225_119, o225_122, o225_123, o225_124, o225_127, o225_128, o225_129, o225_130, o225_133, o225_136, o225_137, o225_140, o225_141, o225_142, o225_143, o225_146, o225_149, o225_150, o225_151, o225_154, o225_155, o225_156, o225_159, o225_162, c_X8_isThrown_, c_X8_isLens, c_X5_checkChoice, c_lensOf_1, c_X3_init, c_X7_init, c_X0_done (cs := A 18), c_X8_done (cs := A 30), mc_pi, mc_pl, mc_pr, mc_pN, mn_pi, mn_pl, mn_pr, mn_pN, mi_pi, mi_pl, mi_pr, mi_pN, ml_pi, ml_pl, ml_pr, ml_pN, mr_pi, mr_pl, mr_pr, mr_pN, mt_pi, mt_pl, mt_pr, mt_pN, mz_pi, mz_pl, mz_pr, mz_pN, mcs_0, mcs_i, mcs_r, Kn_v, Kn_0, mrf_some, kok_0, true_and, and_true, and_false, or_true, not_false_eq_true, implies_true, and_self, Nat.reduceEqDiff, Nat.reduceLeDiff, Nat.reduceSub, Nat.reduceAdd, Nat.zero_le, Nat.le_refl, i10, i01, kz0, lt_le, cl1, Kc_v, Sum.inl.injEq, Option.some.injEq, Value.int.injEq, exists_eq_left', Nat.reduceLT, hAe, kc0, kc16, kc17, kc18, kc22, kc29, kc30, kc38, kc39, kn18, kn29, kn30, kr0_8, kr0_9, kr16_0, kr17_0, kr22_7, kr22_8, kr29_1, kz, be0, b1, b2, b3, b4, b5, b6, bx0, bx9, s0, kz0, hta, htb, hzt, hzt1, lne, lti, Int.reduceLT, or_self, o47_0, o47_3, o47_4, o47_5, o47_8, o47_9, o47_12, o47_13, o47_16, o47_17, o47_20, o47_21, o47_22, o47_23, o47_26, o47_29, o47_30, o47_31, o47_34, o47_37, o47_38, o47_39, o47_42, o47_45, o47_46, o136_0, o136_1, o136_28, o136_29, o136_30, o136_33, o136_36, o137_0, o137_1, o137_12, o137_13, o137_14, o137_17, cl1]
            (try simp only [ite_ar, implies_true, true_and, and_true, Classical.not_not])
            rw [s0] at hq9
            refine ⟨rfl, ⟨(up (up A 16 (g_t h)) 38 (g_t h + 1)), rfl, rfl, rfl, ⟨?_, ?_, ?_, ?_, ?_, ?_, ?_, ?_, ?_, ?_, ?_, ?_⟩⟩⟩
            · refine ⟨(inj_up (inj_up hA nta) (nt_up ntb (fun z => by omega))), ?_, (Kz1_up (Kz1_up vk.2.2.1 (by simp only [mz_pi, mz_pl, mz_pr, mz_pN]) (by simp only [mt_pi, mt_pl, mt_pr, mt_pN]; omega) hzt (by simp only [mt_pi, mt_pl, mt_pr, mt_pN]; omega)) rfl (Nat.le_refl _) (by simp only [mz_pi, mz_pl, mz_pr, mz_pN]; exact hzt1) (by simp only [mt_pi, mt_pl, mt_pr, mt_pN]; omega)), ?_, ?_⟩
              · simp only [Kc1, up, mc_pi, mc_pl, mc_pr, mc_pN, mt_pi, mt_pl, mt_pr, mt_pN, hta, htb, hn1, hn2, Nat.reduceLT, Nat.reduceEqDiff, if_false, if_true, kc0, kc1, kc2, kc3, kc4, kc5, kc6, kc7, kc8, kc9, kc10, kc11, kc12, kc13, kc14, kc15, kc17, kc18, kc19, kc20, kc21, kc22, kc23, kc24, kc25, kc26, kc27, kc28, kc29, kc30, kc31, kc32, kc33, kc34, kc35, kc36, kc37, kc39, and_self]
              · simp only [Kn1, up, mn_pi, mn_pl, mn_pr, mn_pN, mt_pi, mt_pl, mt_pr, mt_pN, hta, htb, Nat.reduceLT, Nat.reduceEqDiff, if_false, kn3, kn4, kn18, kn21, kn23, kn24, kn25, kn26, kn27, kn29, kn30, and_self]
              · simp only [Kr1, up, mr_pi, mr_pl, mr_pr, mr_pN, mt_pi, mt_pl, mt_pr, mt_pN, hta, hta2, htb, hn1, hAe, Nat.reduceLT, Nat.reduceEqDiff, and_false, and_true, if_false, if_true, kr0_0, kr0_1, kr0_2, kr0_3, kr0_4, kr0_5, kr0_7, kr0_8, kr0_9, kr0_10, kr1_0, kr2_0, kr5_0, kr5_1, kr6_0, kr6_1, kr7_0, kr7_1, kr8_0, kr9_0, kr10_0, kr11_0, kr12_0, kr13_0, kr14_0, kr15_0, kr17_0, kr19_0, kr19_1, kr22_0, kr22_1, kr22_2, kr22_3, kr22_4, kr22_5, kr22_7, kr22_8, kr25_0, kr25_1, kr25_2, kr26_0, kr26_1, kr26_2, kr29_0, kr29_1, and_self]
            · simp only [Cn, up, mi_pi, mi_pl, mi_pr, mi_pN, mt_pi, mt_pl, mt_pr, mt_pN, hta, htb, mi_pi, mi_pl, mi_pr, hAe, Nat.reduceLT, Nat.reduceEqDiff, and_true, if_false, ki5_2, ki6_2, ki7_2, ki8_1, ki8_2, ki8_3, ki9_1, ki9_2, ki9_3, ki10_1, ki10_2, ki10_3, ki11_1, ki11_2, ki11_3, ki12_1, ki12_2, ki12_3, ki13_1, ki13_2, ki13_3, ki14_1, ki14_2, ki14_3, ki28_0, ki28_1, ki31_0, ki31_1, ki32_0, ki32_1, ki33_0, ki33_1, ki34_0, ki34_1, ki35_0, ki35_1, ki36_0, ki36_1, and_self]
            · (try simp only [Vq0_pi_j18 hA, Vq0_pi_j22 hA, Vq0_pi_j30 hA, Vq0_pl, Vq0_pr, Vq0_up16, Vq0_up38, Vq0_pia, Vq0_pN, nta, ntb, mt_pi, mt_pl, mt_pr, mt_pN])
              exact v0
            · (try simp only [Vq1_pi_j18 hA, Vq1_pi_j22 hA, Vq1_pi_j30 hA, Vq1_pl, Vq1_pr, Vq1_up16, Vq1_up38, Vq1_pia, Vq1_pN, nta, ntb, mt_pi, mt_pl, mt_pr, mt_pN])
              exact v1
            · (try simp only [Vq2_pi_j18 hA, Vq2_pi_j22 hA, Vq2_pi_j30 hA, Vq2_pl, Vq2_pr, Vq2_up16, Vq2_up38, Vq2_pia, Vq2_pN, nta, ntb, mt_pi, mt_pl, mt_pr, mt_pN])
              exact v2
            · (try simp only [Vp_pi_j18 hA, Vp_pi_j30 hA, Vp_thr hA, Vp_pl, Vp_pr, Vp_up16, Vp_up38, Vp_pia, Vp_pN, nta, ntb, mt_pi, mt_pl, mt_pr, mt_pN])
              exact vp
            · (try simp only [Vl0_pi_j18 hA, Vl0_pi_j22 hA, Vl0_pi_j30 hA, Vl0_pl, Vl0_pr, Vl0_up16, Vl0_up38, Vl0_pia, Vl0_pN, nta, ntb, mt_pi, mt_pl, mt_pr, mt_pN])
              exact vl0
            · simp only [Vl1, up, mi_pi, mi_pl, mi_pr, mi_pN, mt_pi, mt_pl, mt_pr, mt_pN, hta2, htb2, hn1, hn2, mi_pi, mi_pl, mi_pr, Nat.reduceLT, Nat.reduceEqDiff, and_false, true_and, and_true, if_false, if_true, true_and, and_self, and_true]
              first | exact hq9 | exact ⟨⟨rfl, rfl, rfl, rfl, rfl, rfl⟩, hq9⟩ | exact ⟨trivial, hq9⟩
            · (try simp only [Vlr_pi_j18 hA, Vlr_pi_j22 hA, Vlr_pi_j30 hA, Vlr_pl_j39 hA, Vlr_pr, Vlr_up16, Vlr_up38, Vlr_pia, Vlr_pN, nta, ntb, mt_pi, mt_pl, mt_pr, mt_pN])
              exact vlr
            · (try simp only [Vsr_pi_j18 hA, Vsr_pi_j22 hA, Vsr_pi_j30 hA, Vsr_pl_j39 hA, Vsr_pr, Vsr_up16, Vsr_up38, Vsr_pia, Vsr_pN, nta, ntb, mt_pi, mt_pl, mt_pr, mt_pN])
              exact vsr
            · refine Vc_of (c := 0) vc (by decide) (fun k => ?_) (fun k => ?_) <;> simp only [mi_pi, mi_pl, mi_pr, hAe, Nat.reduceLT, Nat.reduceEqDiff, false_and, true_and, if_false, up, mi_pi, mi_pl, mi_pr, mi_pN, mt_pi, mt_pl, mt_pr, mt_pN, hta, htb]
            · simp only [Tx_up16, Tx_up38]
              refine Tx_of tx (by simp only [mz_pi, mz_pl, mz_pr, mz_pN]) (by simp only [mt_pi, mt_pl, mt_pr, mt_pN]; omega) (fun b hb => ?_) ?_ ?_ ?_
              · have q1 : (b = g_t h) = False := eq_false (by omega)
                have q2 : (b = g_t h + 1) = False := eq_false (by omega)
                simp only [mc_pi, mc_pl, mc_pr, mc_pN, mn_pi, mn_pl, mn_pr, mn_pN, mt_pi, mt_pl, mt_pr, mt_pN, q1, q2, if_false, and_self]
              · simp only [mr_pi, mr_pl, mr_pr, mr_pN, mt_pi, mt_pl, mt_pr, mt_pN, hta, htb, hAe, Nat.reduceLT, Nat.reduceEqDiff, and_false, and_true, if_false]
              · simp only [mi_pi, mi_pl, mi_pr, mi_pN, mt_pi, mt_pl, mt_pr, mt_pN, hta, htb, mi_pi, mi_pl, mi_pr, hAe, Nat.reduceLT, Nat.reduceEqDiff, and_false, and_true, if_false]
              · simp only [mi_pi, mi_pl, mi_pr, mi_pN, mt_pi, mt_pl, mt_pr, mt_pN, hta, htb, mi_pi, mi_pl, mi_pr, hAe, Nat.reduceLT, Nat.reduceEqDiff, and_false, and_true, if_false]
          · skip
            simp only [↓ar_ite, ↓ar_ite2, ↓ar_ok, ↓reduceIte, o319_0, o319_1, o319_2, o319_3, o319_4, o319_7, o319_8, o319_11, o319_22, o319_23, o94_0, o94_1, o94_2, o94_5, o94_6, o94_7, o94_8, o94_11, o94_12, o94_13, o94_14, o94_15, o94_18, o94_20, o94_21, o94_22, o94_24, o94_27, o94_28, o94_31, o94_33, o94_36, o94_39, o225_0, o225_1, o225_2, o225_5, o225_12, o225_13, o225_14, o225_17, o225_18, o225_19, o225_26, o225_27, o225_30, o225_35, o225_36, o225_39, o225_40, o225_41, o225_42, o225_43, o225_44, o225_68, o225_69, o225_70, o225_81, o225_82, o225_85, o225_86, o225_89, o225_90, o225_91, o225_94, o225_95, o225_98, o225_99, o225_102, o225_110, o225_111, o225_115, o225_116, o225_119, o225_122, o225_123, o225_124, o225_127, o225_128, o225_129, o225_130, o225_133, o225_136, o225_137, o225_140, o225_141, o225_142, o225_143, o225_146, o225_149, o225_150, o225_151, o225_154, o225_155, o225_156, o225_159, o225_162, c_X8_isThrown_, c_X8_isLens, c_X5_checkChoice, c_lensOf_1, c_X3_init, c_X7_init, c_X0_done (cs := A 18), c_X8_done (cs := A 30), mc_pi, mc_pl, mc_pr, mc_pN, mn_pi, mn_pl, mn_pr, mn_pN, mi_pi, mi_pl, mi_pr, mi_pN, ml_pi, ml_pl, ml_pr, ml_pN, mr_pi, mr_pl, mr_pr, mr_pN, mt_pi, mt_pl, mt_pr, mt_pN, mz_pi, mz_pl, mz_pr, mz_pN, mcs_0, mcs_i, mcs_r, Kn_v, Kn_0, mrf_some, kok_0, true_and, and_true, and_false, or_true, not_false_eq_true, implies_true, and_self, Nat.reduceEqDiff, Nat.reduceLeDiff, Nat.reduceSub, Nat.reduceAdd, Nat.zero_le, Nat.le_refl, i10, i01, kz1, lt_le, cl1, Kc_v, Sum.inl.injEq, Option.some.injEq, Value.int.injEq, exists_eq_left', Nat.reduceLT, hAe, kc0, kc16, kc17, kc18, kc22, kc29, kc30, kc38, kc39, kn18, kn29, kn30, kr0_8, kr0_9, kr16_0, kr17_0, kr22_7, kr22_8, kr29_1, kz, be0, b1, b2, b3, b4, b5, b6, bx0, bx9, s0, kz1, hta, htb, hzt, hzt1, lne, lti, Int.reduceLT, or_self, o47_0, o47_3, o47_4, o47_5, o47_8, o47_9, o47_12, o47_13, o47_16, o47_17, o47_20, o47_21, o47_22, o47_23, o47_26, o47_29, o47_30, o47_31, o47_34, o47_37, o47_38, o47_39, o47_42, o47_45, o47_46, o136_0, o136_1, o136_28, o136_29, o136_30, o136_33, o136_36, o137_0, o137_1, o137_12, o137_13, o137_14, o137_17, cl1]
            (try simp only [ite_ar, implies_true, true_and, and_true, Classical.not_not])
            rw [s0] at hq9
            refine ⟨rfl, ⟨(up (up A 16 (g_t h)) 38 (g_t h + 1)), rfl, rfl, rfl, ⟨?_, ?_, ?_, ?_, ?_, ?_, ?_, ?_, ?_, ?_, ?_, ?_⟩⟩⟩
            · refine ⟨(inj_up (inj_up hA nta) (nt_up ntb (fun z => by omega))), ?_, (Kz1_up (Kz1_up vk.2.2.1 (by simp only [mz_pi, mz_pl, mz_pr, mz_pN]) (by simp only [mt_pi, mt_pl, mt_pr, mt_pN]; omega) hzt (by simp only [mt_pi, mt_pl, mt_pr, mt_pN]; omega)) rfl (Nat.le_refl _) (by simp only [mz_pi, mz_pl, mz_pr, mz_pN]; exact hzt1) (by simp only [mt_pi, mt_pl, mt_pr, mt_pN]; omega)), ?_, ?_⟩
              · simp only [Kc1, up, mc_pi, mc_pl, mc_pr, mc_pN, mt_pi, mt_pl, mt_pr, mt_pN, hta, htb, hn1, hn2, Nat.reduceLT, Nat.reduceEqDiff, if_false, if_true, kc0, kc1, kc2, kc3, kc4, kc5, kc6, kc7, kc8, kc9, kc10, kc11, kc12, kc13, kc14, kc15, kc17, kc18, kc19, kc20, kc21, kc22, kc23, kc24, kc25, kc26, kc27, kc28, kc29, kc30, kc31, kc32, kc33, kc34, kc35, kc36, kc37, kc39, and_self]
              · simp only [Kn1, up, mn_pi, mn_pl, mn_pr, mn_pN, mt_pi, mt_pl, mt_pr, mt_pN, hta, htb, Nat.reduceLT, Nat.reduceEqDiff, if_false, kn3, kn4, kn18, kn21, kn23, kn24, kn25, kn26, kn27, kn29, kn30, and_self]
              · simp only [Kr1, up, mr_pi, mr_pl, mr_pr, mr_pN, mt_pi, mt_pl, mt_pr, mt_pN, hta, hta2, htb, hn1, hAe, Nat.reduceLT, Nat.reduceEqDiff, and_false, and_true, if_false, if_true, kr0_0, kr0_1, kr0_2, kr0_3, kr0_4, kr0_5, kr0_7, kr0_8, kr0_9, kr0_10, kr1_0, kr2_0, kr5_0, kr5_1, kr6_0, kr6_1, kr7_0, kr7_1, kr8_0, kr9_0, kr10_0, kr11_0, kr12_0, kr13_0, kr14_0, kr15_0, kr17_0, kr19_0, kr19_1, kr22_0, kr22_1, kr22_2, kr22_3, kr22_4, kr22_5, kr22_7, kr22_8, kr25_0, kr25_1, kr25_2, kr26_0, kr26_1, kr26_2, kr29_0, kr29_1, and_self]
            · simp only [Cn, up, mi_pi, mi_pl, mi_pr, mi_pN, mt_pi, mt_pl, mt_pr, mt_pN, hta, htb, mi_pi, mi_pl, mi_pr, hAe, Nat.reduceLT, Nat.reduceEqDiff, and_true, if_false, ki5_2, ki6_2, ki7_2, ki8_1, ki8_2, ki8_3, ki9_1, ki9_2, ki9_3, ki10_1, ki10_2, ki10_3, ki11_1, ki11_2, ki11_3, ki12_1, ki12_2, ki12_3, ki13_1, ki13_2, ki13_3, ki14_1, ki14_2, ki14_3, ki28_0, ki28_1, ki31_0, ki31_1, ki32_0, ki32_1, ki33_0, ki33_1, ki34_0, ki34_1, ki35_0, ki35_1, ki36_0, ki36_1, and_self]
            · (try simp only [Vq0_pi_j18 hA, Vq0_pi_j22 hA, Vq0_pi_j30 hA, Vq0_pl, Vq0_pr, Vq0_up16, Vq0_up38, Vq0_pia, Vq0_pN, nta, ntb, mt_pi, mt_pl, mt_pr, mt_pN])
              exact v0
            · (try simp only [Vq1_pi_j18 hA, Vq1_pi_j22 hA, Vq1_pi_j30 hA, Vq1_pl, Vq1_pr, Vq1_up16, Vq1_up38, Vq1_pia, Vq1_pN, nta, ntb, mt_pi, mt_pl, mt_pr, mt_pN])
              exact v1
            · (try simp only [Vq2_pi_j18 hA, Vq2_pi_j22 hA, Vq2_pi_j30 hA, Vq2_pl, Vq2_pr, Vq2_up16, Vq2_up38, Vq2_pia, Vq2_pN, nta, ntb, mt_pi, mt_pl, mt_pr, mt_pN])
              exact v2
            · (try simp only [Vp_pi_j18 hA, Vp_pi_j30 hA, Vp_thr hA, Vp_pl, Vp_pr, Vp_up16, Vp_up38, Vp_pia, Vp_pN, nta, ntb, mt_pi, mt_pl, mt_pr, mt_pN])
              exact vp
            · (try simp only [Vl0_pi_j18 hA, Vl0_pi_j22 hA, Vl0_pi_j30 hA, Vl0_pl, Vl0_pr, Vl0_up16, Vl0_up38, Vl0_pia, Vl0_pN, nta, ntb, mt_pi, mt_pl, mt_pr, mt_pN])
              exact vl0
            · simp only [Vl1, up, mi_pi, mi_pl, mi_pr, mi_pN, mt_pi, mt_pl, mt_pr, mt_pN, hta2, htb2, hn1, hn2, mi_pi, mi_pl, mi_pr, Nat.reduceLT, Nat.reduceEqDiff, and_false, true_and, and_true, if_false, if_true, true_and, and_self, and_true]
              first | exact hq9 | exact ⟨⟨rfl, rfl, rfl, rfl, rfl, rfl⟩, hq9⟩ | exact ⟨trivial, hq9⟩
            · (try simp only [Vlr_pi_j18 hA, Vlr_pi_j22 hA, Vlr_pi_j30 hA, Vlr_pl_j39 hA, Vlr_pr, Vlr_up16, Vlr_up38, Vlr_pia, Vlr_pN, nta, ntb, mt_pi, mt_pl, mt_pr, mt_pN])
              exact vlr
            · (try simp only [Vsr_pi_j18 hA, Vsr_pi_j22 hA, Vsr_pi_j30 hA, Vsr_pl_j39 hA, Vsr_pr, Vsr_up16, Vsr_up38, Vsr_pia, Vsr_pN, nta, ntb, mt_pi, mt_pl, mt_pr, mt_pN])
              exact vsr
            · refine Vc_of (c := 0) vc (by decide) (fun k => ?_) (fun k => ?_) <;> simp only [mi_pi, mi_pl, mi_pr, hAe, Nat.reduceLT, Nat.reduceEqDiff, false_and, true_and, if_false, up, mi_pi, mi_pl, mi_pr, mi_pN, mt_pi, mt_pl, mt_pr, mt_pN, hta, htb]
            · simp only [Tx_up16, Tx_up38]
              refine Tx_of tx (by simp only [mz_pi, mz_pl, mz_pr, mz_pN]) (by simp only [mt_pi, mt_pl, mt_pr, mt_pN]; omega) (fun b hb => ?_) ?_ ?_ ?_
              · have q1 : (b = g_t h) = False := eq_false (by omega)
                have q2 : (b = g_t h + 1) = False := eq_false (by omega)
                simp only [mc_pi, mc_pl, mc_pr, mc_pN, mn_pi, mn_pl, mn_pr, mn_pN, mt_pi, mt_pl, mt_pr, mt_pN, q1, q2, if_false, and_self]
              · simp only [mr_pi, mr_pl, mr_pr, mr_pN, mt_pi, mt_pl, mt_pr, mt_pN, hta, htb, hAe, Nat.reduceLT, Nat.reduceEqDiff, and_false, and_true, if_false]
              · simp only [mi_pi, mi_pl, mi_pr, mi_pN, mt_pi, mt_pl, mt_pr, mt_pN, hta, htb, mi_pi, mi_pl, mi_pr, hAe, Nat.reduceLT, Nat.reduceEqDiff, and_false, and_true, if_false]
              · simp only [mi_pi, mi_pl, mi_pr, mi_pN, mt_pi, mt_pl, mt_pr, mt_pN, hta, htb, mi_pi, mi_pl, mi_pr, hAe, Nat.reduceLT, Nat.reduceEqDiff, and_false, and_true, if_false]
        · have hq9 := lnCut2 ln (by decide) (by decide)
          rcases ln.2.2.2.1 with s0 | s0
          · skip
            simp only [↓ar_ite, ↓ar_ite2, ↓ar_ok, ↓reduceIte, o319_0, o319_1, o319_2, o319_3, o319_4, o319_7, o319_8, o319_11, o319_22, o319_23, o94_0, o94_1, o94_2, o94_5, o94_6, o94_7, o94_8, o94_11, o94_12, o94_13, o94_14, o94_15, o94_18, o94_20, o94_21, o94_22, o94_24, o94_27, o94_28, o94_31, o94_33, o94_36, o94_39, o225_0, o225_1, o225_2, o225_5, o225_12, o225_13, o225_14, o225_17, o225_18, o225_19, o225_26, o225_27, o225_30, o225_35, o225_36, o225_39, o225_40, o225_41, o225_42, o225_43, o225_44, o225_47, o225_48, o225_51, o225_52, o225_53, o225_54, o225_57, o225_58, o225_61, o225_64, o225_65, o225_149, o225_150, o225_151, o225_154, o225_155, o225_156, o225_159, o225_162, c_X8_isThrown_, c_X8_isLens, c_X5_checkChoice, c_lensOf_1, c_X3_init, c_X7_init, c_X3_rests, c_X7_rests, c_X0_done (cs := A 18), c_X8_done (cs := A 30), mc_pi, mc_pl, mc_pr, mc_pN, mn_pi, mn_pl, mn_pr, mn_pN, mi_pi, mi_pl, mi_pr, mi_pN, ml_pi, ml_pl, ml_pr, ml_pN, mr_pi, mr_pl, mr_pr, mr_pN, mt_pi, mt_pl, mt_pr, mt_pN, mz_pi, mz_pl, mz_pr, mz_pN, mcs_0, mcs_i, mcs_r, Kn_v, Kn_0, mrf_some, true_and, and_true, and_false, or_true, not_false_eq_true, implies_true, and_self, Nat.reduceEqDiff, Nat.reduceLeDiff, Nat.reduceSub, Nat.reduceAdd, Nat.zero_le, Nat.le_refl, i10, kz0, lt_le, cl1, Kc_v, Sum.inl.injEq, Option.some.injEq, Value.int.injEq, exists_eq_left', Nat.reduceLT, hAe, kc0, kc16, kc17, kc18, kc22, kc29, kc30, kc38, kc39, kn18, kn29, kn30, kr0_8, kr0_9, kr16_0, kr17_0, kr22_7, kr22_8, kr29_1, kz, be0, b1, b3, b4, b5, bx0, bx9, s0, kz0, hta, htb, hzt, hzt1, lne, lti, Int.reduceLT, or_self, o48_0, o48_3, o48_4, o48_5, o48_8, o48_9, o48_12, o48_13, o48_14, o48_15, o48_16, o48_19, o48_22, o136_0, o136_1, o136_37, o136_38, o136_39, o136_42, o136_43, o136_46, o136_49, o137_0, o137_1, o137_12, o137_13, o137_14, o137_17, o224_0, o224_3, o224_4, o224_5, o224_8, o224_9, o224_10, o224_11, o224_12, o224_15, o224_16, o224_19, cl1]
            (try simp only [ite_ar, implies_true, true_and, and_true, Classical.not_not])
            rw [s0] at hq9
            refine ⟨rfl, ⟨(up (up A 16 (g_t h)) 38 (g_t h + 1)), rfl, rfl, rfl, ⟨?_, ?_, ?_, ?_, ?_, ?_, ?_, ?_, ?_, ?_, ?_, ?_⟩⟩⟩
            · refine ⟨(inj_up (inj_up hA nta) (nt_up ntb (fun z => by omega))), ?_, (Kz1_up (Kz1_up vk.2.2.1 (by simp only [mz_pi, mz_pl, mz_pr, mz_pN]) (by simp only [mt_pi, mt_pl, mt_pr, mt_pN]; omega) hzt (by simp only [mt_pi, mt_pl, mt_pr, mt_pN]; omega)) rfl (Nat.le_refl _) (by simp only [mz_pi, mz_pl, mz_pr, mz_pN]; exact hzt1) (by simp only [mt_pi, mt_pl, mt_pr, mt_pN]; omega)), ?_, ?_⟩
              · simp only [Kc1, up, mc_pi, mc_pl, mc_pr, mc_pN, mt_pi, mt_pl, mt_pr, mt_pN, hta, htb, hn1, hn2, Nat.reduceLT, Nat.reduceEqDiff, if_false, if_true, kc0, kc1, kc2, kc3, kc4, kc5, kc6, kc7, kc8, kc9, kc10, kc11, kc12, kc13, kc14, kc15, kc17, kc18, kc19, kc20, kc21, kc22, kc23, kc24, kc25, kc26, kc27, kc28, kc29, kc30, kc31, kc32, kc33, kc34, kc35, kc36, kc37, kc39, and_self]
              · simp only [Kn1, up, mn_pi, mn_pl, mn_pr, mn_pN, mt_pi, mt_pl, mt_pr, mt_pN, hta, htb, Nat.reduceLT, Nat.reduceEqDiff, if_false, kn3, kn4, kn18, kn21, kn23, kn24, kn25, kn26, kn27, kn29, kn30, and_self]
              · simp only [Kr1, up, mr_pi, mr_pl, mr_pr, mr_pN, mt_pi, mt_pl, mt_pr, mt_pN, hta, hta2, htb, hn1, hAe, Nat.reduceLT, Nat.reduceEqDiff, and_false, and_true, if_false, if_true, kr0_0, kr0_1, kr0_2, kr0_3, kr0_4, kr0_5, kr0_7, kr0_8, kr0_9, kr0_10, kr1_0, kr2_0, kr5_0, kr5_1, kr6_0, kr6_1, kr7_0, kr7_1, kr8_0, kr9_0, kr10_0, kr11_0, kr12_0, kr13_0, kr14_0, kr15_0, kr17_0, kr19_0, kr19_1, kr22_0, kr22_1, kr22_2, kr22_3, kr22_4, kr22_5, kr22_7, kr22_8, kr25_0, kr25_1, kr25_2, kr26_0, kr26_1, kr26_2, kr29_0, kr29_1, and_self]
            · simp only [Cn, up, mi_pi, mi_pl, mi_pr, mi_pN, mt_pi, mt_pl, mt_pr, mt_pN, hta, htb, mi_pi, mi_pl, mi_pr, hAe, Nat.reduceLT, Nat.reduceEqDiff, and_true, if_false, ki5_2, ki6_2, ki7_2, ki8_1, ki8_2, ki8_3, ki9_1, ki9_2, ki9_3, ki10_1, ki10_2, ki10_3, ki11_1, ki11_2, ki11_3, ki12_1, ki12_2, ki12_3, ki13_1, ki13_2, ki13_3, ki14_1, ki14_2, ki14_3, ki28_0, ki28_1, ki31_0, ki31_1, ki32_0, ki32_1, ki33_0, ki33_1, ki34_0, ki34_1, ki35_0, ki35_1, ki36_0, ki36_1, and_self]
            · (try simp only [Vq0_pi_j18 hA, Vq0_pi_j22 hA, Vq0_pi_j30 hA, Vq0_pl, Vq0_pr, Vq0_up16, Vq0_up38, Vq0_pia, Vq0_pN, nta, ntb, mt_pi, mt_pl, mt_pr, mt_pN])
              exact v0
            · (try simp only [Vq1_pi_j18 hA, Vq1_pi_j22 hA, Vq1_pi_j30 hA, Vq1_pl, Vq1_pr, Vq1_up16, Vq1_up38, Vq1_pia, Vq1_pN, nta, ntb, mt_pi, mt_pl, mt_pr, mt_pN])
              exact v1
            · (try simp only [Vq2_pi_j18 hA, Vq2_pi_j22 hA, Vq2_pi_j30 hA, Vq2_pl, Vq2_pr, Vq2_up16, Vq2_up38, Vq2_pia, Vq2_pN, nta, ntb, mt_pi, mt_pl, mt_pr, mt_pN])
              exact v2
            · (try simp only [Vp_pi_j18 hA, Vp_pi_j30 hA, Vp_thr hA, Vp_pl, Vp_pr, Vp_up16, Vp_up38, Vp_pia, Vp_pN, nta, ntb, mt_pi, mt_pl, mt_pr, mt_pN])
              exact vp
            · (try simp only [Vl0_pi_j18 hA, Vl0_pi_j22 hA, Vl0_pi_j30 hA, Vl0_pl, Vl0_pr, Vl0_up16, Vl0_up38, Vl0_pia, Vl0_pN, nta, ntb, mt_pi, mt_pl, mt_pr, mt_pN])
              exact vl0
            · simp only [Vl1, up, mi_pi, mi_pl, mi_pr, mi_pN, mt_pi, mt_pl, mt_pr, mt_pN, hta2, htb2, hn1, hn2, mi_pi, mi_pl, mi_pr, Nat.reduceLT, Nat.reduceEqDiff, and_false, true_and, and_true, if_false, if_true, true_and, and_self, and_true]
              first | exact hq9 | exact ⟨⟨rfl, rfl, rfl, rfl, rfl, rfl⟩, hq9⟩ | exact ⟨trivial, hq9⟩
            · (try simp only [Vlr_pi_j18 hA, Vlr_pi_j22 hA, Vlr_pi_j30 hA, Vlr_pl_j39 hA, Vlr_pr, Vlr_up16, Vlr_up38, Vlr_pia, Vlr_pN, nta, ntb, mt_pi, mt_pl, mt_pr, mt_pN])
              exact vlr
            · (try simp only [Vsr_pi_j18 hA, Vsr_pi_j22 hA, Vsr_pi_j30 hA, Vsr_pl_j39 hA, Vsr_pr, Vsr_up16, Vsr_up38, Vsr_pia, Vsr_pN, nta, ntb, mt_pi, mt_pl, mt_pr, mt_pN])
              exact vsr
            · refine Vc_of (c := 0) vc (by decide) (fun k => ?_) (fun k => ?_) <;> simp only [mi_pi, mi_pl, mi_pr, hAe, Nat.reduceLT, Nat.reduceEqDiff, false_and, true_and, if_false, up, mi_pi, mi_pl, mi_pr, mi_pN, mt_pi, mt_pl, mt_pr, mt_pN, hta, htb]
            · simp only [Tx_up16, Tx_up38]
              refine Tx_of tx (by simp only [mz_pi, mz_pl, mz_pr, mz_pN]) (by simp only [mt_pi, mt_pl, mt_pr, mt_pN]; omega) (fun b hb => ?_) ?_ ?_ ?_
              · have q1 : (b = g_t h) = False := eq_false (by omega)
                have q2 : (b = g_t h + 1) = False := eq_false (by omega)
                simp only [mc_pi, mc_pl, mc_pr, mc_pN, mn_pi, mn_pl, mn_pr, mn_pN, mt_pi, mt_pl, mt_pr, mt_pN, q1, q2, if_false, and_self]
              · simp only [mr_pi, mr_pl, mr_pr, mr_pN, mt_pi, mt_pl, mt_pr, mt_pN, hta, htb, hAe, Nat.reduceLT, Nat.reduceEqDiff, and_false, and_true, if_false]
              · simp only [mi_pi, mi_pl, mi_pr, mi_pN, mt_pi, mt_pl, mt_pr, mt_pN, hta, htb, mi_pi, mi_pl, mi_pr, hAe, Nat.reduceLT, Nat.reduceEqDiff, and_false, and_true, if_false]
              · simp only [mi_pi, mi_pl, mi_pr, mi_pN, mt_pi, mt_pl, mt_pr, mt_pN, hta, htb, mi_pi, mi_pl, mi_pr, hAe, Nat.reduceLT, Nat.reduceEqDiff, and_false, and_true, if_false]
          · skip
            simp only [↓ar_ite, ↓ar_ite2, ↓ar_ok, ↓reduceIte, o319_0, o319_1, o319_2, o319_3, o319_4, o319_7, o319_8, o319_11, o319_22, o319_23, o94_0, o94_1, o94_2, o94_5, o94_6, o94_7, o94_8, o94_11, o94_12, o94_13, o94_14, o94_15, o94_18, o94_20, o94_21, o94_22, o94_24, o94_27, o94_28, o94_31, o94_33, o94_36, o94_39, o225_0, o225_1, o225_2, o225_5, o225_12, o225_13, o225_14, o225_17, o225_18, o225_19, o225_26, o225_27, o225_30, o225_35, o225_36, o225_39, o225_40, o225_41, o225_42, o225_43, o225_44, o225_47, o225_48, o225_51, o225_52, o225_53, o225_54, o225_57, o225_58, o225_61, o225_64, o225_65, o225_149, o225_150, o225_151, o225_154, o225_155, o225_156, o225_159, o225_162, c_X8_isThrown_, c_X8_isLens, c_X5_checkChoice, c_lensOf_1, c_X3_init, c_X7_init, c_X3_rests, c_X7_rests, c_X0_done (cs := A 18), c_X8_done (cs := A 30), mc_pi, mc_pl, mc_pr, mc_pN, mn_pi, mn_pl, mn_pr, mn_pN, mi_pi, mi_pl, mi_pr, mi_pN, ml_pi, ml_pl, ml_pr, ml_pN, mr_pi, mr_pl, mr_pr, mr_pN, mt_pi, mt_pl, mt_pr, mt_pN, mz_pi, mz_pl, mz_pr, mz_pN, mcs_0, mcs_i, mcs_r, Kn_v, Kn_0, mrf_some, true_and, and_true, and_false, or_true, not_false_eq_true, implies_true, and_self, Nat.reduceEqDiff, Nat.reduceLeDiff, Nat.reduceSub, Nat.reduceAdd, Nat.zero_le, Nat.le_refl, i10, kz1, lt_le, cl1, Kc_v, Sum.inl.injEq, Option.some.injEq, Value.int.injEq, exists_eq_left', Nat.reduceLT, hAe, kc0, kc16, kc17, kc18, kc22, kc29, kc30, kc38, kc39, kn18, kn29, kn30, kr0_8, kr0_9, kr16_0, kr17_0, kr22_7, kr22_8, kr29_1, kz, be0, b1, b3, b4, b5, bx0, bx9, s0, kz1, hta, htb, hzt, hzt1, lne, lti, Int.reduceLT, or_self, o48_0, o48_3, o48_4, o48_5, o48_8, o48_9, o48_12, o48_13, o48_14, o48_15, o48_16, o48_19, o48_22, o136_0, o136_1, o136_37, o136_38, o136_39, o136_42, o136_43, o136_46, o136_49, o137_0, o137_1, o137_12, o137_13, o137_14, o137_17, o224_0, o224_3, o224_4, o224_5, o224_8, o224_9, o224_10, o224_11, o224_12, o224_15, o224_16, o224_19, cl1]
            (try simp only [ite_ar, implies_true, true_and, and_true, Classical.not_not])
            rw [s0] at hq9
            refine ⟨rfl, ⟨(up (up A 16 (g_t h)) 38 (g_t h + 1)), rfl, rfl, rfl, ⟨?_, ?_, ?_, ?_, ?_, ?_, ?_, ?_, ?_, ?_, ?_, ?_⟩⟩⟩
            · refine ⟨(inj_up (inj_up hA nta) (nt_up ntb (fun z => by omega))), ?_, (Kz1_up (Kz1_up vk.2.2.1 (by simp only [mz_pi, mz_pl, mz_pr, mz_pN]) (by simp only [mt_pi, mt_pl, mt_pr, mt_pN]; omega) hzt (by simp only [mt_pi, mt_pl, mt_pr, mt_pN]; omega)) rfl (Nat.le_refl _) (by simp only [mz_pi, mz_pl, mz_pr, mz_pN]; exact hzt1) (by simp only [mt_pi, mt_pl, mt_pr, mt_pN]; omega)), ?_, ?_⟩
              · simp only [Kc1, up, mc_pi, mc_pl, mc_pr, mc_pN, mt_pi, mt_pl, mt_pr, mt_pN, hta, htb, hn1, hn2, Nat.reduceLT, Nat.reduceEqDiff, if_false, if_true, kc0, kc1, kc2, kc3, kc4, kc5, kc6, kc7, kc8, kc9, kc10, kc11, kc12, kc13, kc14, kc15, kc17, kc18, kc19, kc20, kc21, kc22, kc23, kc24, kc25, kc26, kc27, kc28, kc29, kc30, kc31, kc32, kc33, kc34, kc35, kc36, kc37, kc39, and_self]
              · simp only [Kn1, up, mn_pi, mn_pl, mn_pr, mn_pN, mt_pi, mt_pl, mt_pr, mt_pN, hta, htb, Nat.reduceLT, Nat.reduceEqDiff, if_false, kn3, kn4, kn18, kn21, kn23, kn24, kn25, kn26, kn27, kn29, kn30, and_self]
              · simp only [Kr1, up, mr_pi, mr_pl, mr_pr, mr_pN, mt_pi, mt_pl, mt_pr, mt_pN, hta, hta2, htb, hn1, hAe, Nat.reduceLT, Nat.reduceEqDiff, and_false, and_true, if_false, if_true, kr0_0, kr0_1, kr0_2, kr0_3, kr0_4, kr0_5, kr0_7, kr0_8, kr0_9, kr0_10, kr1_0, kr2_0, kr5_0, kr5_1, kr6_0, kr6_1, kr7_0, kr7_1, kr8_0, kr9_0, kr10_0, kr11_0, kr12_0, kr13_0, kr14_0, kr15_0, kr17_0, kr19_0, kr19_1, kr22_0, kr22_1, kr22_2, kr22_3, kr22_4, kr22_5, kr22_7, kr22_8, kr25_0, kr25_1, kr25_2, kr26_0, kr26_1, kr26_2, kr29_0, kr29_1, and_self]
            · simp only [Cn, up, mi_pi, mi_pl, mi_pr, mi_pN, mt_pi, mt_pl, mt_pr, mt_pN, hta, htb, mi_pi, mi_pl, mi_pr, hAe, Nat.reduceLT, Nat.reduceEqDiff, and_true, if_false, ki5_2, ki6_2, ki7_2, ki8_1, ki8_2, ki8_3, ki9_1, ki9_2, ki9_3, ki10_1, ki10_2, ki10_3, ki11_1, ki11_2, ki11_3, ki12_1, ki12_2, ki12_3, ki13_1, ki13_2, ki13_3, ki14_1, ki14_2, ki14_3, ki28_0, ki28_1, ki31_0, ki31_1, ki32_0, ki32_1, ki33_0, ki33_1, ki34_0, ki34_1, ki35_0, ki35_1, ki36_0, ki36_1, and_self]
            · (try simp only [Vq0_pi_j18 hA, Vq0_pi_j22 hA, Vq0_pi_j30 hA, Vq0_pl, Vq0_pr, Vq0_up16, Vq0_up38, Vq0_pia, Vq0_pN, nta, ntb, mt_pi, mt_pl, mt_pr, mt_pN])
              exact v0
            · (try simp only [Vq1_pi_j18 hA, Vq1_pi_j22 hA, Vq1_pi_j30 hA, Vq1_pl, Vq1_pr, Vq1_up16, Vq1_up38, Vq1_pia, Vq1_pN, nta, ntb, mt_pi, mt_pl, mt_pr, mt_pN])
              exact v1
            · (try simp only [Vq2_pi_j18 hA, Vq2_pi_j22 hA, Vq2_pi_j30 hA, Vq2_pl, Vq2_pr, Vq2_up16, Vq2_up38, Vq2_pia, Vq2_pN, nta, ntb, mt_pi, mt_pl, mt_pr, mt_pN])
              exact v2
            · (try simp only [Vp_pi_j18 hA, Vp_pi_j30 hA, Vp_thr hA, Vp_pl, Vp_pr, Vp_up16, Vp_up38, Vp_pia, Vp_pN, nta, ntb, mt_pi, mt_pl, mt_pr, mt_pN])
              exact vp
            · (try simp only [Vl0_pi_j18 hA, Vl0_pi_j22 hA, Vl0_pi_j30 hA, Vl0_pl, Vl0_pr, Vl0_up16, Vl0_up38, Vl0_pia, Vl0_pN, nta, ntb, mt_pi, mt_pl, mt_pr, mt_pN])
              exact vl0
            · simp only [Vl1, up, mi_pi, mi_pl, mi_pr, mi_pN, mt_pi, mt_pl, mt_pr, mt_pN, hta2, htb2, hn1, hn2, mi_pi, mi_pl, mi_pr, Nat.reduceLT, Nat.reduceEqDiff, and_false, true_and, and_true, if_false, if_true, true_and, and_self, and_true]
              first | exact hq9 | exact ⟨⟨rfl, rfl, rfl, rfl, rfl, rfl⟩, hq9⟩ | exact ⟨trivial, hq9⟩
            · (try simp only [Vlr_pi_j18 hA, Vlr_pi_j22 hA, Vlr_pi_j30 hA, Vlr_pl_j39 hA, Vlr_pr, Vlr_up16, Vlr_up38, Vlr_pia, Vlr_pN, nta, ntb, mt_pi, mt_pl, mt_pr, mt_pN])
              exact vlr
            · (try simp only [Vsr_pi_j18 hA, Vsr_pi_j22 hA, Vsr_pi_j30 hA, Vsr_pl_j39 hA, Vsr_pr, Vsr_up16, Vsr_up38, Vsr_pia, Vsr_pN, nta, ntb, mt_pi, mt_pl, mt_pr, mt_pN])
              exact vsr
            · refine Vc_of (c := 0) vc (by decide) (fun k => ?_) (fun k => ?_) <;> simp only [mi_pi, mi_pl, mi_pr, hAe, Nat.reduceLT, Nat.reduceEqDiff, false_and, true_and, if_false, up, mi_pi, mi_pl, mi_pr, mi_pN, mt_pi, mt_pl, mt_pr, mt_pN, hta, htb]
            · simp only [Tx_up16, Tx_up38]
              refine Tx_of tx (by simp only [mz_pi, mz_pl, mz_pr, mz_pN]) (by simp only [mt_pi, mt_pl, mt_pr, mt_pN]; omega) (fun b hb => ?_) ?_ ?_ ?_
              · have q1 : (b = g_t h) = False := eq_false (by omega)
                have q2 : (b = g_t h + 1) = False := eq_false (by omega)
                simp only [mc_pi, mc_pl, mc_pr, mc_pN, mn_pi, mn_pl, mn_pr, mn_pN, mt_pi, mt_pl, mt_pr, mt_pN, q1, q2, if_false, and_self]
              · simp only [mr_pi, mr_pl, mr_pr, mr_pN, mt_pi, mt_pl, mt_pr, mt_pN, hta, htb, hAe, Nat.reduceLT, Nat.reduceEqDiff, and_false, and_true, if_false]
              · simp only [mi_pi, mi_pl, mi_pr, mi_pN, mt_pi, mt_pl, mt_pr, mt_pN, hta, htb, mi_pi, mi_pl, mi_pr, hAe, Nat.reduceLT, Nat.reduceEqDiff, and_false, and_true, if_false]
              · simp only [mi_pi, mi_pl, mi_pr, mi_pN, mt_pi, mt_pl, mt_pr, mt_pN, hta, htb, mi_pi, mi_pl, mi_pr, hAe, Nat.reduceLT, Nat.reduceEqDiff, and_false, and_true, if_false]
        · have hq9 := lnSeal ln
          rcases ln.2.2.2.1 with s0 | s0
          · skip
            simp only [↓ar_ite, ↓ar_ite2, ↓ar_ok, ↓reduceIte, o319_0, o319_1, o319_2, o319_3, o319_4, o319_7, o319_8, o319_11, o319_22, o319_23, o94_0, o94_1, o94_2, o94_5, o94_6, o94_7, o94_8, o94_11, o94_12, o94_13, o94_14, o94_15, o94_18, o94_20, o94_21, o94_22, o94_24, o94_27, o94_28, o94_31, o94_33, o94_36, o94_39, o225_0, o225_1, o225_2, o225_5, o225_12, o225_13, o225_14, o225_17, o225_18, o225_19, o225_26, o225_27, o225_30, o225_35, o225_36, o225_39, o225_40, o225_41, o225_42, o225_43, o225_44, o225_68, o225_69, o225_70, o225_81, o225_82, o225_85, o225_86, o225_89, o225_90, o225_91, o225_94, o225_95, o225_98, o225_99, o225_102, o225_105, o225_106, o225_107, o225_110, o225_111, o225_115, o225_116, o225_119, o225_122, o225_123, o225_124, o225_127, o225_128, o225_129, o225_130, o225_133, o225_136, o225_137, o225_140, o225_141, o225_142, o225_143, o225_146, o225_149, o225_150, o225_151, o225_154, o225_155, o225_156, o225_159, o225_162, c_X8_isThrown_, c_X8_isLens, c_X5_checkChoice, c_lensOf_1, c_X3_init, c_X7_init, c_X0_done (cs := A 18), c_X8_done (cs := A 30), mc_pi, mc_pl, mc_pr, mc_pN, mn_pi, mn_pl, mn_pr, mn_pN, mi_pi, mi_pl, mi_pr, mi_pN, ml_pi, ml_pl, ml_pr, ml_pN, mr_pi, mr_pl, mr_pr, mr_pN, mt_pi, mt_pl, mt_pr, mt_pN, mz_pi, mz_pl, mz_pr, mz_pN, mcs_0, mcs_i, mcs_r, Kn_v, Kn_0, mrf_some, kok_0, true_and, and_true, and_false, or_true, not_false_eq_true, implies_true, and_self, Nat.reduceEqDiff, Nat.reduceLeDiff, Nat.reduceSub, Nat.reduceAdd, Nat.zero_le, Nat.le_refl, i10, kz1, lt_le, cl1, Kc_v, Sum.inl.injEq, Option.some.injEq, Value.int.injEq, exists_eq_left', Nat.reduceLT, hAe, i20, kc0, kc16, kc17, kc18, kc22, kc29, kc30, kc38, kc39, kn18, kn29, kn30, kr0_8, kr0_9, kr16_0, kr17_0, kr22_7, kr22_8, kr29_1, kz, be0, b1, b2, b3, b4, b5, b6, bx0, bx9, s0, kz1, hta, htb, hzt, hzt1, lne, lti, Int.reduceLT, or_self, o47_0, o47_3, o47_4, o47_5, o47_8, o47_9, o47_12, o47_13, o47_16, o47_17, o47_20, o47_21, o47_22, o47_23, o47_26, o47_29, o47_30, o47_31, o47_34, o47_37, o47_38, o47_39, o47_42, o47_45, o47_46, o136_0, o136_1, o136_50, o136_51, o136_52, o136_55, o137_0, o137_1, o137_12, o137_13, o137_14, o137_17, cl1]
            (try simp only [ite_ar, implies_true, true_and, and_true, Classical.not_not])
            refine ⟨rfl, ⟨(up (up A 16 (g_t h)) 38 (g_t h + 1)), rfl, rfl, rfl, ⟨?_, ?_, ?_, ?_, ?_, ?_, ?_, ?_, ?_, ?_, ?_, ?_⟩⟩⟩
            · refine ⟨(inj_up (inj_up hA nta) (nt_up ntb (fun z => by omega))), ?_, (Kz1_up (Kz1_up vk.2.2.1 (by simp only [mz_pi, mz_pl, mz_pr, mz_pN]) (by simp only [mt_pi, mt_pl, mt_pr, mt_pN]; omega) hzt (by simp only [mt_pi, mt_pl, mt_pr, mt_pN]; omega)) rfl (Nat.le_refl _) (by simp only [mz_pi, mz_pl, mz_pr, mz_pN]; exact hzt1) (by simp only [mt_pi, mt_pl, mt_pr, mt_pN]; omega)), ?_, ?_⟩
              · simp only [Kc1, up, mc_pi, mc_pl, mc_pr, mc_pN, mt_pi, mt_pl, mt_pr, mt_pN, hta, htb, hn1, hn2, Nat.reduceLT, Nat.reduceEqDiff, if_false, if_true, kc0, kc1, kc2, kc3, kc4, kc5, kc6, kc7, kc8, kc9, kc10, kc11, kc12, kc13, kc14, kc15, kc17, kc18, kc19, kc20, kc21, kc22, kc23, kc24, kc25, kc26, kc27, kc28, kc29, kc30, kc31, kc32, kc33, kc34, kc35, kc36, kc37, kc39, and_self]
              · simp only [Kn1, up, mn_pi, mn_pl, mn_pr, mn_pN, mt_pi, mt_pl, mt_pr, mt_pN, hta, htb, Nat.reduceLT, Nat.reduceEqDiff, if_false, kn3, kn4, kn18, kn21, kn23, kn24, kn25, kn26, kn27, kn29, kn30, and_self]
              · simp only [Kr1, up, mr_pi, mr_pl, mr_pr, mr_pN, mt_pi, mt_pl, mt_pr, mt_pN, hta, hta2, htb, hn1, hAe, Nat.reduceLT, Nat.reduceEqDiff, and_false, and_true, if_false, if_true, kr0_0, kr0_1, kr0_2, kr0_3, kr0_4, kr0_5, kr0_7, kr0_8, kr0_9, kr0_10, kr1_0, kr2_0, kr5_0, kr5_1, kr6_0, kr6_1, kr7_0, kr7_1, kr8_0, kr9_0, kr10_0, kr11_0, kr12_0, kr13_0, kr14_0, kr15_0, kr17_0, kr19_0, kr19_1, kr22_0, kr22_1, kr22_2, kr22_3, kr22_4, kr22_5, kr22_7, kr22_8, kr25_0, kr25_1, kr25_2, kr26_0, kr26_1, kr26_2, kr29_0, kr29_1, and_self]
            · simp only [Cn, up, mi_pi, mi_pl, mi_pr, mi_pN, mt_pi, mt_pl, mt_pr, mt_pN, hta, htb, mi_pi, mi_pl, mi_pr, hAe, Nat.reduceLT, Nat.reduceEqDiff, and_true, if_false, ki5_2, ki6_2, ki7_2, ki8_1, ki8_2, ki8_3, ki9_1, ki9_2, ki9_3, ki10_1, ki10_2, ki10_3, ki11_1, ki11_2, ki11_3, ki12_1, ki12_2, ki12_3, ki13_1, ki13_2, ki13_3, ki14_1, ki14_2, ki14_3, ki28_0, ki28_1, ki31_0, ki31_1, ki32_0, ki32_1, ki33_0, ki33_1, ki34_0, ki34_1, ki35_0, ki35_1, ki36_0, ki36_1, and_self]
            · (try simp only [Vq0_pi_j18 hA, Vq0_pi_j22 hA, Vq0_pi_j30 hA, Vq0_pl, Vq0_pr, Vq0_up16, Vq0_up38, Vq0_pia, Vq0_pN, nta, ntb, mt_pi, mt_pl, mt_pr, mt_pN])
              exact v0
            · (try simp only [Vq1_pi_j18 hA, Vq1_pi_j22 hA, Vq1_pi_j30 hA, Vq1_pl, Vq1_pr, Vq1_up16, Vq1_up38, Vq1_pia, Vq1_pN, nta, ntb, mt_pi, mt_pl, mt_pr, mt_pN])
              exact v1
            · (try simp only [Vq2_pi_j18 hA, Vq2_pi_j22 hA, Vq2_pi_j30 hA, Vq2_pl, Vq2_pr, Vq2_up16, Vq2_up38, Vq2_pia, Vq2_pN, nta, ntb, mt_pi, mt_pl, mt_pr, mt_pN])
              exact v2
            · (try simp only [Vp_pi_j18 hA, Vp_pi_j30 hA, Vp_thr hA, Vp_pl, Vp_pr, Vp_up16, Vp_up38, Vp_pia, Vp_pN, nta, ntb, mt_pi, mt_pl, mt_pr, mt_pN])
              exact vp
            · (try simp only [Vl0_pi_j18 hA, Vl0_pi_j22 hA, Vl0_pi_j30 hA, Vl0_pl, Vl0_pr, Vl0_up16, Vl0_up38, Vl0_pia, Vl0_pN, nta, ntb, mt_pi, mt_pl, mt_pr, mt_pN])
              exact vl0
            · simp only [Vl1, up, mi_pi, mi_pl, mi_pr, mi_pN, mt_pi, mt_pl, mt_pr, mt_pN, hta2, htb2, hn1, hn2, mi_pi, mi_pl, mi_pr, Nat.reduceLT, Nat.reduceEqDiff, and_false, true_and, and_true, if_false, if_true, true_and, and_self, and_true]
              first | exact hq9 | exact ⟨⟨rfl, rfl, rfl, rfl, rfl, rfl⟩, hq9⟩ | exact ⟨trivial, hq9⟩
            · (try simp only [Vlr_pi_j18 hA, Vlr_pi_j22 hA, Vlr_pi_j30 hA, Vlr_pl_j39 hA, Vlr_pr, Vlr_up16, Vlr_up38, Vlr_pia, Vlr_pN, nta, ntb, mt_pi, mt_pl, mt_pr, mt_pN])
              exact vlr
            · (try simp only [Vsr_pi_j18 hA, Vsr_pi_j22 hA, Vsr_pi_j30 hA, Vsr_pl_j39 hA, Vsr_pr, Vsr_up16, Vsr_up38, Vsr_pia, Vsr_pN, nta, ntb, mt_pi, mt_pl, mt_pr, mt_pN])
              exact vsr
            · refine Vc_of (c := 0) vc (by decide) (fun k => ?_) (fun k => ?_) <;> simp only [mi_pi, mi_pl, mi_pr, hAe, Nat.reduceLT, Nat.reduceEqDiff, false_and, true_and, if_false, up, mi_pi, mi_pl, mi_pr, mi_pN, mt_pi, mt_pl, mt_pr, mt_pN, hta, htb]
            · simp only [Tx_up16, Tx_up38]
              refine Tx_of tx (by simp only [mz_pi, mz_pl, mz_pr, mz_pN]) (by simp only [mt_pi, mt_pl, mt_pr, mt_pN]; omega) (fun b hb => ?_) ?_ ?_ ?_
              · have q1 : (b = g_t h) = False := eq_false (by omega)
                have q2 : (b = g_t h + 1) = False := eq_false (by omega)
                simp only [mc_pi, mc_pl, mc_pr, mc_pN, mn_pi, mn_pl, mn_pr, mn_pN, mt_pi, mt_pl, mt_pr, mt_pN, q1, q2, if_false, and_self]
              · simp only [mr_pi, mr_pl, mr_pr, mr_pN, mt_pi, mt_pl, mt_pr, mt_pN, hta, htb, hAe, Nat.reduceLT, Nat.reduceEqDiff, and_false, and_true, if_false]
              · simp only [mi_pi, mi_pl, mi_pr, mi_pN, mt_pi, mt_pl, mt_pr, mt_pN, hta, htb, mi_pi, mi_pl, mi_pr, hAe, Nat.reduceLT, Nat.reduceEqDiff, and_false, and_true, if_false]
              · simp only [mi_pi, mi_pl, mi_pr, mi_pN, mt_pi, mt_pl, mt_pr, mt_pN, hta, htb, mi_pi, mi_pl, mi_pr, hAe, Nat.reduceLT, Nat.reduceEqDiff, and_false, and_true, if_false]
          · skip
            simp only [↓ar_ite, ↓ar_ite2, ↓ar_ok, ↓reduceIte, o319_0, o319_1, o319_2, o319_3, o319_4, o319_7, o319_8, o319_11, o319_22, o319_23, o94_0, o94_1, o94_2, o94_5, o94_6, o94_7, o94_8, o94_11, o94_12, o94_13, o94_14, o94_15, o94_18, o94_20, o94_21, o94_22, o94_24, o94_27, o94_28, o94_31, o94_33, o94_36, o94_39, o225_0, o225_1, o225_2, o225_5, o225_12, o225_13, o225_14, o225_17, o225_18, o225_19, o225_26, o225_27, o225_30, o225_35, o225_36, o225_39, o225_40, o225_41, o225_42, o225_43, o225_44, o225_68, o225_69, o225_70, o225_81, o225_82, o225_85, o225_86, o225_89, o225_90, o225_91, o225_94, o225_95, o225_98, o225_99, o225_102, o225_110, o225_111, o225_115, o225_116, o225_119, o225_122, o225_123, o225_124, o225_127, o225_128, o225_129, o225_130, o225_133, o225_136, o225_137, o225_140, o225_141, o225_142, o225_143, o225_146, o225_149, o225_150, o225_151, o225_154, o225_155, o225_156, o225_159, o225_162, c_X8_isThrown_, c_X8_isLens, c_X5_checkChoice, c_lensOf_1, c_X3_init, c_X7_init, c_X0_done (cs := A 18), c_X8_done (cs := A 30), mc_pi, mc_pl, mc_pr, mc_pN, mn_pi, mn_pl, mn_pr, mn_pN, mi_pi, mi_pl, mi_pr, mi_pN, ml_pi, ml_pl, ml_pr, ml_pN, mr_pi, mr_pl, mr_pr, mr_pN, mt_pi, mt_pl, mt_pr, mt_pN, mz_pi, mz_pl, mz_pr, mz_pN, mcs_0, mcs_i, mcs_r, Kn_v, Kn_0, mrf_some, kok_0, true_and, and_true, and_false, or_true, not_false_eq_true, implies_true, and_self, Nat.reduceEqDiff, Nat.reduceLeDiff, Nat.reduceSub, Nat.reduceAdd, Nat.zero_le, Nat.le_refl, i10, kz1, lt_le, cl1, Kc_v, Sum.inl.injEq, Option.some.injEq, Value.int.injEq, exists_eq_left', Nat.reduceLT, hAe, i20, kc0, kc16, kc17, kc18, kc22, kc29, kc30, kc38, kc39, kn18, kn29, kn30, kr0_8, kr0_9, kr16_0, kr17_0, kr22_7, kr22_8, kr29_1, kz, be0, b1, b2, b3, b4, b5, b6, bx0, bx9, s0, kz1, hta, htb, hzt, hzt1, lne, lti, Int.reduceLT, or_self, o47_0, o47_3, o47_4, o47_5, o47_8, o47_9, o47_12, o47_13, o47_16, o47_17, o47_20, o47_21, o47_22, o47_23, o47_26, o47_29, o47_30, o47_31, o47_34, o47_37, o47_38, o47_39, o47_42, o47_45, o47_46, o136_0, o136_1, o136_50, o136_51, o136_52, o136_55, o137_0, o137_1, o137_12, o137_13, o137_14, o137_17, cl1]
            (try simp only [ite_ar, implies_true, true_and, and_true, Classical.not_not])
            refine ⟨rfl, ⟨(up (up A 16 (g_t h)) 38 (g_t h + 1)), rfl, rfl, rfl, ⟨?_, ?_, ?_, ?_, ?_, ?_, ?_, ?_, ?_, ?_, ?_, ?_⟩⟩⟩
            · refine ⟨(inj_up (inj_up hA nta) (nt_up ntb (fun z => by omega))), ?_, (Kz1_up (Kz1_up vk.2.2.1 (by simp only [mz_pi, mz_pl, mz_pr, mz_pN]) (by simp only [mt_pi, mt_pl, mt_pr, mt_pN]; omega) hzt (by simp only [mt_pi, mt_pl, mt_pr, mt_pN]; omega)) rfl (Nat.le_refl _) (by simp only [mz_pi, mz_pl, mz_pr, mz_pN]; exact hzt1) (by simp only [mt_pi, mt_pl, mt_pr, mt_pN]; omega)), ?_, ?_⟩
              · simp only [Kc1, up, mc_pi, mc_pl, mc_pr, mc_pN, mt_pi, mt_pl, mt_pr, mt_pN, hta, htb, hn1, hn2, Nat.reduceLT, Nat.reduceEqDiff, if_false, if_true, kc0, kc1, kc2, kc3, kc4, kc5, kc6, kc7, kc8, kc9, kc10, kc11, kc12, kc13, kc14, kc15, kc17, kc18, kc19, kc20, kc21, kc22, kc23, kc24, kc25, kc26, kc27, kc28, kc29, kc30, kc31, kc32, kc33, kc34, kc35, kc36, kc37, kc39, and_self]
              · simp only [Kn1, up, mn_pi, mn_pl, mn_pr, mn_pN, mt_pi, mt_pl, mt_pr, mt_pN, hta, htb, Nat.reduceLT, Nat.reduceEqDiff, if_false, kn3, kn4, kn18, kn21, kn23, kn24, kn25, kn26, kn27, kn29, kn30, and_self]
              · simp only [Kr1, up, mr_pi, mr_pl, mr_pr, mr_pN, mt_pi, mt_pl, mt_pr, mt_pN, hta, hta2, htb, hn1, hAe, Nat.reduceLT, Nat.reduceEqDiff, and_false, and_true, if_false, if_true, kr0_0, kr0_1, kr0_2, kr0_3, kr0_4, kr0_5, kr0_7, kr0_8, kr0_9, kr0_10, kr1_0, kr2_0, kr5_0, kr5_1, kr6_0, kr6_1, kr7_0, kr7_1, kr8_0, kr9_0, kr10_0, kr11_0, kr12_0, kr13_0, kr14_0, kr15_0, kr17_0, kr19_0, kr19_1, kr22_0, kr22_1, kr22_2, kr22_3, kr22_4, kr22_5, kr22_7, kr22_8, kr25_0, kr25_1, kr25_2, kr26_0, kr26_1, kr26_2, kr29_0, kr29_1, and_self]
            · simp only [Cn, up, mi_pi, mi_pl, mi_pr, mi_pN, mt_pi, mt_pl, mt_pr, mt_pN, hta, htb, mi_pi, mi_pl, mi_pr, hAe, Nat.reduceLT, Nat.reduceEqDiff, and_true, if_false, ki5_2, ki6_2, ki7_2, ki8_1, ki8_2, ki8_3, ki9_1, ki9_2, ki9_3, ki10_1, ki10_2, ki10_3, ki11_1, ki11_2, ki11_3, ki12_1, ki12_2, ki12_3, ki13_1, ki13_2, ki13_3, ki14_1, ki14_2, ki14_3, ki28_0, ki28_1, ki31_0, ki31_1, ki32_0, ki32_1, ki33_0, ki33_1, ki34_0, ki34_1, ki35_0, ki35_1, ki36_0, ki36_1, and_self]
            · (try simp only [Vq0_pi_j18 hA, Vq0_pi_j22 hA, Vq0_pi_j30 hA, Vq0_pl, Vq0_pr, Vq0_up16, Vq0_up38, Vq0_pia, Vq0_pN, nta, ntb, mt_pi, mt_pl, mt_pr, mt_pN])
              exact v0
            · (try simp only [Vq1_pi_j18 hA, Vq1_pi_j22 hA, Vq1_pi_j30 hA, Vq1_pl, Vq1_pr, Vq1_up16, Vq1_up38, Vq1_pia, Vq1_pN, nta, ntb, mt_pi, mt_pl, mt_pr, mt_pN])
              exact v1
            · (try simp only [Vq2_pi_j18 hA, Vq2_pi_j22 hA, Vq2_pi_j30 hA, Vq2_pl, Vq2_pr, Vq2_up16, Vq2_up38, Vq2_pia, Vq2_pN, nta, ntb, mt_pi, mt_pl, mt_pr, mt_pN])
              exact v2
            · (try simp only [Vp_pi_j18 hA, Vp_pi_j30 hA, Vp_thr hA, Vp_pl, Vp_pr, Vp_up16, Vp_up38, Vp_pia, Vp_pN, nta, ntb, mt_pi, mt_pl, mt_pr, mt_pN])
              exact vp
            · (try simp only [Vl0_pi_j18 hA, Vl0_pi_j22 hA, Vl0_pi_j30 hA, Vl0_pl, Vl0_pr, Vl0_up16, Vl0_up38, Vl0_pia, Vl0_pN, nta, ntb, mt_pi, mt_pl, mt_pr, mt_pN])
              exact vl0
            · simp only [Vl1, up, mi_pi, mi_pl, mi_pr, mi_pN, mt_pi, mt_pl, mt_pr, mt_pN, hta2, htb2, hn1, hn2, mi_pi, mi_pl, mi_pr, Nat.reduceLT, Nat.reduceEqDiff, and_false, true_and, and_true, if_false, if_true, true_and, and_self, and_true]
              first | exact hq9 | exact ⟨⟨rfl, rfl, rfl, rfl, rfl, rfl⟩, hq9⟩ | exact ⟨trivial, hq9⟩
            · (try simp only [Vlr_pi_j18 hA, Vlr_pi_j22 hA, Vlr_pi_j30 hA, Vlr_pl_j39 hA, Vlr_pr, Vlr_up16, Vlr_up38, Vlr_pia, Vlr_pN, nta, ntb, mt_pi, mt_pl, mt_pr, mt_pN])
              exact vlr
            · (try simp only [Vsr_pi_j18 hA, Vsr_pi_j22 hA, Vsr_pi_j30 hA, Vsr_pl_j39 hA, Vsr_pr, Vsr_up16, Vsr_up38, Vsr_pia, Vsr_pN, nta, ntb, mt_pi, mt_pl, mt_pr, mt_pN])
              exact vsr
            · refine Vc_of (c := 0) vc (by decide) (fun k => ?_) (fun k => ?_) <;> simp only [mi_pi, mi_pl, mi_pr, hAe, Nat.reduceLT, Nat.reduceEqDiff, false_and, true_and, if_false, up, mi_pi, mi_pl, mi_pr, mi_pN, mt_pi, mt_pl, mt_pr, mt_pN, hta, htb]
            · simp only [Tx_up16, Tx_up38]
              refine Tx_of tx (by simp only [mz_pi, mz_pl, mz_pr, mz_pN]) (by simp only [mt_pi, mt_pl, mt_pr, mt_pN]; omega) (fun b hb => ?_) ?_ ?_ ?_
              · have q1 : (b = g_t h) = False := eq_false (by omega)
                have q2 : (b = g_t h + 1) = False := eq_false (by omega)
                simp only [mc_pi, mc_pl, mc_pr, mc_pN, mn_pi, mn_pl, mn_pr, mn_pN, mt_pi, mt_pl, mt_pr, mt_pN, q1, q2, if_false, and_self]
              · simp only [mr_pi, mr_pl, mr_pr, mr_pN, mt_pi, mt_pl, mt_pr, mt_pN, hta, htb, hAe, Nat.reduceLT, Nat.reduceEqDiff, and_false, and_true, if_false]
              · simp only [mi_pi, mi_pl, mi_pr, mi_pN, mt_pi, mt_pl, mt_pr, mt_pN, hta, htb, mi_pi, mi_pl, mi_pr, hAe, Nat.reduceLT, Nat.reduceEqDiff, and_false, and_true, if_false]
              · simp only [mi_pi, mi_pl, mi_pr, mi_pN, mt_pi, mt_pl, mt_pr, mt_pN, hta, htb, mi_pi, mi_pl, mi_pr, hAe, Nat.reduceLT, Nat.reduceEqDiff, and_false, and_true, if_false]
        · have hq9 := ln31
          rcases ln.2.2.2.1 with s0 | s0
          · skip
            simp only [↓ar_ite, ↓ar_ite2, ↓ar_ok, ↓reduceIte, o319_0, o319_1, o319_2, o319_3, o319_4, o319_7, o319_8, o319_11, o319_22, o319_23, o94_0, o94_1, o94_2, o94_5, o94_6, o94_7, o94_8, o94_11, o94_12, o94_13, o94_14, o94_15, o94_18, o94_20, o94_21, o94_22, o94_24, o94_27, o94_28, o94_31, o94_33, o94_36, o94_39, o225_0, o225_1, o225_2, o225_5, o225_12, o225_13, o225_14, o225_17, o225_18, o225_19, o225_26, o225_27, o225_30, o225_35, o225_36, o225_39, o225_40, o225_41, o225_42, o225_43, o225_44, o225_68, o225_69, o225_70, o225_73, o225_74, o225_75, o225_78, o225_149, o225_150, o225_151, o225_154, o225_155, o225_156, o225_159, o225_162, c_X8_isThrown_, c_X8_isLens, c_X5_checkChoice, c_lensOf_1, c_X3_init, c_X7_init, c_X0_done (cs := A 18), c_X8_done (cs := A 30), mc_pi, mc_pl, mc_pr, mc_pN, mn_pi, mn_pl, mn_pr, mn_pN, mi_pi, mi_pl, mi_pr, mi_pN, ml_pi, ml_pl, ml_pr, ml_pN, mr_pi, mr_pl, mr_pr, mr_pN, mt_pi, mt_pl, mt_pr, mt_pN, mz_pi, mz_pl, mz_pr, mz_pN, mcs_0, mcs_i, mcs_r, Kn_v, Kn_0, mrf_some, kok_0, true_and, and_true, and_false, or_true, not_false_eq_true, implies_true, and_self, Nat.reduceEqDiff, Nat.reduceLeDiff, Nat.reduceSub, Nat.reduceAdd, Nat.zero_le, Nat.le_refl, i10, kz0, lt_le, Int32.reduceSub, cl1, Kc_v, Sum.inl.injEq, Option.some.injEq, Value.int.injEq, exists_eq_left', Nat.reduceLT, hAe, i30, kc0, kc17, kc18, kc22, kc29, kc30, kc39, kn18, kn29, kn30, kr0_1, kr0_8, kr0_9, kr17_0, kr22_7, kr22_8, kr29_1, kz, be0, bx0, bx9, kz0, hta, htb, hzt, hzt1, lne, lti, Int.reduceLT, or_self, o136_0, o136_1, o136_56, o136_57, o136_70, o136_71, o136_74, o136_77, o134_0, o134_3, o134_4, o134_5, o134_7, o134_9, o134_10, o134_13, o137_0, o137_1, o137_12, o137_13, o137_14, o137_17, o160_0, o160_1, o160_4, o160_5, o160_6, o160_25, o160_28, o160_29, o160_31, o160_33, o160_34, o160_36, o160_39, o160_40, o160_41, o160_44, o160_45, o160_46, o160_47, o160_48, o160_49, o160_52, cl1]
            (try simp only [ite_ar, implies_true, true_and, and_true, Classical.not_not])
            refine ⟨rfl, ⟨(up (up A 16 (g_t h)) 38 (g_t h + 1)), rfl, rfl, rfl, ⟨?_, ?_, ?_, ?_, ?_, ?_, ?_, ?_, ?_, ?_, ?_, ?_⟩⟩⟩
            · refine ⟨(inj_up (inj_up hA nta) (nt_up ntb (fun z => by omega))), ?_, (Kz1_up (Kz1_up vk.2.2.1 (by simp only [mz_pi, mz_pl, mz_pr, mz_pN]) (by simp only [mt_pi, mt_pl, mt_pr, mt_pN]; omega) hzt (by simp only [mt_pi, mt_pl, mt_pr, mt_pN]; omega)) rfl (Nat.le_refl _) (by simp only [mz_pi, mz_pl, mz_pr, mz_pN]; exact hzt1) (by simp only [mt_pi, mt_pl, mt_pr, mt_pN]; omega)), ?_, ?_⟩
              · simp only [Kc1, up, mc_pi, mc_pl, mc_pr, mc_pN, mt_pi, mt_pl, mt_pr, mt_pN, hta, htb, hn1, hn2, Nat.reduceLT, Nat.reduceEqDiff, if_false, if_true, kc0, kc1, kc2, kc3, kc4, kc5, kc6, kc7, kc8, kc9, kc10, kc11, kc12, kc13, kc14, kc15, kc17, kc18, kc19, kc20, kc21, kc22, kc23, kc24, kc25, kc26, kc27, kc28, kc29, kc30, kc31, kc32, kc33, kc34, kc35, kc36, kc37, kc39, and_self]
              · simp only [Kn1, up, mn_pi, mn_pl, mn_pr, mn_pN, mt_pi, mt_pl, mt_pr, mt_pN, hta, htb, Nat.reduceLT, Nat.reduceEqDiff, if_false, kn3, kn4, kn18, kn21, kn23, kn24, kn25, kn26, kn27, kn29, kn30, and_self]
              · simp only [Kr1, up, mr_pi, mr_pl, mr_pr, mr_pN, mt_pi, mt_pl, mt_pr, mt_pN, hta, hta2, htb, hn1, hAe, Nat.reduceLT, Nat.reduceEqDiff, and_false, and_true, if_false, if_true, kr0_0, kr0_1, kr0_2, kr0_3, kr0_4, kr0_5, kr0_7, kr0_8, kr0_9, kr0_10, kr1_0, kr2_0, kr5_0, kr5_1, kr6_0, kr6_1, kr7_0, kr7_1, kr8_0, kr9_0, kr10_0, kr11_0, kr12_0, kr13_0, kr14_0, kr15_0, kr17_0, kr19_0, kr19_1, kr22_0, kr22_1, kr22_2, kr22_3, kr22_4, kr22_5, kr22_7, kr22_8, kr25_0, kr25_1, kr25_2, kr26_0, kr26_1, kr26_2, kr29_0, kr29_1, and_self]
            · simp only [Cn, up, mi_pi, mi_pl, mi_pr, mi_pN, mt_pi, mt_pl, mt_pr, mt_pN, hta, htb, mi_pi, mi_pl, mi_pr, hAe, Nat.reduceLT, Nat.reduceEqDiff, and_true, if_false, ki5_2, ki6_2, ki7_2, ki8_1, ki8_2, ki8_3, ki9_1, ki9_2, ki9_3, ki10_1, ki10_2, ki10_3, ki11_1, ki11_2, ki11_3, ki12_1, ki12_2, ki12_3, ki13_1, ki13_2, ki13_3, ki14_1, ki14_2, ki14_3, ki28_0, ki28_1, ki31_0, ki31_1, ki32_0, ki32_1, ki33_0, ki33_1, ki34_0, ki34_1, ki35_0, ki35_1, ki36_0, ki36_1, and_self]
            · (try simp only [Vq0_pi_j18 hA, Vq0_pi_j22 hA, Vq0_pi_j30 hA, Vq0_pl, Vq0_pr, Vq0_up16, Vq0_up38, Vq0_pia, Vq0_pN, nta, ntb, mt_pi, mt_pl, mt_pr, mt_pN])
              exact v0
            · (try simp only [Vq1_pi_j18 hA, Vq1_pi_j22 hA, Vq1_pi_j30 hA, Vq1_pl, Vq1_pr, Vq1_up16, Vq1_up38, Vq1_pia, Vq1_pN, nta, ntb, mt_pi, mt_pl, mt_pr, mt_pN])
              exact v1
            · (try simp only [Vq2_pi_j18 hA, Vq2_pi_j22 hA, Vq2_pi_j30 hA, Vq2_pl, Vq2_pr, Vq2_up16, Vq2_up38, Vq2_pia, Vq2_pN, nta, ntb, mt_pi, mt_pl, mt_pr, mt_pN])
              exact v2
            · (try simp only [Vp_pi_j18 hA, Vp_pi_j30 hA, Vp_thr hA, Vp_pl, Vp_pr, Vp_up16, Vp_up38, Vp_pia, Vp_pN, nta, ntb, mt_pi, mt_pl, mt_pr, mt_pN])
              exact vp
            · (try simp only [Vl0_pi_j18 hA, Vl0_pi_j22 hA, Vl0_pi_j30 hA, Vl0_pl, Vl0_pr, Vl0_up16, Vl0_up38, Vl0_pia, Vl0_pN, nta, ntb, mt_pi, mt_pl, mt_pr, mt_pN])
              exact vl0
            · simp only [Vl1, up, mi_pi, mi_pl, mi_pr, mi_pN, mt_pi, mt_pl, mt_pr, mt_pN, hta2, htb2, hn1, hn2, mi_pi, mi_pl, mi_pr, Nat.reduceLT, Nat.reduceEqDiff, and_false, true_and, and_true, if_false, if_true, true_and, and_self, and_true]
              first | exact hq9 | exact ⟨⟨rfl, rfl, rfl, rfl, rfl, rfl⟩, hq9⟩ | exact ⟨trivial, hq9⟩
            · (try simp only [Vlr_pi_j18 hA, Vlr_pi_j22 hA, Vlr_pi_j30 hA, Vlr_pl_j39 hA, Vlr_pr, Vlr_up16, Vlr_up38, Vlr_pia, Vlr_pN, nta, ntb, mt_pi, mt_pl, mt_pr, mt_pN])
              exact vlr
            · (try simp only [Vsr_pi_j18 hA, Vsr_pi_j22 hA, Vsr_pi_j30 hA, Vsr_pl_j39 hA, Vsr_pr, Vsr_up16, Vsr_up38, Vsr_pia, Vsr_pN, nta, ntb, mt_pi, mt_pl, mt_pr, mt_pN])
              exact vsr
            · refine Vc_of (c := 0) vc (by decide) (fun k => ?_) (fun k => ?_) <;> simp only [mi_pi, mi_pl, mi_pr, hAe, Nat.reduceLT, Nat.reduceEqDiff, false_and, true_and, if_false, up, mi_pi, mi_pl, mi_pr, mi_pN, mt_pi, mt_pl, mt_pr, mt_pN, hta, htb]
            · simp only [Tx_up16, Tx_up38]
              refine Tx_of tx (by simp only [mz_pi, mz_pl, mz_pr, mz_pN]) (by simp only [mt_pi, mt_pl, mt_pr, mt_pN]; omega) (fun b hb => ?_) ?_ ?_ ?_
              · have q1 : (b = g_t h) = False := eq_false (by omega)
                have q2 : (b = g_t h + 1) = False := eq_false (by omega)
                simp only [mc_pi, mc_pl, mc_pr, mc_pN, mn_pi, mn_pl, mn_pr, mn_pN, mt_pi, mt_pl, mt_pr, mt_pN, q1, q2, if_false, and_self]
              · simp only [mr_pi, mr_pl, mr_pr, mr_pN, mt_pi, mt_pl, mt_pr, mt_pN, hta, htb, hAe, Nat.reduceLT, Nat.reduceEqDiff, and_false, and_true, if_false]
              · simp only [mi_pi, mi_pl, mi_pr, mi_pN, mt_pi, mt_pl, mt_pr, mt_pN, hta, htb, mi_pi, mi_pl, mi_pr, hAe, Nat.reduceLT, Nat.reduceEqDiff, and_false, and_true, if_false]
              · simp only [mi_pi, mi_pl, mi_pr, mi_pN, mt_pi, mt_pl, mt_pr, mt_pN, hta, htb, mi_pi, mi_pl, mi_pr, hAe, Nat.reduceLT, Nat.reduceEqDiff, and_false, and_true, if_false]
          · skip
            simp only [↓ar_ite, ↓ar_ite2, ↓ar_ok, ↓reduceIte, o319_0, o319_1, o319_2, o319_3, o319_4, o319_7, o319_8, o319_11, o319_22, o319_23, o94_0, o94_1, o94_2, o94_5, o94_6, o94_7, o94_8, o94_11, o94_12, o94_13, o94_14, o94_15, o94_18, o94_20, o94_21, o94_22, o94_24, o94_27, o94_28, o94_31, o94_33, o94_36, o94_39, o225_0, o225_1, o225_2, o225_5, o225_12, o225_13, o225_14, o225_17, o225_18, o225_19, o225_26, o225_27, o225_30, o225_35, o225_36, o225_39, o225_40, o225_41, o225_42, o225_43, o225_44, o225_68, o225_69, o225_70, o225_73, o225_74, o225_75, o225_78, o225_149, o225_150, o225_151, o225_154, o225_155, o225_156, o225_159, o225_162, c_X8_isThrown_, c_X8_isLens, c_X5_checkChoice, c_lensOf_1, c_X3_init, c_X7_init, c_X0_done (cs := A 18), c_X8_done (cs := A 30), mc_pi, mc_pl, mc_pr, mc_pN, mn_pi, mn_pl, mn_pr, mn_pN, mi_pi, mi_pl, mi_pr, mi_pN, ml_pi, ml_pl, ml_pr, ml_pN, mr_pi, mr_pl, mr_pr, mr_pN, mt_pi, mt_pl, mt_pr, mt_pN, mz_pi, mz_pl, mz_pr, mz_pN, mcs_0, mcs_i, mcs_r, Kn_v, Kn_0, mrf_some, kok_0, true_and, and_true, and_false, or_true, not_false_eq_true, implies_true, and_self, Nat.reduceEqDiff, Nat.reduceLeDiff, Nat.reduceSub, Nat.reduceAdd, Nat.zero_le, Nat.le_refl, i10, kz0, lt_le, Int32.reduceSub, cl1, Kc_v, Sum.inl.injEq, Option.some.injEq, Value.int.injEq, exists_eq_left', Nat.reduceLT, hAe, i30, kc0, kc17, kc18, kc22, kc29, kc30, kc39, kn18, kn29, kn30, kr0_1, kr0_8, kr0_9, kr17_0, kr22_7, kr22_8, kr29_1, kz, be0, bx0, bx9, kz0, hta, htb, hzt, hzt1, lne, lti, Int.reduceLT, or_self, o136_0, o136_1, o136_56, o136_57, o136_70, o136_71, o136_74, o136_77, o134_0, o134_3, o134_4, o134_5, o134_7, o134_9, o134_10, o134_13, o137_0, o137_1, o137_12, o137_13, o137_14, o137_17, o160_0, o160_1, o160_4, o160_5, o160_6, o160_25, o160_28, o160_29, o160_31, o160_33, o160_34, o160_36, o160_39, o160_40, o160_41, o160_44, o160_45, o160_46, o160_47, o160_48, o160_49, o160_52, cl1]
            (try simp only [ite_ar, implies_true, true_and, and_true, Classical.not_not])
            refine ⟨rfl, ⟨(up (up A 16 (g_t h)) 38 (g_t h + 1)), rfl, rfl, rfl, ⟨?_, ?_, ?_, ?_, ?_, ?_, ?_, ?_, ?_, ?_, ?_, ?_⟩⟩⟩
            · refine ⟨(inj_up (inj_up hA nta) (nt_up ntb (fun z => by omega))), ?_, (Kz1_up (Kz1_up vk.2.2.1 (by simp only [mz_pi, mz_pl, mz_pr, mz_pN]) (by simp only [mt_pi, mt_pl, mt_pr, mt_pN]; omega) hzt (by simp only [mt_pi, mt_pl, mt_pr, mt_pN]; omega)) rfl (Nat.le_refl _) (by simp only [mz_pi, mz_pl, mz_pr, mz_pN]; exact hzt1) (by simp only [mt_pi, mt_pl, mt_pr, mt_pN]; omega)), ?_, ?_⟩
              · simp only [Kc1, up, mc_pi, mc_pl, mc_pr, mc_pN, mt_pi, mt_pl, mt_pr, mt_pN, hta, htb, hn1, hn2, Nat.reduceLT, Nat.reduceEqDiff, if_false, if_true, kc0, kc1, kc2, kc3, kc4, kc5, kc6, kc7, kc8, kc9, kc10, kc11, kc12, kc13, kc14, kc15, kc17, kc18, kc19, kc20, kc21, kc22, kc23, kc24, kc25, kc26, kc27, kc28, kc29, kc30, kc31, kc32, kc33, kc34, kc35, kc36, kc37, kc39, and_self]
              · simp only [Kn1, up, mn_pi, mn_pl, mn_pr, mn_pN, mt_pi, mt_pl, mt_pr, mt_pN, hta, htb, Nat.reduceLT, Nat.reduceEqDiff, if_false, kn3, kn4, kn18, kn21, kn23, kn24, kn25, kn26, kn27, kn29, kn30, and_self]
              · simp only [Kr1, up, mr_pi, mr_pl, mr_pr, mr_pN, mt_pi, mt_pl, mt_pr, mt_pN, hta, hta2, htb, hn1, hAe, Nat.reduceLT, Nat.reduceEqDiff, and_false, and_true, if_false, if_true, kr0_0, kr0_1, kr0_2, kr0_3, kr0_4, kr0_5, kr0_7, kr0_8, kr0_9, kr0_10, kr1_0, kr2_0, kr5_0, kr5_1, kr6_0, kr6_1, kr7_0, kr7_1, kr8_0, kr9_0, kr10_0, kr11_0, kr12_0, kr13_0, kr14_0, kr15_0, kr17_0, kr19_0, kr19_1, kr22_0, kr22_1, kr22_2, kr22_3, kr22_4, kr22_5, kr22_7, kr22_8, kr25_0, kr25_1, kr25_2, kr26_0, kr26_1, kr26_2, kr29_0, kr29_1, and_self]
            · simp only [Cn, up, mi_pi, mi_pl, mi_pr, mi_pN, mt_pi, mt_pl, mt_pr, mt_pN, hta, htb, mi_pi, mi_pl, mi_pr, hAe, Nat.reduceLT, Nat.reduceEqDiff, and_true, if_false, ki5_2, ki6_2, ki7_2, ki8_1, ki8_2, ki8_3, ki9_1, ki9_2, ki9_3, ki10_1, ki10_2, ki10_3, ki11_1, ki11_2, ki11_3, ki12_1, ki12_2, ki12_3, ki13_1, ki13_2, ki13_3, ki14_1, ki14_2, ki14_3, ki28_0, ki28_1, ki31_0, ki31_1, ki32_0, ki32_1, ki33_0, ki33_1, ki34_0, ki34_1, ki35_0, ki35_1, ki36_0, ki36_1, and_self]
            · (try simp only [Vq0_pi_j18 hA, Vq0_pi_j22 hA, Vq0_pi_j30 hA, Vq0_pl, Vq0_pr, Vq0_up16, Vq0_up38, Vq0_pia, Vq0_pN, nta, ntb, mt_pi, mt_pl, mt_pr, mt_pN])
              exact v0
            · (try simp only [Vq1_pi_j18 hA, Vq1_pi_j22 hA, Vq1_pi_j30 hA, Vq1_pl, Vq1_pr, Vq1_up16, Vq1_up38, Vq1_pia, Vq1_pN, nta, ntb, mt_pi, mt_pl, mt_pr, mt_pN])
              exact v1
            · (try simp only [Vq2_pi_j18 hA, Vq2_pi_j22 hA, Vq2_pi_j30 hA, Vq2_pl, Vq2_pr, Vq2_up16, Vq2_up38, Vq2_pia, Vq2_pN, nta, ntb, mt_pi, mt_pl, mt_pr, mt_pN])
              exact v2
            · (try simp only [Vp_pi_j18 hA, Vp_pi_j30 hA, Vp_thr hA, Vp_pl, Vp_pr, Vp_up16, Vp_up38, Vp_pia, Vp_pN, nta, ntb, mt_pi, mt_pl, mt_pr, mt_pN])
              exact vp
            · (try simp only [Vl0_pi_j18 hA, Vl0_pi_j22 hA, Vl0_pi_j30 hA, Vl0_pl, Vl0_pr, Vl0_up16, Vl0_up38, Vl0_pia, Vl0_pN, nta, ntb, mt_pi, mt_pl, mt_pr, mt_pN])
              exact vl0
            · simp only [Vl1, up, mi_pi, mi_pl, mi_pr, mi_pN, mt_pi, mt_pl, mt_pr, mt_pN, hta2, htb2, hn1, hn2, mi_pi, mi_pl, mi_pr, Nat.reduceLT, Nat.reduceEqDiff, and_false, true_and, and_true, if_false, if_true, true_and, and_self, and_true]
              first | exact hq9 | exact ⟨⟨rfl, rfl, rfl, rfl, rfl, rfl⟩, hq9⟩ | exact ⟨trivial, hq9⟩
            · (try simp only [Vlr_pi_j18 hA, Vlr_pi_j22 hA, Vlr_pi_j30 hA, Vlr_pl_j39 hA, Vlr_pr, Vlr_up16, Vlr_up38, Vlr_pia, Vlr_pN, nta, ntb, mt_pi, mt_pl, mt_pr, mt_pN])
              exact vlr
            · (try simp only [Vsr_pi_j18 hA, Vsr_pi_j22 hA, Vsr_pi_j30 hA, Vsr_pl_j39 hA, Vsr_pr, Vsr_up16, Vsr_up38, Vsr_pia, Vsr_pN, nta, ntb, mt_pi, mt_pl, mt_pr, mt_pN])
              exact vsr
            · refine Vc_of (c := 0) vc (by decide) (fun k => ?_) (fun k => ?_) <;> simp only [mi_pi, mi_pl, mi_pr, hAe, Nat.reduceLT, Nat.reduceEqDiff, false_and, true_and, if_false, up, mi_pi, mi_pl, mi_pr, mi_pN, mt_pi, mt_pl, mt_pr, mt_pN, hta, htb]
            · simp only [Tx_up16, Tx_up38]
              refine Tx_of tx (by simp only [mz_pi, mz_pl, mz_pr, mz_pN]) (by simp only [mt_pi, mt_pl, mt_pr, mt_pN]; omega) (fun b hb => ?_) ?_ ?_ ?_
              · have q1 : (b = g_t h) = False := eq_false (by omega)
                have q2 : (b = g_t h + 1) = False := eq_false (by omega)
                simp only [mc_pi, mc_pl, mc_pr, mc_pN, mn_pi, mn_pl, mn_pr, mn_pN, mt_pi, mt_pl, mt_pr, mt_pN, q1, q2, if_false, and_self]
              · simp only [mr_pi, mr_pl, mr_pr, mr_pN, mt_pi, mt_pl, mt_pr, mt_pN, hta, htb, hAe, Nat.reduceLT, Nat.reduceEqDiff, and_false, and_true, if_false]
              · simp only [mi_pi, mi_pl, mi_pr, mi_pN, mt_pi, mt_pl, mt_pr, mt_pN, hta, htb, mi_pi, mi_pl, mi_pr, hAe, Nat.reduceLT, Nat.reduceEqDiff, and_false, and_true, if_false]
              · simp only [mi_pi, mi_pl, mi_pr, mi_pN, mt_pi, mt_pl, mt_pr, mt_pN, hta, htb, mi_pi, mi_pl, mi_pr, hAe, Nat.reduceLT, Nat.reduceEqDiff, and_false, and_true, if_false]
        · exact absurd (show (3 : Int32) < 4 by decide) bx9
        · exact absurd (show (3 : Int32) < 5 by decide) bx9
        · exact absurd (show (3 : Int32) < 6 by decide) bx9
        · exact absurd (show (3 : Int32) < 7 by decide) bx9
        · exact absurd (show (3 : Int32) < 8 by decide) bx9


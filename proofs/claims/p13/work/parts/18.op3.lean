/-! THE OPS of the queues -/
theorem q_cases {q : Int32} (h1 : ¬ q < 0) (h2 : q < 3) : q = 0 ∨ q = 1 ∨ q = 2 := by
  have h3 : q < 4 := by
    rw [Int32.lt_iff_toInt_lt] at h2 ⊢
    have e1 : (4 : Int32).toInt = 4 := rfl
    have e2 : (3 : Int32).toInt = 3 := rfl
    omega
  rcases f_cases h1 h3 with rfl | rfl | rfl | rfl
  · exact Or.inl rfl
  · exact Or.inr (Or.inl rfl)
  · exact Or.inr (Or.inr rfl)
  · exact absurd h2 (by decide)
theorem bq0 : ((0 : Int32) < 0 ∨ ¬ (0 : Int32) < 3) = False ∧ ((1 : Int32) < 0 ∨ ¬ (1 : Int32) < 3) = False ∧ ((2 : Int32) < 0 ∨ ¬ (2 : Int32) < 3) = False := by decide
theorem bqq : (¬ (0 : Int32) < 0 ∧ (0 : Int32) < 3) = True ∧ (¬ (1 : Int32) < 0 ∧ (1 : Int32) < 3) = True ∧ (¬ (2 : Int32) < 0 ∧ (2 : Int32) < 3) = True := by decide
theorem vq3 : vp_in 0 3 = True ∧ vp_in 1 3 = True ∧ vp_in 2 3 = True := by unfold vp_in; decide
theorem x_mem {x : Int32} (h1 : ¬ x < 0) (h2 : ¬ 9 < x) : x ∈ (List.range 10).map Int32.ofNat := by
  rw [Int32.lt_iff_toInt_lt] at h1 h2
  have e1 : (0 : Int32).toInt = 0 := rfl
  have e2 : (9 : Int32).toInt = 9 := rfl
  refine List.mem_map.mpr ⟨x.toInt.toNat, List.mem_range.mpr (by omega), ?_⟩
  apply Int32.toInt_inj.mp
  rw [Int32.toInt_ofNat_of_lt (by omega)]
  omega
theorem icw0 {A : Nat → Nat} {h : MH} {t : QT} (hA : inj40 A) {j k : Nat} (hj : [0, 1, 2, 3, 4, 6, 7, 10, 11, 12, 13, 14, 15, 16, 17, 18, 19, 20, 21, 22, 23, 24, 25, 26, 27, 28, 29, 30, 31, 32, 33, 34, 35, 36, 37, 38, 39].contains j = true) : g_i (cW h (A 5) (A 8) (A 9) t) (A j) k = g_i h (A j) k := by
  have hj40 : j < 40 := by
    simp only [List.contains_eq_mem, decide_eq_true_eq] at hj
    have : ∀ x ∈ [0, 1, 2, 3, 4, 6, 7, 10, 11, 12, 13, 14, 15, 16, 17, 18, 19, 20, 21, 22, 23, 24, 25, 26, 27, 28, 29, 30, 31, 32, 33, 34, 35, 36, 37, 38, 39], x < 40 := by decide
    exact this j hj
  have d5 : ¬ A j = A 5 := fun z => by have := (hA j 5 hj40 (by decide)).mp z; subst this; simp at hj
  have d8 : ¬ A j = A 8 := fun z => by have := (hA j 8 hj40 (by decide)).mp z; subst this; simp at hj
  have d9 : ¬ A j = A 9 := fun z => by have := (hA j 9 hj40 (by decide)).mp z; subst this; simp at hj
  simp only [cW, mi_pi, d5, d8, d9, false_and, if_false]
theorem imw0 {A : Nat → Nat} {h : MH} {t : QT} (hA : inj40 A) {j k : Nat} (hj : [0, 1, 2, 3, 4, 5, 6, 7, 8, 9, 10, 11, 12, 13, 14, 15, 16, 17, 18, 19, 20, 21, 22, 23, 24, 25, 26, 28, 29, 30, 32, 33, 35, 36, 37, 38, 39].contains j = true) : g_i (mW h (A 27) 0 (A 31) (A 34) t) (A j) k = g_i h (A j) k := by
  have hj40 : j < 40 := by
    simp only [List.contains_eq_mem, decide_eq_true_eq] at hj
    have : ∀ x ∈ [0, 1, 2, 3, 4, 5, 6, 7, 8, 9, 10, 11, 12, 13, 14, 15, 16, 17, 18, 19, 20, 21, 22, 23, 24, 25, 26, 28, 29, 30, 32, 33, 35, 36, 37, 38, 39], x < 40 := by decide
    exact this j hj
  have d27 : ¬ A j = A 27 := fun z => by have := (hA j 27 hj40 (by decide)).mp z; subst this; simp at hj
  have d31 : ¬ A j = A 31 := fun z => by have := (hA j 31 hj40 (by decide)).mp z; subst this; simp at hj
  have d34 : ¬ A j = A 34 := fun z => by have := (hA j 34 hj40 (by decide)).mp z; subst this; simp at hj
  simp only [mW, mi_pi, d27, d31, d34, false_and, if_false]
theorem icw1 {A : Nat → Nat} {h : MH} {t : QT} (hA : inj40 A) {j k : Nat} (hj : [0, 1, 2, 3, 4, 5, 7, 8, 9, 12, 13, 14, 15, 16, 17, 18, 19, 20, 21, 22, 23, 24, 25, 26, 27, 28, 29, 30, 31, 32, 33, 34, 35, 36, 37, 38, 39].contains j = true) : g_i (cW h (A 6) (A 10) (A 11) t) (A j) k = g_i h (A j) k := by
  have hj40 : j < 40 := by
    simp only [List.contains_eq_mem, decide_eq_true_eq] at hj
    have : ∀ x ∈ [0, 1, 2, 3, 4, 5, 7, 8, 9, 12, 13, 14, 15, 16, 17, 18, 19, 20, 21, 22, 23, 24, 25, 26, 27, 28, 29, 30, 31, 32, 33, 34, 35, 36, 37, 38, 39], x < 40 := by decide
    exact this j hj
  have d6 : ¬ A j = A 6 := fun z => by have := (hA j 6 hj40 (by decide)).mp z; subst this; simp at hj
  have d10 : ¬ A j = A 10 := fun z => by have := (hA j 10 hj40 (by decide)).mp z; subst this; simp at hj
  have d11 : ¬ A j = A 11 := fun z => by have := (hA j 11 hj40 (by decide)).mp z; subst this; simp at hj
  simp only [cW, mi_pi, d6, d10, d11, false_and, if_false]
theorem imw1 {A : Nat → Nat} {h : MH} {t : QT} (hA : inj40 A) {j k : Nat} (hj : [0, 1, 2, 3, 4, 5, 6, 7, 8, 9, 10, 11, 12, 13, 14, 15, 16, 17, 18, 19, 20, 21, 22, 23, 24, 25, 26, 28, 29, 30, 31, 33, 34, 36, 37, 38, 39].contains j = true) : g_i (mW h (A 27) 1 (A 32) (A 35) t) (A j) k = g_i h (A j) k := by
  have hj40 : j < 40 := by
    simp only [List.contains_eq_mem, decide_eq_true_eq] at hj
    have : ∀ x ∈ [0, 1, 2, 3, 4, 5, 6, 7, 8, 9, 10, 11, 12, 13, 14, 15, 16, 17, 18, 19, 20, 21, 22, 23, 24, 25, 26, 28, 29, 30, 31, 33, 34, 36, 37, 38, 39], x < 40 := by decide
    exact this j hj
  have d27 : ¬ A j = A 27 := fun z => by have := (hA j 27 hj40 (by decide)).mp z; subst this; simp at hj
  have d32 : ¬ A j = A 32 := fun z => by have := (hA j 32 hj40 (by decide)).mp z; subst this; simp at hj
  have d35 : ¬ A j = A 35 := fun z => by have := (hA j 35 hj40 (by decide)).mp z; subst this; simp at hj
  simp only [mW, mi_pi, d27, d32, d35, false_and, if_false]
theorem icw2 {A : Nat → Nat} {h : MH} {t : QT} (hA : inj40 A) {j k : Nat} (hj : [0, 1, 2, 3, 4, 5, 6, 8, 9, 10, 11, 14, 15, 16, 17, 18, 19, 20, 21, 22, 23, 24, 25, 26, 27, 28, 29, 30, 31, 32, 33, 34, 35, 36, 37, 38, 39].contains j = true) : g_i (cW h (A 7) (A 12) (A 13) t) (A j) k = g_i h (A j) k := by
  have hj40 : j < 40 := by
    simp only [List.contains_eq_mem, decide_eq_true_eq] at hj
    have : ∀ x ∈ [0, 1, 2, 3, 4, 5, 6, 8, 9, 10, 11, 14, 15, 16, 17, 18, 19, 20, 21, 22, 23, 24, 25, 26, 27, 28, 29, 30, 31, 32, 33, 34, 35, 36, 37, 38, 39], x < 40 := by decide
    exact this j hj
  have d7 : ¬ A j = A 7 := fun z => by have := (hA j 7 hj40 (by decide)).mp z; subst this; simp at hj
  have d12 : ¬ A j = A 12 := fun z => by have := (hA j 12 hj40 (by decide)).mp z; subst this; simp at hj
  have d13 : ¬ A j = A 13 := fun z => by have := (hA j 13 hj40 (by decide)).mp z; subst this; simp at hj
  simp only [cW, mi_pi, d7, d12, d13, false_and, if_false]
theorem imw2 {A : Nat → Nat} {h : MH} {t : QT} (hA : inj40 A) {j k : Nat} (hj : [0, 1, 2, 3, 4, 5, 6, 7, 8, 9, 10, 11, 12, 13, 14, 15, 16, 17, 18, 19, 20, 21, 22, 23, 24, 25, 26, 28, 29, 30, 31, 32, 34, 35, 37, 38, 39].contains j = true) : g_i (mW h (A 27) 2 (A 33) (A 36) t) (A j) k = g_i h (A j) k := by
  have hj40 : j < 40 := by
    simp only [List.contains_eq_mem, decide_eq_true_eq] at hj
    have : ∀ x ∈ [0, 1, 2, 3, 4, 5, 6, 7, 8, 9, 10, 11, 12, 13, 14, 15, 16, 17, 18, 19, 20, 21, 22, 23, 24, 25, 26, 28, 29, 30, 31, 32, 34, 35, 37, 38, 39], x < 40 := by decide
    exact this j hj
  have d27 : ¬ A j = A 27 := fun z => by have := (hA j 27 hj40 (by decide)).mp z; subst this; simp at hj
  have d33 : ¬ A j = A 33 := fun z => by have := (hA j 33 hj40 (by decide)).mp z; subst this; simp at hj
  have d36 : ¬ A j = A 36 := fun z => by have := (hA j 36 hj40 (by decide)).mp z; subst this; simp at hj
  simp only [mW, mi_pi, d27, d33, d36, false_and, if_false]
theorem hx_296_1 {l rest : List Value} {bc bs : Nat} {Q : MR → MH → Prop} {h : MH} : Kc Ok 296 4 7 l rest bc bs Q (.inr 1) h ↔ ∀ q : Nat, Ok 296 14 l [.ref q] h bc bs Q := Kc_x (by decide +kernel) (by decide +kernel)
theorem op_put {A : Nat → Nat} {h : MH} (R : Rl A h) {q s : Int32} : Ok 296 0 [.ref (A 0), .int q, .int s, .ref (A 39), mk0] [] h 2 12 (fun r h1 => ∃ k : Int32, r = .inl (some (.int k)) ∧ g_c h1 (A 22) = 9 ∧ Ok 188 0 [.ref (A 22), .int q, .int s] [] h1 0 0 (fun r2 h2 => ∃ b : Int32, r2 = .inl (some (.int b)) ∧ Rl A h2 ∧ g_i h2 (A 22) 9 = k ∧ (k = 0 → g_l h2 (A 39) 0 = b.toInt64))) := by
  obtain ⟨vk, vcn, v0, v1, v2, vp, vl0, vl1, vlr, vsr, vc, tx⟩ := R
  have vk0 := vk
  have vcn0 := vcn
  (refine K_el vk0 ?_; intros hA kc0 kc1 kc2 kc3 kc4 kc5 kc6 kc7 kc8 kc9 kc10 kc11 kc12 kc13 kc14 kc15 kc16 kc17 kc18 kc19 kc20 kc21 kc22 kc23 kc24 kc25 kc26 kc27 kc28 kc29 kc30 kc31 kc32 kc33 kc34 kc35 kc36 kc37 kc38 kc39 kz kt kn3 kn4 kn18 kn21 kn23 kn24 kn25 kn26 kn27 kn29 kn30 kr0_0 kr0_1 kr0_2 kr0_3 kr0_4 kr0_5 kr0_7 kr0_8 kr0_9 kr0_10 kr1_0 kr2_0 kr5_0 kr5_1 kr6_0 kr6_1 kr7_0 kr7_1 kr8_0 kr9_0 kr10_0 kr11_0 kr12_0 kr13_0 kr14_0 kr15_0 kr16_0 kr17_0 kr19_0 kr19_1 kr22_0 kr22_1 kr22_2 kr22_3 kr22_4 kr22_5 kr22_7 kr22_8 kr25_0 kr25_1 kr25_2 kr26_0 kr26_1 kr26_2 kr29_0 kr29_1)
  (refine Cn_el vcn0 ?_; intros ki5_2 ki6_2 ki7_2 ki8_1 ki8_2 ki8_3 ki9_1 ki9_2 ki9_3 ki10_1 ki10_2 ki10_3 ki11_1 ki11_2 ki11_3 ki12_1 ki12_2 ki12_3 ki13_1 ki13_2 ki13_3 ki14_1 ki14_2 ki14_3 ki28_0 ki28_1 ki31_0 ki31_1 ki32_0 ki32_1 ki33_0 ki33_1 ki34_0 ki34_1 ki35_0 ki35_1 ki36_0 ki36_1)
  have hAe : ∀ i j, i < 40 → j < 40 → (A i = A j ↔ i = j) := hA
  by_cases bq : q < 0 ∨ ¬ q < 3
  · have bq2 : (¬ q < 0 ∧ q < 3) = False := nrng bq
    by_cases bs : (¬ s < 0 ∧ s < 6)
    all_goals
      simp only [o296_0, o296_1, o296_2, o296_3, o296_4, o296_7, o296_8, o296_11, o296_14, o296_16, o296_17, o296_18, o296_19, o64_0, o64_1, o64_2, o64_5, o64_6, o64_7, o64_10, o64_11, o64_14, o64_17, o64_18, o64_21, o64_22, o64_25, o64_26, o64_27, o64_28, o64_29, o64_32, o64_35, o64_36, o64_39, o64_40, o64_43, o64_46, o188_0, o188_1, o188_2, o188_5, o188_8, o188_9, o188_12, o188_15, o188_16, o188_19, o188_20, o188_23, o188_26, o188_27, o188_28, o188_29, o188_32, o188_33, o188_34, o188_37, o188_40, o188_41, o188_42, o188_45, o188_46, o188_47, o188_48, o188_49, o188_50, o188_53, o188_56, o188_57, o188_58, o188_59, o188_62, o188_65, hx_296_1, c_X5_checkSlot, c_X8_isSlot, c_X8_isThrown, c_X8_isThrown_, c_X8_isThrown__, c_X8_isQueue, c_queueOf_bad, mc_pi, mc_pl, mc_pr, mc_pN, mc_pT, mc_pC, mn_pi, mn_pl, mn_pr, mn_pN, mn_pT, mn_pC, mi_pi, mi_pl, mi_pr, mi_pN, mi_pT, mi_pC, ml_pi, ml_pl, ml_pr, ml_pN, ml_pT, ml_pC, mr_pi, mr_pl, mr_pr, mr_pN, mr_pT, mr_pC, mt_pi, mt_pl, mt_pr, mt_pN, mt_pT, mt_pC, mz_pi, mz_pl, mz_pr, mz_pN, mz_pT, mz_pC, ma_pi, ma_pl, ma_pr, ma_pN, ma_pT, ma_pC, mcs_0, mcs_i, mcs_l, mcs_r, mcs_n, csum_rf, Kn_v, Kn_0, Kn_x, mrf_some, kok_0, true_and, and_true, false_and, and_false, true_or, or_true, or_false, false_or, not_true_eq_false, not_false_eq_true, true_implies, false_implies, implies_true, forall_const, if_true, if_false, and_self, Nat.reduceEqDiff, Nat.reduceLeDiff, Nat.reduceSub, Nat.reduceAdd, Nat.zero_le, Nat.le_refl, i10, i01, kz0, kz1, eq_self, lt_le, Classical.not_not, Int32.reduceLT, Int32.reduceAdd, Int32.reduceSub, Int32.reduceMul, cl0, cl1, cl2, cl3, cl4, cl5, cl6, cl7, cl8, cl9, cl10, cl11, cl12, cl13, cl14, cl15, cl16, cl17, cl18, cl19, cl20, cl21, cl22, cl23, cl24, cl25, cl26, cl27, cl28, cl29, cl30, cl31, cl32, cl33, cl34, cl35, cl36, cl37, cl38, cl39, lg_cmp_eq, Kc_v, Kc_0, Sum.inl.injEq, Option.some.injEq, Value.int.injEq, exists_eq_left', Nat.reduceLT, hAe, i20, i30, kc0, kc1, kc2, kc3, kc4, kc5, kc6, kc7, kc8, kc9, kc10, kc11, kc12, kc13, kc14, kc15, kc16, kc17, kc18, kc19, kc20, kc21, kc22, kc23, kc24, kc25, kc26, kc27, kc28, kc29, kc30, kc31, kc32, kc33, kc34, kc35, kc36, kc37, kc38, kc39, kn3, kn4, kn18, kn21, kn23, kn24, kn25, kn26, kn27, kn29, kn30, kr0_0, kr0_1, kr0_2, kr0_3, kr0_4, kr0_5, kr0_7, kr0_8, kr0_9, kr0_10, kr1_0, kr2_0, kr5_0, kr5_1, kr6_0, kr6_1, kr7_0, kr7_1, kr8_0, kr9_0, kr10_0, kr11_0, kr12_0, kr13_0, kr14_0, kr15_0, kr16_0, kr17_0, kr19_0, kr19_1, kr22_0, kr22_1, kr22_2, kr22_3, kr22_4, kr22_5, kr22_7, kr22_8, kr25_0, kr25_1, kr25_2, kr26_0, kr26_1, kr26_2, kr29_0, kr29_1, kz, ki5_2, ki6_2, ki7_2, ki8_1, ki8_2, ki8_3, ki9_1, ki9_2, ki9_3, ki10_1, ki10_2, ki10_3, ki11_1, ki11_2, ki11_3, ki12_1, ki12_2, ki12_3, ki13_1, ki13_2, ki13_3, ki14_1, ki14_2, ki14_3, ki28_0, ki28_1, ki31_0, ki31_1, ki32_0, ki32_1, ki33_0, ki33_1, ki34_0, ki34_1, ki35_0, ki35_1, ki36_0, ki36_1, bq, bq2, bs]
      intro t ht
      first | refine ⟨⟨?_, ?_, ?_, ?_, ?_, ?_, ?_, ?_, ?_, ?_, ?_, ?_⟩, rfl⟩ | refine ⟨?_, ?_, ?_, ?_, ?_, ?_, ?_, ?_, ?_, ?_, ?_, ?_⟩
      · (try simp only [K_pi, K_pl, K_pC, K_cW, K_mW])
        exact K_pT ht vk
      · (try simp only [Cn_pi hA (j := 18) (by decide), Cn_pi hA (j := 22) (by decide), Cn_pi hA (j := 30) (by decide), Cn_pl, Cn_pT, Cn_pr])
        exact vcn
      · (try simp only [Vq0_pi hA (j := 18) (by decide), Vq0_pi hA (j := 22) (by decide), Vq0_pi hA (j := 30) (by decide), Vq0_pl, Vq0_pT, Vq0_pr])
        exact v0
      · (try simp only [Vq1_pi hA (j := 18) (by decide), Vq1_pi hA (j := 22) (by decide), Vq1_pi hA (j := 30) (by decide), Vq1_pl, Vq1_pT, Vq1_pr])
        exact v1
      · (try simp only [Vq2_pi hA (j := 18) (by decide), Vq2_pi hA (j := 22) (by decide), Vq2_pi hA (j := 30) (by decide), Vq2_pl, Vq2_pT, Vq2_pr])
        exact v2
      · (try simp only [Vp_pi hA (j := 18) (by decide), Vp_pi hA (j := 30) (by decide), Vp_thr hA, Vp_pl, Vp_pT, Vp_pr])
        exact vp
      · (try simp only [Vl0_pi hA (j := 18) (by decide), Vl0_pi hA (j := 22) (by decide), Vl0_pi hA (j := 30) (by decide), Vl0_pl, Vl0_pT, Vl0_pr])
        exact vl0
      · (try simp only [Vl1_pi hA (j := 18) (by decide), Vl1_pi hA (j := 22) (by decide), Vl1_pi hA (j := 30) (by decide), Vl1_pl, Vl1_pT, Vl1_pr])
        exact vl1
      · (try simp only [Vlr_pi hA (j := 18) (by decide), Vlr_pi hA (j := 22) (by decide), Vlr_pi hA (j := 30) (by decide), Vlr_pl hA (j := 39) (by decide), Vlr_pT, Vlr_pr])
        exact vlr
      · (try simp only [Vsr_pi hA (j := 18) (by decide), Vsr_pi hA (j := 22) (by decide), Vsr_pi hA (j := 30) (by decide), Vsr_pl hA (j := 39) (by decide), Vsr_pT, Vsr_pr])
        exact vsr
      · (try simp only [Vc_pi hA (j := 22) (by decide), Vc_pl, Vc_pT, Vc_pr])
        exact vc
      · (try simp only [Tx_pi hA (j := 18) (by decide), Tx_pi hA (j := 22) (by decide), Tx_pi hA (j := 30) (by decide), Tx_pl])
        exact Tx_pT ht tx
  · have y1 : ¬ q < 0 := fun z => bq (Or.inl z)
    have y2 : q < 3 := Classical.byContradiction fun z => bq (Or.inr z)
    have bq2 : (¬ q < 0 ∧ q < 3) = True := eq_true ⟨y1, y2⟩
    by_cases bs : s < 0 ∨ ¬ s < 6
    · have bs2 : (¬ s < 0 ∧ s < 6) = False := nrng bs
      rcases q_cases y1 y2 with rfl | rfl | rfl
      · skip
        simp only [o296_0, o296_1, o296_2, o296_3, o296_4, o296_7, o296_8, o296_11, o296_14, o296_16, o296_17, o296_18, o296_19, o64_0, o64_1, o64_2, o64_5, o64_6, o64_7, o64_10, o64_11, o64_14, o64_17, o64_18, o64_21, o64_22, o64_25, o64_26, o64_27, o64_28, o64_29, o64_32, o64_35, o64_36, o64_39, o64_40, o64_43, o64_46, o188_0, o188_1, o188_2, o188_5, o188_8, o188_9, o188_12, o188_15, o188_16, o188_19, o188_20, o188_23, o188_26, o188_27, o188_28, o188_29, o188_32, o188_33, o188_34, o188_37, o188_40, o188_41, o188_42, o188_45, o188_46, o188_47, o188_48, o188_49, o188_50, o188_53, o188_56, o188_57, o188_58, o188_59, o188_62, o188_65, hx_296_1, c_X5_checkSlot, c_X8_isSlot, c_X8_isThrown, c_X8_isThrown_, c_X8_isThrown__, c_X8_isQueue, c_queueOf_bad, c_queueOf_0, mc_pi, mc_pl, mc_pr, mc_pN, mc_pT, mc_pC, mn_pi, mn_pl, mn_pr, mn_pN, mn_pT, mn_pC, mi_pi, mi_pl, mi_pr, mi_pN, mi_pT, mi_pC, ml_pi, ml_pl, ml_pr, ml_pN, ml_pT, ml_pC, mr_pi, mr_pl, mr_pr, mr_pN, mr_pT, mr_pC, mt_pi, mt_pl, mt_pr, mt_pN, mt_pT, mt_pC, mz_pi, mz_pl, mz_pr, mz_pN, mz_pT, mz_pC, ma_pi, ma_pl, ma_pr, ma_pN, ma_pT, ma_pC, mcs_0, mcs_i, mcs_l, mcs_r, mcs_n, csum_rf, Kn_v, Kn_0, Kn_x, mrf_some, kok_0, true_and, and_true, false_and, and_false, true_or, or_true, or_false, false_or, not_true_eq_false, not_false_eq_true, true_implies, false_implies, implies_true, forall_const, if_true, if_false, and_self, Nat.reduceEqDiff, Nat.reduceLeDiff, Nat.reduceSub, Nat.reduceAdd, Nat.zero_le, Nat.le_refl, i10, i01, kz0, kz1, eq_self, lt_le, Classical.not_not, Int32.reduceLT, Int32.reduceAdd, Int32.reduceSub, Int32.reduceMul, cl0, cl1, cl2, cl3, cl4, cl5, cl6, cl7, cl8, cl9, cl10, cl11, cl12, cl13, cl14, cl15, cl16, cl17, cl18, cl19, cl20, cl21, cl22, cl23, cl24, cl25, cl26, cl27, cl28, cl29, cl30, cl31, cl32, cl33, cl34, cl35, cl36, cl37, cl38, cl39, lg_cmp_eq, Kc_v, Kc_0, Sum.inl.injEq, Option.some.injEq, Value.int.injEq, exists_eq_left', Nat.reduceLT, hAe, i20, i30, kc0, kc1, kc2, kc3, kc4, kc5, kc6, kc7, kc8, kc9, kc10, kc11, kc12, kc13, kc14, kc15, kc16, kc17, kc18, kc19, kc20, kc21, kc22, kc23, kc24, kc25, kc26, kc27, kc28, kc29, kc30, kc31, kc32, kc33, kc34, kc35, kc36, kc37, kc38, kc39, kn3, kn4, kn18, kn21, kn23, kn24, kn25, kn26, kn27, kn29, kn30, kr0_0, kr0_1, kr0_2, kr0_3, kr0_4, kr0_5, kr0_7, kr0_8, kr0_9, kr0_10, kr1_0, kr2_0, kr5_0, kr5_1, kr6_0, kr6_1, kr7_0, kr7_1, kr8_0, kr9_0, kr10_0, kr11_0, kr12_0, kr13_0, kr14_0, kr15_0, kr16_0, kr17_0, kr19_0, kr19_1, kr22_0, kr22_1, kr22_2, kr22_3, kr22_4, kr22_5, kr22_7, kr22_8, kr25_0, kr25_1, kr25_2, kr26_0, kr26_1, kr26_2, kr29_0, kr29_1, kz, ki5_2, ki6_2, ki7_2, ki8_1, ki8_2, ki8_3, ki9_1, ki9_2, ki9_3, ki10_1, ki10_2, ki10_3, ki11_1, ki11_2, ki11_3, ki12_1, ki12_2, ki12_3, ki13_1, ki13_2, ki13_3, ki14_1, ki14_2, ki14_3, ki28_0, ki28_1, ki31_0, ki31_1, ki32_0, ki32_1, ki33_0, ki33_1, ki34_0, ki34_1, ki35_0, ki35_1, ki36_0, ki36_1, bq0, bqq, vq3, bs, bs2]
        intro t ht
        first | refine ⟨⟨?_, ?_, ?_, ?_, ?_, ?_, ?_, ?_, ?_, ?_, ?_, ?_⟩, rfl⟩ | refine ⟨?_, ?_, ?_, ?_, ?_, ?_, ?_, ?_, ?_, ?_, ?_, ?_⟩
        · (try simp only [K_pi, K_pl, K_pC, K_cW, K_mW])
          exact K_pT ht vk
        · (try simp only [Cn_pi hA (j := 18) (by decide), Cn_pi hA (j := 22) (by decide), Cn_pi hA (j := 30) (by decide), Cn_pl, Cn_pT, Cn_pr])
          exact vcn
        · (try simp only [Vq0_pi hA (j := 18) (by decide), Vq0_pi hA (j := 22) (by decide), Vq0_pi hA (j := 30) (by decide), Vq0_pl, Vq0_pT, Vq0_pr])
          exact v0
        · (try simp only [Vq1_pi hA (j := 18) (by decide), Vq1_pi hA (j := 22) (by decide), Vq1_pi hA (j := 30) (by decide), Vq1_pl, Vq1_pT, Vq1_pr])
          exact v1
        · (try simp only [Vq2_pi hA (j := 18) (by decide), Vq2_pi hA (j := 22) (by decide), Vq2_pi hA (j := 30) (by decide), Vq2_pl, Vq2_pT, Vq2_pr])
          exact v2
        · (try simp only [Vp_pi hA (j := 18) (by decide), Vp_pi hA (j := 30) (by decide), Vp_thr hA, Vp_pl, Vp_pT, Vp_pr])
          exact vp
        · (try simp only [Vl0_pi hA (j := 18) (by decide), Vl0_pi hA (j := 22) (by decide), Vl0_pi hA (j := 30) (by decide), Vl0_pl, Vl0_pT, Vl0_pr])
          exact vl0
        · (try simp only [Vl1_pi hA (j := 18) (by decide), Vl1_pi hA (j := 22) (by decide), Vl1_pi hA (j := 30) (by decide), Vl1_pl, Vl1_pT, Vl1_pr])
          exact vl1
        · (try simp only [Vlr_pi hA (j := 18) (by decide), Vlr_pi hA (j := 22) (by decide), Vlr_pi hA (j := 30) (by decide), Vlr_pl hA (j := 39) (by decide), Vlr_pT, Vlr_pr])
          exact vlr
        · (try simp only [Vsr_pi hA (j := 18) (by decide), Vsr_pi hA (j := 22) (by decide), Vsr_pi hA (j := 30) (by decide), Vsr_pl hA (j := 39) (by decide), Vsr_pT, Vsr_pr])
          exact vsr
        · (try simp only [Vc_pi hA (j := 22) (by decide), Vc_pl, Vc_pT, Vc_pr])
          exact vc
        · (try simp only [Tx_pi hA (j := 18) (by decide), Tx_pi hA (j := 22) (by decide), Tx_pi hA (j := 30) (by decide), Tx_pl])
          exact Tx_pT ht tx
      · skip
        simp only [o296_0, o296_1, o296_2, o296_3, o296_4, o296_7, o296_8, o296_11, o296_14, o296_16, o296_17, o296_18, o296_19, o64_0, o64_1, o64_2, o64_5, o64_6, o64_7, o64_10, o64_11, o64_14, o64_17, o64_18, o64_21, o64_22, o64_25, o64_26, o64_27, o64_28, o64_29, o64_32, o64_35, o64_36, o64_39, o64_40, o64_43, o64_46, o188_0, o188_1, o188_2, o188_5, o188_8, o188_9, o188_12, o188_15, o188_16, o188_19, o188_20, o188_23, o188_26, o188_27, o188_28, o188_29, o188_32, o188_33, o188_34, o188_37, o188_40, o188_41, o188_42, o188_45, o188_46, o188_47, o188_48, o188_49, o188_50, o188_53, o188_56, o188_57, o188_58, o188_59, o188_62, o188_65, hx_296_1, c_X5_checkSlot, c_X8_isSlot, c_X8_isThrown, c_X8_isThrown_, c_X8_isThrown__, c_X8_isQueue, c_queueOf_bad, c_queueOf_1, mc_pi, mc_pl, mc_pr, mc_pN, mc_pT, mc_pC, mn_pi, mn_pl, mn_pr, mn_pN, mn_pT, mn_pC, mi_pi, mi_pl, mi_pr, mi_pN, mi_pT, mi_pC, ml_pi, ml_pl, ml_pr, ml_pN, ml_pT, ml_pC, mr_pi, mr_pl, mr_pr, mr_pN, mr_pT, mr_pC, mt_pi, mt_pl, mt_pr, mt_pN, mt_pT, mt_pC, mz_pi, mz_pl, mz_pr, mz_pN, mz_pT, mz_pC, ma_pi, ma_pl, ma_pr, ma_pN, ma_pT, ma_pC, mcs_0, mcs_i, mcs_l, mcs_r, mcs_n, csum_rf, Kn_v, Kn_0, Kn_x, mrf_some, kok_0, true_and, and_true, false_and, and_false, true_or, or_true, or_false, false_or, not_true_eq_false, not_false_eq_true, true_implies, false_implies, implies_true, forall_const, if_true, if_false, and_self, Nat.reduceEqDiff, Nat.reduceLeDiff, Nat.reduceSub, Nat.reduceAdd, Nat.zero_le, Nat.le_refl, i10, i01, kz0, kz1, eq_self, lt_le, Classical.not_not, Int32.reduceLT, Int32.reduceAdd, Int32.reduceSub, Int32.reduceMul, cl0, cl1, cl2, cl3, cl4, cl5, cl6, cl7, cl8, cl9, cl10, cl11, cl12, cl13, cl14, cl15, cl16, cl17, cl18, cl19, cl20, cl21, cl22, cl23, cl24, cl25, cl26, cl27, cl28, cl29, cl30, cl31, cl32, cl33, cl34, cl35, cl36, cl37, cl38, cl39, lg_cmp_eq, Kc_v, Kc_0, Sum.inl.injEq, Option.some.injEq, Value.int.injEq, exists_eq_left', Nat.reduceLT, hAe, i20, i30, kc0, kc1, kc2, kc3, kc4, kc5, kc6, kc7, kc8, kc9, kc10, kc11, kc12, kc13, kc14, kc15, kc16, kc17, kc18, kc19, kc20, kc21, kc22, kc23, kc24, kc25, kc26, kc27, kc28, kc29, kc30, kc31, kc32, kc33, kc34, kc35, kc36, kc37, kc38, kc39, kn3, kn4, kn18, kn21, kn23, kn24, kn25, kn26, kn27, kn29, kn30, kr0_0, kr0_1, kr0_2, kr0_3, kr0_4, kr0_5, kr0_7, kr0_8, kr0_9, kr0_10, kr1_0, kr2_0, kr5_0, kr5_1, kr6_0, kr6_1, kr7_0, kr7_1, kr8_0, kr9_0, kr10_0, kr11_0, kr12_0, kr13_0, kr14_0, kr15_0, kr16_0, kr17_0, kr19_0, kr19_1, kr22_0, kr22_1, kr22_2, kr22_3, kr22_4, kr22_5, kr22_7, kr22_8, kr25_0, kr25_1, kr25_2, kr26_0, kr26_1, kr26_2, kr29_0, kr29_1, kz, ki5_2, ki6_2, ki7_2, ki8_1, ki8_2, ki8_3, ki9_1, ki9_2, ki9_3, ki10_1, ki10_2, ki10_3, ki11_1, ki11_2, ki11_3, ki12_1, ki12_2, ki12_3, ki13_1, ki13_2, ki13_3, ki14_1, ki14_2, ki14_3, ki28_0, ki28_1, ki31_0, ki31_1, ki32_0, ki32_1, ki33_0, ki33_1, ki34_0, ki34_1, ki35_0, ki35_1, ki36_0, ki36_1, bq0, bqq, vq3, bs, bs2]
        intro t ht
        first | refine ⟨⟨?_, ?_, ?_, ?_, ?_, ?_, ?_, ?_, ?_, ?_, ?_, ?_⟩, rfl⟩ | refine ⟨?_, ?_, ?_, ?_, ?_, ?_, ?_, ?_, ?_, ?_, ?_, ?_⟩
        · (try simp only [K_pi, K_pl, K_pC, K_cW, K_mW])
          exact K_pT ht vk
        · (try simp only [Cn_pi hA (j := 18) (by decide), Cn_pi hA (j := 22) (by decide), Cn_pi hA (j := 30) (by decide), Cn_pl, Cn_pT, Cn_pr])
          exact vcn
        · (try simp only [Vq0_pi hA (j := 18) (by decide), Vq0_pi hA (j := 22) (by decide), Vq0_pi hA (j := 30) (by decide), Vq0_pl, Vq0_pT, Vq0_pr])
          exact v0
        · (try simp only [Vq1_pi hA (j := 18) (by decide), Vq1_pi hA (j := 22) (by decide), Vq1_pi hA (j := 30) (by decide), Vq1_pl, Vq1_pT, Vq1_pr])
          exact v1
        · (try simp only [Vq2_pi hA (j := 18) (by decide), Vq2_pi hA (j := 22) (by decide), Vq2_pi hA (j := 30) (by decide), Vq2_pl, Vq2_pT, Vq2_pr])
          exact v2
        · (try simp only [Vp_pi hA (j := 18) (by decide), Vp_pi hA (j := 30) (by decide), Vp_thr hA, Vp_pl, Vp_pT, Vp_pr])
          exact vp
        · (try simp only [Vl0_pi hA (j := 18) (by decide), Vl0_pi hA (j := 22) (by decide), Vl0_pi hA (j := 30) (by decide), Vl0_pl, Vl0_pT, Vl0_pr])
          exact vl0
        · (try simp only [Vl1_pi hA (j := 18) (by decide), Vl1_pi hA (j := 22) (by decide), Vl1_pi hA (j := 30) (by decide), Vl1_pl, Vl1_pT, Vl1_pr])
          exact vl1
        · (try simp only [Vlr_pi hA (j := 18) (by decide), Vlr_pi hA (j := 22) (by decide), Vlr_pi hA (j := 30) (by decide), Vlr_pl hA (j := 39) (by decide), Vlr_pT, Vlr_pr])
          exact vlr
        · (try simp only [Vsr_pi hA (j := 18) (by decide), Vsr_pi hA (j := 22) (by decide), Vsr_pi hA (j := 30) (by decide), Vsr_pl hA (j := 39) (by decide), Vsr_pT, Vsr_pr])
          exact vsr
        · (try simp only [Vc_pi hA (j := 22) (by decide), Vc_pl, Vc_pT, Vc_pr])
          exact vc
        · (try simp only [Tx_pi hA (j := 18) (by decide), Tx_pi hA (j := 22) (by decide), Tx_pi hA (j := 30) (by decide), Tx_pl])
          exact Tx_pT ht tx
      · skip
        simp only [o296_0, o296_1, o296_2, o296_3, o296_4, o296_7, o296_8, o296_11, o296_14, o296_16, o296_17, o296_18, o296_19, o64_0, o64_1, o64_2, o64_5, o64_6, o64_7, o64_10, o64_11, o64_14, o64_17, o64_18, o64_21, o64_22, o64_25, o64_26, o64_27, o64_28, o64_29, o64_32, o64_35, o64_36, o64_39, o64_40, o64_43, o64_46, o188_0, o188_1, o188_2, o188_5, o188_8, o188_9, o188_12, o188_15, o188_16, o188_19, o188_20, o188_23, o188_26, o188_27, o188_28, o188_29, o188_32, o188_33, o188_34, o188_37, o188_40, o188_41, o188_42, o188_45, o188_46, o188_47, o188_48, o188_49, o188_50, o188_53, o188_56, o188_57, o188_58, o188_59, o188_62, o188_65, hx_296_1, c_X5_checkSlot, c_X8_isSlot, c_X8_isThrown, c_X8_isThrown_, c_X8_isThrown__, c_X8_isQueue, c_queueOf_bad, c_queueOf_2, mc_pi, mc_pl, mc_pr, mc_pN, mc_pT, mc_pC, mn_pi, mn_pl, mn_pr, mn_pN, mn_pT, mn_pC, mi_pi, mi_pl, mi_pr, mi_pN, mi_pT, mi_pC, ml_pi, ml_pl, ml_pr, ml_pN, ml_pT, ml_pC, mr_pi, mr_pl, mr_pr, mr_pN, mr_pT, mr_pC, mt_pi, mt_pl, mt_pr, mt_pN, mt_pT, mt_pC, mz_pi, mz_pl, mz_pr, mz_pN, mz_pT, mz_pC, ma_pi, ma_pl, ma_pr, ma_pN, ma_pT, ma_pC, mcs_0, mcs_i, mcs_l, mcs_r, mcs_n, csum_rf, Kn_v, Kn_0, Kn_x, mrf_some, kok_0, true_and, and_true, false_and, and_false, true_or, or_true, or_false, false_or, not_true_eq_false, not_false_eq_true, true_implies, false_implies, implies_true, forall_const, if_true, if_false, and_self, Nat.reduceEqDiff, Nat.reduceLeDiff, Nat.reduceSub, Nat.reduceAdd, Nat.zero_le, Nat.le_refl, i10, i01, kz0, kz1, eq_self, lt_le, Classical.not_not, Int32.reduceLT, Int32.reduceAdd, Int32.reduceSub, Int32.reduceMul, cl0, cl1, cl2, cl3, cl4, cl5, cl6, cl7, cl8, cl9, cl10, cl11, cl12, cl13, cl14, cl15, cl16, cl17, cl18, cl19, cl20, cl21, cl22, cl23, cl24, cl25, cl26, cl27, cl28, cl29, cl30, cl31, cl32, cl33, cl34, cl35, cl36, cl37, cl38, cl39, lg_cmp_eq, Kc_v, Kc_0, Sum.inl.injEq, Option.some.injEq, Value.int.injEq, exists_eq_left', Nat.reduceLT, hAe, i20, i30, kc0, kc1, kc2, kc3, kc4, kc5, kc6, kc7, kc8, kc9, kc10, kc11, kc12, kc13, kc14, kc15, kc16, kc17, kc18, kc19, kc20, kc21, kc22, kc23, kc24, kc25, kc26, kc27, kc28, kc29, kc30, kc31, kc32, kc33, kc34, kc35, kc36, kc37, kc38, kc39, kn3, kn4, kn18, kn21, kn23, kn24, kn25, kn26, kn27, kn29, kn30, kr0_0, kr0_1, kr0_2, kr0_3, kr0_4, kr0_5, kr0_7, kr0_8, kr0_9, kr0_10, kr1_0, kr2_0, kr5_0, kr5_1, kr6_0, kr6_1, kr7_0, kr7_1, kr8_0, kr9_0, kr10_0, kr11_0, kr12_0, kr13_0, kr14_0, kr15_0, kr16_0, kr17_0, kr19_0, kr19_1, kr22_0, kr22_1, kr22_2, kr22_3, kr22_4, kr22_5, kr22_7, kr22_8, kr25_0, kr25_1, kr25_2, kr26_0, kr26_1, kr26_2, kr29_0, kr29_1, kz, ki5_2, ki6_2, ki7_2, ki8_1, ki8_2, ki8_3, ki9_1, ki9_2, ki9_3, ki10_1, ki10_2, ki10_3, ki11_1, ki11_2, ki11_3, ki12_1, ki12_2, ki12_3, ki13_1, ki13_2, ki13_3, ki14_1, ki14_2, ki14_3, ki28_0, ki28_1, ki31_0, ki31_1, ki32_0, ki32_1, ki33_0, ki33_1, ki34_0, ki34_1, ki35_0, ki35_1, ki36_0, ki36_1, bq0, bqq, vq3, bs, bs2]
        intro t ht
        first | refine ⟨⟨?_, ?_, ?_, ?_, ?_, ?_, ?_, ?_, ?_, ?_, ?_, ?_⟩, rfl⟩ | refine ⟨?_, ?_, ?_, ?_, ?_, ?_, ?_, ?_, ?_, ?_, ?_, ?_⟩
        · (try simp only [K_pi, K_pl, K_pC, K_cW, K_mW])
          exact K_pT ht vk
        · (try simp only [Cn_pi hA (j := 18) (by decide), Cn_pi hA (j := 22) (by decide), Cn_pi hA (j := 30) (by decide), Cn_pl, Cn_pT, Cn_pr])
          exact vcn
        · (try simp only [Vq0_pi hA (j := 18) (by decide), Vq0_pi hA (j := 22) (by decide), Vq0_pi hA (j := 30) (by decide), Vq0_pl, Vq0_pT, Vq0_pr])
          exact v0
        · (try simp only [Vq1_pi hA (j := 18) (by decide), Vq1_pi hA (j := 22) (by decide), Vq1_pi hA (j := 30) (by decide), Vq1_pl, Vq1_pT, Vq1_pr])
          exact v1
        · (try simp only [Vq2_pi hA (j := 18) (by decide), Vq2_pi hA (j := 22) (by decide), Vq2_pi hA (j := 30) (by decide), Vq2_pl, Vq2_pT, Vq2_pr])
          exact v2
        · (try simp only [Vp_pi hA (j := 18) (by decide), Vp_pi hA (j := 30) (by decide), Vp_thr hA, Vp_pl, Vp_pT, Vp_pr])
          exact vp
        · (try simp only [Vl0_pi hA (j := 18) (by decide), Vl0_pi hA (j := 22) (by decide), Vl0_pi hA (j := 30) (by decide), Vl0_pl, Vl0_pT, Vl0_pr])
          exact vl0
        · (try simp only [Vl1_pi hA (j := 18) (by decide), Vl1_pi hA (j := 22) (by decide), Vl1_pi hA (j := 30) (by decide), Vl1_pl, Vl1_pT, Vl1_pr])
          exact vl1
        · (try simp only [Vlr_pi hA (j := 18) (by decide), Vlr_pi hA (j := 22) (by decide), Vlr_pi hA (j := 30) (by decide), Vlr_pl hA (j := 39) (by decide), Vlr_pT, Vlr_pr])
          exact vlr
        · (try simp only [Vsr_pi hA (j := 18) (by decide), Vsr_pi hA (j := 22) (by decide), Vsr_pi hA (j := 30) (by decide), Vsr_pl hA (j := 39) (by decide), Vsr_pT, Vsr_pr])
          exact vsr
        · (try simp only [Vc_pi hA (j := 22) (by decide), Vc_pl, Vc_pT, Vc_pr])
          exact vc
        · (try simp only [Tx_pi hA (j := 18) (by decide), Tx_pi hA (j := 22) (by decide), Tx_pi hA (j := 30) (by decide), Tx_pl])
          exact Tx_pT ht tx
    · have s1 : ¬ s < 0 := fun z => bs (Or.inl z)
      have s2 : s < 6 := Classical.byContradiction fun z => bs (Or.inr z)
      have hs := ix_ok s1 s2
      have hs2 := hs
      obtain ⟨⟨j0, j1, j2, j3⟩, d01, d02, d03, d10, d12, d13, d20, d21, d23, d30, d31, d32⟩ := hs2
      obtain ⟨l0, l1, l2, l3⟩ := ix_lt hs
      have vs0 := (vsr _ l0).1
      have vs1 := (vsr _ l1).1
      have vs2 := (vsr _ l2).1
      have vs3 := (vsr _ l3).1
      have bs2 : (¬ s < 0 ∧ s < 6) = True := eq_true ⟨s1, s2⟩
      rcases q_cases y1 y2 with rfl | rfl | rfl
      · have he := v0.1
        have hm := v0.2
        have hT : mT h (A 27) 0 (A 31) (A 34) = cT h (A 5) (A 8) (A 9) := he.symm
        have he2 := he
        simp only [cT, mT, Prod.mk.injEq] at he2
        obtain ⟨g1, g2, g3, g4, g5, g6, g7⟩ := he2
        replace g1 := g1.symm
        replace g2 := g2.symm
        replace g3 := g3.symm
        replace g4 := g4.symm
        replace g5 := g5.symm
        replace g6 := g6.symm
        replace g7 := g7.symm
        obtain ⟨hmk, har, hl0, hl9⟩ := qA_0 _ hm
        have hark : arok 0 (g_i h (A 5) 3) := fun z => absurd (by decide) z
        have n1 : ¬ A 8 = A 9 := fun z => absurd ((hAe 8 9 (by decide) (by decide)).mp z) (by decide)
        by_cases e0 : g_i h (A 8) 5 - g_i h (A 8) 4 = 0
        · skip
          simp only [o296_0, o296_1, o296_2, o296_3, o296_4, o296_7, o296_8, o296_11, o296_14, o296_16, o296_17, o296_18, o296_19, o64_0, o64_1, o64_2, o64_5, o64_6, o64_7, o64_10, o64_11, o64_14, o64_17, o64_18, o64_21, o64_22, o64_25, o64_26, o64_27, o64_28, o64_29, o64_32, o64_35, o64_36, o64_39, o64_40, o64_43, o64_46, o188_0, o188_1, o188_2, o188_5, o188_8, o188_9, o188_12, o188_15, o188_16, o188_19, o188_20, o188_23, o188_26, o188_27, o188_28, o188_29, o188_32, o188_33, o188_34, o188_37, o188_40, o188_41, o188_42, o188_45, o188_46, o188_47, o188_48, o188_49, o188_50, o188_53, o188_56, o188_57, o188_58, o188_59, o188_62, o188_65, hx_296_1, c_X5_checkSlot, c_X8_isSlot, c_X8_isThrown, c_X8_isThrown_, c_X8_isThrown__, c_X8_isQueue, c_queueOf_bad, c_queueOf_0, c_X1_hasNoRest (w := A 8) (r := A 9), c_ref_1 (cs := A 18), c_X7_rests, c_X8_no (cs := A 30), mc_pi, mc_pl, mc_pr, mc_pN, mc_pT, mc_pC, mn_pi, mn_pl, mn_pr, mn_pN, mn_pT, mn_pC, mi_pi, mi_pl, mi_pr, mi_pN, mi_pT, mi_pC, ml_pi, ml_pl, ml_pr, ml_pN, ml_pT, ml_pC, mr_pi, mr_pl, mr_pr, mr_pN, mr_pT, mr_pC, mt_pi, mt_pl, mt_pr, mt_pN, mt_pT, mt_pC, mz_pi, mz_pl, mz_pr, mz_pN, mz_pT, mz_pC, ma_pi, ma_pl, ma_pr, ma_pN, ma_pT, ma_pC, mcs_0, mcs_i, mcs_l, mcs_r, mcs_n, csum_rf, Kn_v, Kn_0, Kn_x, mrf_some, kok_0, true_and, and_true, false_and, and_false, true_or, or_true, or_false, false_or, not_true_eq_false, not_false_eq_true, true_implies, false_implies, implies_true, forall_const, if_true, if_false, and_self, Nat.reduceEqDiff, Nat.reduceLeDiff, Nat.reduceSub, Nat.reduceAdd, Nat.zero_le, Nat.le_refl, i10, i01, kz0, kz1, eq_self, lt_le, Classical.not_not, Int32.reduceLT, Int32.reduceAdd, Int32.reduceSub, Int32.reduceMul, cl0, cl1, cl2, cl3, cl4, cl5, cl6, cl7, cl8, cl9, cl10, cl11, cl12, cl13, cl14, cl15, cl16, cl17, cl18, cl19, cl20, cl21, cl22, cl23, cl24, cl25, cl26, cl27, cl28, cl29, cl30, cl31, cl32, cl33, cl34, cl35, cl36, cl37, cl38, cl39, lg_cmp_eq, Kc_v, Kc_0, Sum.inl.injEq, Option.some.injEq, Value.int.injEq, exists_eq_left', Nat.reduceLT, hAe, i20, i30, kc0, kc1, kc2, kc3, kc4, kc5, kc6, kc7, kc8, kc9, kc10, kc11, kc12, kc13, kc14, kc15, kc16, kc17, kc18, kc19, kc20, kc21, kc22, kc23, kc24, kc25, kc26, kc27, kc28, kc29, kc30, kc31, kc32, kc33, kc34, kc35, kc36, kc37, kc38, kc39, kn3, kn4, kn18, kn21, kn23, kn24, kn25, kn26, kn27, kn29, kn30, kr0_0, kr0_1, kr0_2, kr0_3, kr0_4, kr0_5, kr0_7, kr0_8, kr0_9, kr0_10, kr1_0, kr2_0, kr5_0, kr5_1, kr6_0, kr6_1, kr7_0, kr7_1, kr8_0, kr9_0, kr10_0, kr11_0, kr12_0, kr13_0, kr14_0, kr15_0, kr16_0, kr17_0, kr19_0, kr19_1, kr22_0, kr22_1, kr22_2, kr22_3, kr22_4, kr22_5, kr22_7, kr22_8, kr25_0, kr25_1, kr25_2, kr26_0, kr26_1, kr26_2, kr29_0, kr29_1, kz, ki5_2, ki6_2, ki7_2, ki8_1, ki8_2, ki8_3, ki9_1, ki9_2, ki9_3, ki10_1, ki10_2, ki10_3, ki11_1, ki11_2, ki11_3, ki12_1, ki12_2, ki12_3, ki13_1, ki13_2, ki13_3, ki14_1, ki14_2, ki14_3, ki28_0, ki28_1, ki31_0, ki31_1, ki32_0, ki32_1, ki33_0, ki33_1, ki34_0, ki34_1, ki35_0, ki35_1, ki36_0, ki36_1, bq0, bqq, vq3, hT, g1, g2, g3, g4, g5, g6, g7, hark, Int32.reduceLT, cl0, cl1, cl2, s1, s2, bs2, hs, d01, d02, d03, d10, d12, d13, d20, d21, d23, d30, d31, d32, vs0, vs1, vs2, vs3, i64_inj, i64_back, fo0, fo1, fo2, fo3, nm_eq, e0, v18]
          first | refine ⟨⟨?_, ?_, ?_, ?_, ?_, ?_, ?_, ?_, ?_, ?_, ?_, ?_⟩, rfl⟩ | refine ⟨?_, ?_, ?_, ?_, ?_, ?_, ?_, ?_, ?_, ?_, ?_, ?_⟩
          · (try simp only [K_pi, K_pl, K_pC, K_cW, K_mW])
            exact vk
          · (try simp only [Cn_pi hA (j := 18) (by decide), Cn_pi hA (j := 22) (by decide), Cn_pi hA (j := 30) (by decide), Cn_pl, Cn_pT, Cn_pr])
            exact vcn
          · (try simp only [Vq0_pi hA (j := 18) (by decide), Vq0_pi hA (j := 22) (by decide), Vq0_pi hA (j := 30) (by decide), Vq0_pl, Vq0_pT, Vq0_pr])
            exact v0
          · (try simp only [Vq1_pi hA (j := 18) (by decide), Vq1_pi hA (j := 22) (by decide), Vq1_pi hA (j := 30) (by decide), Vq1_pl, Vq1_pT, Vq1_pr])
            exact v1
          · (try simp only [Vq2_pi hA (j := 18) (by decide), Vq2_pi hA (j := 22) (by decide), Vq2_pi hA (j := 30) (by decide), Vq2_pl, Vq2_pT, Vq2_pr])
            exact v2
          · (try simp only [Vp_pi hA (j := 18) (by decide), Vp_pi hA (j := 30) (by decide), Vp_thr hA, Vp_pl, Vp_pT, Vp_pr])
            exact vp
          · (try simp only [Vl0_pi hA (j := 18) (by decide), Vl0_pi hA (j := 22) (by decide), Vl0_pi hA (j := 30) (by decide), Vl0_pl, Vl0_pT, Vl0_pr])
            exact vl0
          · (try simp only [Vl1_pi hA (j := 18) (by decide), Vl1_pi hA (j := 22) (by decide), Vl1_pi hA (j := 30) (by decide), Vl1_pl, Vl1_pT, Vl1_pr])
            exact vl1
          · (try simp only [Vlr_pi hA (j := 18) (by decide), Vlr_pi hA (j := 22) (by decide), Vlr_pi hA (j := 30) (by decide), Vlr_pl hA (j := 39) (by decide), Vlr_pT, Vlr_pr])
            exact vlr
          · (try simp only [Vsr_pi hA (j := 18) (by decide), Vsr_pi hA (j := 22) (by decide), Vsr_pi hA (j := 30) (by decide), Vsr_pl hA (j := 39) (by decide), Vsr_pT, Vsr_pr])
            exact vsr
          · refine Vc_of (c := 1) vc (by decide) (fun k => ?_) (fun k => ?_) <;> simp only [l_cW, l_mW, mi_pi, mi_pl, ml_pi, ml_pl, mi_pT, ml_pT, mi_pr, ml_pr, hAe, Nat.reduceLT, Nat.reduceEqDiff, false_and, and_false, true_and, and_true, if_false, if_true, eq_self]
          · (try simp only [Tx_pi hA (j := 18) (by decide), Tx_pi hA (j := 22) (by decide), Tx_pi hA (j := 30) (by decide), Tx_pl])
            exact tx
        · obtain ⟨i1, i2, hj, hq9⟩ := (qI_0 _ hm).resolve_left e0
          simp only [cT] at i1 i2 hj
          have hj2 := hj.2.2
          simp only [o296_0, o296_1, o296_2, o296_3, o296_4, o296_7, o296_8, o296_11, o296_14, o296_16, o296_17, o296_18, o296_19, o64_0, o64_1, o64_2, o64_5, o64_6, o64_7, o64_10, o64_11, o64_14, o64_17, o64_18, o64_21, o64_22, o64_25, o64_26, o64_27, o64_28, o64_29, o64_32, o64_35, o64_36, o64_39, o64_40, o64_43, o64_46, o188_0, o188_1, o188_2, o188_5, o188_8, o188_9, o188_12, o188_15, o188_16, o188_19, o188_20, o188_23, o188_26, o188_27, o188_28, o188_29, o188_32, o188_33, o188_34, o188_37, o188_40, o188_41, o188_42, o188_45, o188_46, o188_47, o188_48, o188_49, o188_50, o188_53, o188_56, o188_57, o188_58, o188_59, o188_62, o188_65, hx_296_1, c_X5_checkSlot, c_X8_isSlot, c_X8_isThrown, c_X8_isThrown_, c_X8_isThrown__, c_X8_isQueue, c_queueOf_bad, c_queueOf_0, c_X1_hasNoRest (w := A 8) (r := A 9), c_X7_rests, c_X1_comeIn (w := A 8) (r := A 9) (rw := A 1) (cs := A 3) (n := 16) (sz := 5) (ring := 1), c_X1_lying (w := A 8) (r := A 9), c_X8_comeIn (x2 := A 25) (x3 := A 26) (a := A 27) (w := A 31) (r := A 34) (lr := A 23) (sz := 5), c_X8_liesOf (x2 := A 25) (x3 := A 26) (a := A 27) (w := A 31) (r := A 34), c_X5_numberIn (rw := A 2) (cs := A 4), c_X8_numberOf (sr := A 24), c_X0_done (cs := A 18), c_X8_done (cs := A 30), mc_pi, mc_pl, mc_pr, mc_pN, mc_pT, mc_pC, mn_pi, mn_pl, mn_pr, mn_pN, mn_pT, mn_pC, mi_pi, mi_pl, mi_pr, mi_pN, mi_pT, mi_pC, ml_pi, ml_pl, ml_pr, ml_pN, ml_pT, ml_pC, mr_pi, mr_pl, mr_pr, mr_pN, mr_pT, mr_pC, mt_pi, mt_pl, mt_pr, mt_pN, mt_pT, mt_pC, mz_pi, mz_pl, mz_pr, mz_pN, mz_pT, mz_pC, ma_pi, ma_pl, ma_pr, ma_pN, ma_pT, ma_pC, mcs_0, mcs_i, mcs_l, mcs_r, mcs_n, csum_rf, Kn_v, Kn_0, Kn_x, mrf_some, kok_0, true_and, and_true, false_and, and_false, true_or, or_true, or_false, false_or, not_true_eq_false, not_false_eq_true, true_implies, false_implies, implies_true, forall_const, if_true, if_false, and_self, Nat.reduceEqDiff, Nat.reduceLeDiff, Nat.reduceSub, Nat.reduceAdd, Nat.zero_le, Nat.le_refl, i10, i01, kz0, kz1, eq_self, lt_le, Classical.not_not, Int32.reduceLT, Int32.reduceAdd, Int32.reduceSub, Int32.reduceMul, cl0, cl1, cl2, cl3, cl4, cl5, cl6, cl7, cl8, cl9, cl10, cl11, cl12, cl13, cl14, cl15, cl16, cl17, cl18, cl19, cl20, cl21, cl22, cl23, cl24, cl25, cl26, cl27, cl28, cl29, cl30, cl31, cl32, cl33, cl34, cl35, cl36, cl37, cl38, cl39, lg_cmp_eq, Kc_v, Kc_0, Sum.inl.injEq, Option.some.injEq, Value.int.injEq, exists_eq_left', Nat.reduceLT, hAe, i20, i30, kc0, kc1, kc2, kc3, kc4, kc5, kc6, kc7, kc8, kc9, kc10, kc11, kc12, kc13, kc14, kc15, kc16, kc17, kc18, kc19, kc20, kc21, kc22, kc23, kc24, kc25, kc26, kc27, kc28, kc29, kc30, kc31, kc32, kc33, kc34, kc35, kc36, kc37, kc38, kc39, kn3, kn4, kn18, kn21, kn23, kn24, kn25, kn26, kn27, kn29, kn30, kr0_0, kr0_1, kr0_2, kr0_3, kr0_4, kr0_5, kr0_7, kr0_8, kr0_9, kr0_10, kr1_0, kr2_0, kr5_0, kr5_1, kr6_0, kr6_1, kr7_0, kr7_1, kr8_0, kr9_0, kr10_0, kr11_0, kr12_0, kr13_0, kr14_0, kr15_0, kr16_0, kr17_0, kr19_0, kr19_1, kr22_0, kr22_1, kr22_2, kr22_3, kr22_4, kr22_5, kr22_7, kr22_8, kr25_0, kr25_1, kr25_2, kr26_0, kr26_1, kr26_2, kr29_0, kr29_1, kz, ki5_2, ki6_2, ki7_2, ki8_1, ki8_2, ki8_3, ki9_1, ki9_2, ki9_3, ki10_1, ki10_2, ki10_3, ki11_1, ki11_2, ki11_3, ki12_1, ki12_2, ki12_3, ki13_1, ki13_2, ki13_3, ki14_1, ki14_2, ki14_3, ki28_0, ki28_1, ki31_0, ki31_1, ki32_0, ki32_1, ki33_0, ki33_1, ki34_0, ki34_1, ki35_0, ki35_1, ki36_0, ki36_1, bq0, bqq, vq3, hT, g1, g2, g3, g4, g5, g6, g7, hark, Int32.reduceLT, cl0, cl1, cl2, s1, s2, bs2, hs, d01, d02, d03, d10, d12, d13, d20, d21, d23, d30, d31, d32, vs0, vs1, vs2, vs3, i64_inj, i64_back, fo0, fo1, fo2, fo3, nm_eq, c_cW, n_cW, r_cW, z_cW, t_cW, a_cW, l_cW, i_cW_q2, i_cW_w1, i_cW_w2, i_cW_w3, i_cW_r1, i_cW_r2, i_cW_r3, c_mW, n_mW, r_mW, z_mW, t_mW, a_mW, l_mW, i_mW_w0, i_mW_w1, i_mW_w2, i_mW_r0, i_mW_r1, i_mW_r2, icw0 hA (j := 0) (by decide), imw0 hA (j := 0) (by decide), icw0 hA (j := 14) (by decide), imw0 hA (j := 14) (by decide), icw0 hA (j := 15) (by decide), imw0 hA (j := 15) (by decide), icw0 hA (j := 16) (by decide), imw0 hA (j := 16) (by decide), icw0 hA (j := 18) (by decide), imw0 hA (j := 18) (by decide), icw0 hA (j := 22) (by decide), imw0 hA (j := 22) (by decide), icw0 hA (j := 24) (by decide), imw0 hA (j := 24) (by decide), icw0 hA (j := 28) (by decide), imw0 hA (j := 28) (by decide), icw0 hA (j := 30) (by decide), imw0 hA (j := 30) (by decide), icw0 hA (j := 27) (by decide), icw0 hA (j := 31) (by decide), icw0 hA (j := 32) (by decide), imw0 hA (j := 32) (by decide), icw0 hA (j := 33) (by decide), imw0 hA (j := 33) (by decide), icw0 hA (j := 34) (by decide), icw0 hA (j := 35) (by decide), imw0 hA (j := 35) (by decide), icw0 hA (j := 36) (by decide), imw0 hA (j := 36) (by decide), icw0 hA (j := 37) (by decide), imw0 hA (j := 37) (by decide), icw0 hA (j := 38) (by decide), imw0 hA (j := 38) (by decide), cT0_pi hA (j := 18) (by decide), mT0_pi hA (j := 18) (by decide), cT0_pi hA (j := 22) (by decide), mT0_pi hA (j := 22) (by decide), cT0_pi hA (j := 30) (by decide), mT0_pi hA (j := 30) (by decide), cT0_pi hA (j := 24) (by decide), mT0_pi hA (j := 24) (by decide), cT0_pl, mT0_pl, cT0_pT, mT0_pT, cT0_cW hA, mT0_cW hA, mT0_mW hA, cT0_mW hA, e0, i1, i2, hj, hj2, n1]
          first | refine ⟨⟨?_, ?_, ?_, ?_, ?_, ?_, ?_, ?_, ?_, ?_, ?_, ?_⟩, rfl⟩ | refine ⟨?_, ?_, ?_, ?_, ?_, ?_, ?_, ?_, ?_, ?_, ?_, ?_⟩
          · (try simp only [K_pi, K_pl, K_pC, K_cW, K_mW])
            exact vk
          · (try simp only [Cn_pi hA (j := 18) (by decide), Cn_pi hA (j := 22) (by decide), Cn_pi hA (j := 30) (by decide), Cn_pl, Cn_pT, Cn_pr, Cn_cW0 hA, Cn_mW0 hA])
            exact vcn
          · simp only [Vq0_pi hA (j := 18) (by decide), Vq0_pi hA (j := 22) (by decide), Vq0_pi hA (j := 30) (by decide), Vq0_pi hA (j := 24) (by decide), Vq0_pl, Vq0_pT, Vq0_pr, Vq0_mW hA, cT0_pi hA (j := 18) (by decide), mT0_pi hA (j := 18) (by decide), cT0_pi hA (j := 22) (by decide), mT0_pi hA (j := 22) (by decide), cT0_pi hA (j := 30) (by decide), mT0_pi hA (j := 30) (by decide), cT0_pi hA (j := 24) (by decide), mT0_pi hA (j := 24) (by decide), cT0_pl, mT0_pl, cT0_pT, mT0_pT, cT0_cW hA, mT0_cW hA, mT0_mW hA, cT0_mW hA]
            exact ⟨trivial, hq9⟩
          · (try simp only [Vq1_pi hA (j := 18) (by decide), Vq1_pi hA (j := 22) (by decide), Vq1_pi hA (j := 30) (by decide), Vq1_pl, Vq1_pT, Vq1_pr, Vq1_cW0 hA, Vq1_mW0 hA])
            exact v1
          · (try simp only [Vq2_pi hA (j := 18) (by decide), Vq2_pi hA (j := 22) (by decide), Vq2_pi hA (j := 30) (by decide), Vq2_pl, Vq2_pT, Vq2_pr, Vq2_cW0 hA, Vq2_mW0 hA])
            exact v2
          · (try simp only [Vp_pi hA (j := 18) (by decide), Vp_pi hA (j := 30) (by decide), Vp_thr hA, Vp_pl, Vp_pT, Vp_pr, Vp_cW0 hA, Vp_mW0 hA])
            exact vp
          · (try simp only [Vl0_pi hA (j := 18) (by decide), Vl0_pi hA (j := 22) (by decide), Vl0_pi hA (j := 30) (by decide), Vl0_pl, Vl0_pT, Vl0_pr, Vl0_cW0 hA, Vl0_mW0 hA])
            exact vl0
          · (try simp only [Vl1_pi hA (j := 18) (by decide), Vl1_pi hA (j := 22) (by decide), Vl1_pi hA (j := 30) (by decide), Vl1_pl, Vl1_pT, Vl1_pr, Vl1_cW0 hA, Vl1_mW0 hA])
            exact vl1
          · refine Vlr_1 (i0 := (1 + g_i h (A 8) 4).toNatClampNeg) (x0 := nmM (g_i h (A 24) (11 + 4 * s + 0).toNatClampNeg) (g_i h (A 24) (11 + 4 * s + 1).toNatClampNeg) (g_i h (A 24) (11 + 4 * s + 2).toNatClampNeg) (g_i h (A 24) (11 + 4 * s + 3).toNatClampNeg)) vlr (fun k => ?_) (fun k => ?_) <;> simp only [l_cW, l_mW, mi_pi, mi_pl, ml_pi, ml_pl, mi_pT, ml_pT, mi_pr, ml_pr, hAe, Nat.reduceLT, Nat.reduceEqDiff, false_and, and_false, true_and, and_true, if_false, if_true, eq_self]
          · (try simp only [Vsr_pi hA (j := 18) (by decide), Vsr_pi hA (j := 22) (by decide), Vsr_pi hA (j := 30) (by decide), Vsr_pl hA (j := 39) (by decide), Vsr_pl hA (j := 3) (by decide), Vsr_pl hA (j := 23) (by decide), Vsr_pT, Vsr_pr, Vsr_cW0 hA, Vsr_mW0 hA])
            exact vsr
          · refine Vc_of (c := 0) vc (by decide) (fun k => ?_) (fun k => ?_) <;> simp only [l_cW, l_mW, mi_pi, mi_pl, ml_pi, ml_pl, mi_pT, ml_pT, mi_pr, ml_pr, hAe, Nat.reduceLT, Nat.reduceEqDiff, false_and, and_false, true_and, and_true, if_false, if_true, eq_self, icw0 hA (j := 0) (by decide), imw0 hA (j := 0) (by decide), icw0 hA (j := 14) (by decide), imw0 hA (j := 14) (by decide), icw0 hA (j := 15) (by decide), imw0 hA (j := 15) (by decide), icw0 hA (j := 16) (by decide), imw0 hA (j := 16) (by decide), icw0 hA (j := 18) (by decide), imw0 hA (j := 18) (by decide), icw0 hA (j := 22) (by decide), imw0 hA (j := 22) (by decide), icw0 hA (j := 24) (by decide), imw0 hA (j := 24) (by decide), icw0 hA (j := 28) (by decide), imw0 hA (j := 28) (by decide), icw0 hA (j := 30) (by decide), imw0 hA (j := 30) (by decide), icw0 hA (j := 27) (by decide), icw0 hA (j := 31) (by decide), icw0 hA (j := 32) (by decide), imw0 hA (j := 32) (by decide), icw0 hA (j := 33) (by decide), imw0 hA (j := 33) (by decide), icw0 hA (j := 34) (by decide), icw0 hA (j := 35) (by decide), imw0 hA (j := 35) (by decide), icw0 hA (j := 36) (by decide), imw0 hA (j := 36) (by decide), icw0 hA (j := 37) (by decide), imw0 hA (j := 37) (by decide), icw0 hA (j := 38) (by decide), imw0 hA (j := 38) (by decide)]
          · (try simp only [Tx_pi hA (j := 18) (by decide), Tx_pi hA (j := 22) (by decide), Tx_pi hA (j := 30) (by decide), Tx_pl, Tx_cW0 hA, Tx_mW0 hA])
            exact tx
      · have he := v1.1
        have hm := v1.2
        have hT : mT h (A 27) 1 (A 32) (A 35) = cT h (A 6) (A 10) (A 11) := he.symm
        have he2 := he
        simp only [cT, mT, Prod.mk.injEq] at he2
        obtain ⟨g1, g2, g3, g4, g5, g6, g7⟩ := he2
        replace g1 := g1.symm
        replace g2 := g2.symm
        replace g3 := g3.symm
        replace g4 := g4.symm
        replace g5 := g5.symm
        replace g6 := g6.symm
        replace g7 := g7.symm
        obtain ⟨hmk, har, hl0, hl9⟩ := qA_1 _ hm
        have hark : arok 1 (g_i h (A 6) 3) := fun z => absurd (by decide) z
        have n1 : ¬ A 10 = A 11 := fun z => absurd ((hAe 10 11 (by decide) (by decide)).mp z) (by decide)
        by_cases e0 : g_i h (A 10) 5 - g_i h (A 10) 4 = 0
        · skip
          simp only [o296_0, o296_1, o296_2, o296_3, o296_4, o296_7, o296_8, o296_11, o296_14, o296_16, o296_17, o296_18, o296_19, o64_0, o64_1, o64_2, o64_5, o64_6, o64_7, o64_10, o64_11, o64_14, o64_17, o64_18, o64_21, o64_22, o64_25, o64_26, o64_27, o64_28, o64_29, o64_32, o64_35, o64_36, o64_39, o64_40, o64_43, o64_46, o188_0, o188_1, o188_2, o188_5, o188_8, o188_9, o188_12, o188_15, o188_16, o188_19, o188_20, o188_23, o188_26, o188_27, o188_28, o188_29, o188_32, o188_33, o188_34, o188_37, o188_40, o188_41, o188_42, o188_45, o188_46, o188_47, o188_48, o188_49, o188_50, o188_53, o188_56, o188_57, o188_58, o188_59, o188_62, o188_65, hx_296_1, c_X5_checkSlot, c_X8_isSlot, c_X8_isThrown, c_X8_isThrown_, c_X8_isThrown__, c_X8_isQueue, c_queueOf_bad, c_queueOf_1, c_X1_hasNoRest (w := A 10) (r := A 11), c_ref_1 (cs := A 18), c_X7_rests, c_X8_no (cs := A 30), mc_pi, mc_pl, mc_pr, mc_pN, mc_pT, mc_pC, mn_pi, mn_pl, mn_pr, mn_pN, mn_pT, mn_pC, mi_pi, mi_pl, mi_pr, mi_pN, mi_pT, mi_pC, ml_pi, ml_pl, ml_pr, ml_pN, ml_pT, ml_pC, mr_pi, mr_pl, mr_pr, mr_pN, mr_pT, mr_pC, mt_pi, mt_pl, mt_pr, mt_pN, mt_pT, mt_pC, mz_pi, mz_pl, mz_pr, mz_pN, mz_pT, mz_pC, ma_pi, ma_pl, ma_pr, ma_pN, ma_pT, ma_pC, mcs_0, mcs_i, mcs_l, mcs_r, mcs_n, csum_rf, Kn_v, Kn_0, Kn_x, mrf_some, kok_0, true_and, and_true, false_and, and_false, true_or, or_true, or_false, false_or, not_true_eq_false, not_false_eq_true, true_implies, false_implies, implies_true, forall_const, if_true, if_false, and_self, Nat.reduceEqDiff, Nat.reduceLeDiff, Nat.reduceSub, Nat.reduceAdd, Nat.zero_le, Nat.le_refl, i10, i01, kz0, kz1, eq_self, lt_le, Classical.not_not, Int32.reduceLT, Int32.reduceAdd, Int32.reduceSub, Int32.reduceMul, cl0, cl1, cl2, cl3, cl4, cl5, cl6, cl7, cl8, cl9, cl10, cl11, cl12, cl13, cl14, cl15, cl16, cl17, cl18, cl19, cl20, cl21, cl22, cl23, cl24, cl25, cl26, cl27, cl28, cl29, cl30, cl31, cl32, cl33, cl34, cl35, cl36, cl37, cl38, cl39, lg_cmp_eq, Kc_v, Kc_0, Sum.inl.injEq, Option.some.injEq, Value.int.injEq, exists_eq_left', Nat.reduceLT, hAe, i20, i30, kc0, kc1, kc2, kc3, kc4, kc5, kc6, kc7, kc8, kc9, kc10, kc11, kc12, kc13, kc14, kc15, kc16, kc17, kc18, kc19, kc20, kc21, kc22, kc23, kc24, kc25, kc26, kc27, kc28, kc29, kc30, kc31, kc32, kc33, kc34, kc35, kc36, kc37, kc38, kc39, kn3, kn4, kn18, kn21, kn23, kn24, kn25, kn26, kn27, kn29, kn30, kr0_0, kr0_1, kr0_2, kr0_3, kr0_4, kr0_5, kr0_7, kr0_8, kr0_9, kr0_10, kr1_0, kr2_0, kr5_0, kr5_1, kr6_0, kr6_1, kr7_0, kr7_1, kr8_0, kr9_0, kr10_0, kr11_0, kr12_0, kr13_0, kr14_0, kr15_0, kr16_0, kr17_0, kr19_0, kr19_1, kr22_0, kr22_1, kr22_2, kr22_3, kr22_4, kr22_5, kr22_7, kr22_8, kr25_0, kr25_1, kr25_2, kr26_0, kr26_1, kr26_2, kr29_0, kr29_1, kz, ki5_2, ki6_2, ki7_2, ki8_1, ki8_2, ki8_3, ki9_1, ki9_2, ki9_3, ki10_1, ki10_2, ki10_3, ki11_1, ki11_2, ki11_3, ki12_1, ki12_2, ki12_3, ki13_1, ki13_2, ki13_3, ki14_1, ki14_2, ki14_3, ki28_0, ki28_1, ki31_0, ki31_1, ki32_0, ki32_1, ki33_0, ki33_1, ki34_0, ki34_1, ki35_0, ki35_1, ki36_0, ki36_1, bq0, bqq, vq3, hT, g1, g2, g3, g4, g5, g6, g7, hark, Int32.reduceLT, cl0, cl1, cl2, s1, s2, bs2, hs, d01, d02, d03, d10, d12, d13, d20, d21, d23, d30, d31, d32, vs0, vs1, vs2, vs3, i64_inj, i64_back, fo0, fo1, fo2, fo3, nm_eq, e0, v18]
          first | refine ⟨⟨?_, ?_, ?_, ?_, ?_, ?_, ?_, ?_, ?_, ?_, ?_, ?_⟩, rfl⟩ | refine ⟨?_, ?_, ?_, ?_, ?_, ?_, ?_, ?_, ?_, ?_, ?_, ?_⟩
          · (try simp only [K_pi, K_pl, K_pC, K_cW, K_mW])
            exact vk
          · (try simp only [Cn_pi hA (j := 18) (by decide), Cn_pi hA (j := 22) (by decide), Cn_pi hA (j := 30) (by decide), Cn_pl, Cn_pT, Cn_pr])
            exact vcn
          · (try simp only [Vq0_pi hA (j := 18) (by decide), Vq0_pi hA (j := 22) (by decide), Vq0_pi hA (j := 30) (by decide), Vq0_pl, Vq0_pT, Vq0_pr])
            exact v0
          · (try simp only [Vq1_pi hA (j := 18) (by decide), Vq1_pi hA (j := 22) (by decide), Vq1_pi hA (j := 30) (by decide), Vq1_pl, Vq1_pT, Vq1_pr])
            exact v1
          · (try simp only [Vq2_pi hA (j := 18) (by decide), Vq2_pi hA (j := 22) (by decide), Vq2_pi hA (j := 30) (by decide), Vq2_pl, Vq2_pT, Vq2_pr])
            exact v2
          · (try simp only [Vp_pi hA (j := 18) (by decide), Vp_pi hA (j := 30) (by decide), Vp_thr hA, Vp_pl, Vp_pT, Vp_pr])
            exact vp
          · (try simp only [Vl0_pi hA (j := 18) (by decide), Vl0_pi hA (j := 22) (by decide), Vl0_pi hA (j := 30) (by decide), Vl0_pl, Vl0_pT, Vl0_pr])
            exact vl0
          · (try simp only [Vl1_pi hA (j := 18) (by decide), Vl1_pi hA (j := 22) (by decide), Vl1_pi hA (j := 30) (by decide), Vl1_pl, Vl1_pT, Vl1_pr])
            exact vl1
          · (try simp only [Vlr_pi hA (j := 18) (by decide), Vlr_pi hA (j := 22) (by decide), Vlr_pi hA (j := 30) (by decide), Vlr_pl hA (j := 39) (by decide), Vlr_pT, Vlr_pr])
            exact vlr
          · (try simp only [Vsr_pi hA (j := 18) (by decide), Vsr_pi hA (j := 22) (by decide), Vsr_pi hA (j := 30) (by decide), Vsr_pl hA (j := 39) (by decide), Vsr_pT, Vsr_pr])
            exact vsr
          · refine Vc_of (c := 1) vc (by decide) (fun k => ?_) (fun k => ?_) <;> simp only [l_cW, l_mW, mi_pi, mi_pl, ml_pi, ml_pl, mi_pT, ml_pT, mi_pr, ml_pr, hAe, Nat.reduceLT, Nat.reduceEqDiff, false_and, and_false, true_and, and_true, if_false, if_true, eq_self]
          · (try simp only [Tx_pi hA (j := 18) (by decide), Tx_pi hA (j := 22) (by decide), Tx_pi hA (j := 30) (by decide), Tx_pl])
            exact tx
        · obtain ⟨i1, i2, hj, hq9⟩ := (qI_1 _ hm).resolve_left e0
          simp only [cT] at i1 i2 hj
          have hj2 := hj.2.2
          simp only [o296_0, o296_1, o296_2, o296_3, o296_4, o296_7, o296_8, o296_11, o296_14, o296_16, o296_17, o296_18, o296_19, o64_0, o64_1, o64_2, o64_5, o64_6, o64_7, o64_10, o64_11, o64_14, o64_17, o64_18, o64_21, o64_22, o64_25, o64_26, o64_27, o64_28, o64_29, o64_32, o64_35, o64_36, o64_39, o64_40, o64_43, o64_46, o188_0, o188_1, o188_2, o188_5, o188_8, o188_9, o188_12, o188_15, o188_16, o188_19, o188_20, o188_23, o188_26, o188_27, o188_28, o188_29, o188_32, o188_33, o188_34, o188_37, o188_40, o188_41, o188_42, o188_45, o188_46, o188_47, o188_48, o188_49, o188_50, o188_53, o188_56, o188_57, o188_58, o188_59, o188_62, o188_65, hx_296_1, c_X5_checkSlot, c_X8_isSlot, c_X8_isThrown, c_X8_isThrown_, c_X8_isThrown__, c_X8_isQueue, c_queueOf_bad, c_queueOf_1, c_X1_hasNoRest (w := A 10) (r := A 11), c_X7_rests, c_X1_comeIn (w := A 10) (r := A 11) (rw := A 1) (cs := A 3) (n := 16) (sz := 3) (ring := 1), c_X1_lying (w := A 10) (r := A 11), c_X8_comeIn (x2 := A 25) (x3 := A 26) (a := A 27) (w := A 32) (r := A 35) (lr := A 23) (sz := 3), c_X8_liesOf (x2 := A 25) (x3 := A 26) (a := A 27) (w := A 32) (r := A 35), c_X5_numberIn (rw := A 2) (cs := A 4), c_X8_numberOf (sr := A 24), c_X0_done (cs := A 18), c_X8_done (cs := A 30), mc_pi, mc_pl, mc_pr, mc_pN, mc_pT, mc_pC, mn_pi, mn_pl, mn_pr, mn_pN, mn_pT, mn_pC, mi_pi, mi_pl, mi_pr, mi_pN, mi_pT, mi_pC, ml_pi, ml_pl, ml_pr, ml_pN, ml_pT, ml_pC, mr_pi, mr_pl, mr_pr, mr_pN, mr_pT, mr_pC, mt_pi, mt_pl, mt_pr, mt_pN, mt_pT, mt_pC, mz_pi, mz_pl, mz_pr, mz_pN, mz_pT, mz_pC, ma_pi, ma_pl, ma_pr, ma_pN, ma_pT, ma_pC, mcs_0, mcs_i, mcs_l, mcs_r, mcs_n, csum_rf, Kn_v, Kn_0, Kn_x, mrf_some, kok_0, true_and, and_true, false_and, and_false, true_or, or_true, or_false, false_or, not_true_eq_false, not_false_eq_true, true_implies, false_implies, implies_true, forall_const, if_true, if_false, and_self, Nat.reduceEqDiff, Nat.reduceLeDiff, Nat.reduceSub, Nat.reduceAdd, Nat.zero_le, Nat.le_refl, i10, i01, kz0, kz1, eq_self, lt_le, Classical.not_not, Int32.reduceLT, Int32.reduceAdd, Int32.reduceSub, Int32.reduceMul, cl0, cl1, cl2, cl3, cl4, cl5, cl6, cl7, cl8, cl9, cl10, cl11, cl12, cl13, cl14, cl15, cl16, cl17, cl18, cl19, cl20, cl21, cl22, cl23, cl24, cl25, cl26, cl27, cl28, cl29, cl30, cl31, cl32, cl33, cl34, cl35, cl36, cl37, cl38, cl39, lg_cmp_eq, Kc_v, Kc_0, Sum.inl.injEq, Option.some.injEq, Value.int.injEq, exists_eq_left', Nat.reduceLT, hAe, i20, i30, kc0, kc1, kc2, kc3, kc4, kc5, kc6, kc7, kc8, kc9, kc10, kc11, kc12, kc13, kc14, kc15, kc16, kc17, kc18, kc19, kc20, kc21, kc22, kc23, kc24, kc25, kc26, kc27, kc28, kc29, kc30, kc31, kc32, kc33, kc34, kc35, kc36, kc37, kc38, kc39, kn3, kn4, kn18, kn21, kn23, kn24, kn25, kn26, kn27, kn29, kn30, kr0_0, kr0_1, kr0_2, kr0_3, kr0_4, kr0_5, kr0_7, kr0_8, kr0_9, kr0_10, kr1_0, kr2_0, kr5_0, kr5_1, kr6_0, kr6_1, kr7_0, kr7_1, kr8_0, kr9_0, kr10_0, kr11_0, kr12_0, kr13_0, kr14_0, kr15_0, kr16_0, kr17_0, kr19_0, kr19_1, kr22_0, kr22_1, kr22_2, kr22_3, kr22_4, kr22_5, kr22_7, kr22_8, kr25_0, kr25_1, kr25_2, kr26_0, kr26_1, kr26_2, kr29_0, kr29_1, kz, ki5_2, ki6_2, ki7_2, ki8_1, ki8_2, ki8_3, ki9_1, ki9_2, ki9_3, ki10_1, ki10_2, ki10_3, ki11_1, ki11_2, ki11_3, ki12_1, ki12_2, ki12_3, ki13_1, ki13_2, ki13_3, ki14_1, ki14_2, ki14_3, ki28_0, ki28_1, ki31_0, ki31_1, ki32_0, ki32_1, ki33_0, ki33_1, ki34_0, ki34_1, ki35_0, ki35_1, ki36_0, ki36_1, bq0, bqq, vq3, hT, g1, g2, g3, g4, g5, g6, g7, hark, Int32.reduceLT, cl0, cl1, cl2, s1, s2, bs2, hs, d01, d02, d03, d10, d12, d13, d20, d21, d23, d30, d31, d32, vs0, vs1, vs2, vs3, i64_inj, i64_back, fo0, fo1, fo2, fo3, nm_eq, c_cW, n_cW, r_cW, z_cW, t_cW, a_cW, l_cW, i_cW_q2, i_cW_w1, i_cW_w2, i_cW_w3, i_cW_r1, i_cW_r2, i_cW_r3, c_mW, n_mW, r_mW, z_mW, t_mW, a_mW, l_mW, i_mW_w0, i_mW_w1, i_mW_w2, i_mW_r0, i_mW_r1, i_mW_r2, icw1 hA (j := 0) (by decide), imw1 hA (j := 0) (by decide), icw1 hA (j := 14) (by decide), imw1 hA (j := 14) (by decide), icw1 hA (j := 15) (by decide), imw1 hA (j := 15) (by decide), icw1 hA (j := 16) (by decide), imw1 hA (j := 16) (by decide), icw1 hA (j := 18) (by decide), imw1 hA (j := 18) (by decide), icw1 hA (j := 22) (by decide), imw1 hA (j := 22) (by decide), icw1 hA (j := 24) (by decide), imw1 hA (j := 24) (by decide), icw1 hA (j := 28) (by decide), imw1 hA (j := 28) (by decide), icw1 hA (j := 30) (by decide), imw1 hA (j := 30) (by decide), icw1 hA (j := 27) (by decide), icw1 hA (j := 31) (by decide), imw1 hA (j := 31) (by decide), icw1 hA (j := 32) (by decide), icw1 hA (j := 33) (by decide), imw1 hA (j := 33) (by decide), icw1 hA (j := 34) (by decide), imw1 hA (j := 34) (by decide), icw1 hA (j := 35) (by decide), icw1 hA (j := 36) (by decide), imw1 hA (j := 36) (by decide), icw1 hA (j := 37) (by decide), imw1 hA (j := 37) (by decide), icw1 hA (j := 38) (by decide), imw1 hA (j := 38) (by decide), cT1_pi hA (j := 18) (by decide), mT1_pi hA (j := 18) (by decide), cT1_pi hA (j := 22) (by decide), mT1_pi hA (j := 22) (by decide), cT1_pi hA (j := 30) (by decide), mT1_pi hA (j := 30) (by decide), cT1_pi hA (j := 24) (by decide), mT1_pi hA (j := 24) (by decide), cT1_pl, mT1_pl, cT1_pT, mT1_pT, cT1_cW hA, mT1_cW hA, mT1_mW hA, cT1_mW hA, e0, i1, i2, hj, hj2, n1]
          first | refine ⟨⟨?_, ?_, ?_, ?_, ?_, ?_, ?_, ?_, ?_, ?_, ?_, ?_⟩, rfl⟩ | refine ⟨?_, ?_, ?_, ?_, ?_, ?_, ?_, ?_, ?_, ?_, ?_, ?_⟩
          · (try simp only [K_pi, K_pl, K_pC, K_cW, K_mW])
            exact vk
          · (try simp only [Cn_pi hA (j := 18) (by decide), Cn_pi hA (j := 22) (by decide), Cn_pi hA (j := 30) (by decide), Cn_pl, Cn_pT, Cn_pr, Cn_cW1 hA, Cn_mW1 hA])
            exact vcn
          · (try simp only [Vq0_pi hA (j := 18) (by decide), Vq0_pi hA (j := 22) (by decide), Vq0_pi hA (j := 30) (by decide), Vq0_pl, Vq0_pT, Vq0_pr, Vq0_cW1 hA, Vq0_mW1 hA])
            exact v0
          · simp only [Vq1_pi hA (j := 18) (by decide), Vq1_pi hA (j := 22) (by decide), Vq1_pi hA (j := 30) (by decide), Vq1_pi hA (j := 24) (by decide), Vq1_pl, Vq1_pT, Vq1_pr, Vq1_mW hA, cT1_pi hA (j := 18) (by decide), mT1_pi hA (j := 18) (by decide), cT1_pi hA (j := 22) (by decide), mT1_pi hA (j := 22) (by decide), cT1_pi hA (j := 30) (by decide), mT1_pi hA (j := 30) (by decide), cT1_pi hA (j := 24) (by decide), mT1_pi hA (j := 24) (by decide), cT1_pl, mT1_pl, cT1_pT, mT1_pT, cT1_cW hA, mT1_cW hA, mT1_mW hA, cT1_mW hA]
            exact ⟨trivial, hq9⟩
          · (try simp only [Vq2_pi hA (j := 18) (by decide), Vq2_pi hA (j := 22) (by decide), Vq2_pi hA (j := 30) (by decide), Vq2_pl, Vq2_pT, Vq2_pr, Vq2_cW1 hA, Vq2_mW1 hA])
            exact v2
          · (try simp only [Vp_pi hA (j := 18) (by decide), Vp_pi hA (j := 30) (by decide), Vp_thr hA, Vp_pl, Vp_pT, Vp_pr, Vp_cW1 hA, Vp_mW1 hA])
            exact vp
          · (try simp only [Vl0_pi hA (j := 18) (by decide), Vl0_pi hA (j := 22) (by decide), Vl0_pi hA (j := 30) (by decide), Vl0_pl, Vl0_pT, Vl0_pr, Vl0_cW1 hA, Vl0_mW1 hA])
            exact vl0
          · (try simp only [Vl1_pi hA (j := 18) (by decide), Vl1_pi hA (j := 22) (by decide), Vl1_pi hA (j := 30) (by decide), Vl1_pl, Vl1_pT, Vl1_pr, Vl1_cW1 hA, Vl1_mW1 hA])
            exact vl1
          · refine Vlr_1 (i0 := (6 + g_i h (A 10) 4).toNatClampNeg) (x0 := nmM (g_i h (A 24) (11 + 4 * s + 0).toNatClampNeg) (g_i h (A 24) (11 + 4 * s + 1).toNatClampNeg) (g_i h (A 24) (11 + 4 * s + 2).toNatClampNeg) (g_i h (A 24) (11 + 4 * s + 3).toNatClampNeg)) vlr (fun k => ?_) (fun k => ?_) <;> simp only [l_cW, l_mW, mi_pi, mi_pl, ml_pi, ml_pl, mi_pT, ml_pT, mi_pr, ml_pr, hAe, Nat.reduceLT, Nat.reduceEqDiff, false_and, and_false, true_and, and_true, if_false, if_true, eq_self]
          · (try simp only [Vsr_pi hA (j := 18) (by decide), Vsr_pi hA (j := 22) (by decide), Vsr_pi hA (j := 30) (by decide), Vsr_pl hA (j := 39) (by decide), Vsr_pl hA (j := 3) (by decide), Vsr_pl hA (j := 23) (by decide), Vsr_pT, Vsr_pr, Vsr_cW1 hA, Vsr_mW1 hA])
            exact vsr
          · refine Vc_of (c := 0) vc (by decide) (fun k => ?_) (fun k => ?_) <;> simp only [l_cW, l_mW, mi_pi, mi_pl, ml_pi, ml_pl, mi_pT, ml_pT, mi_pr, ml_pr, hAe, Nat.reduceLT, Nat.reduceEqDiff, false_and, and_false, true_and, and_true, if_false, if_true, eq_self, icw1 hA (j := 0) (by decide), imw1 hA (j := 0) (by decide), icw1 hA (j := 14) (by decide), imw1 hA (j := 14) (by decide), icw1 hA (j := 15) (by decide), imw1 hA (j := 15) (by decide), icw1 hA (j := 16) (by decide), imw1 hA (j := 16) (by decide), icw1 hA (j := 18) (by decide), imw1 hA (j := 18) (by decide), icw1 hA (j := 22) (by decide), imw1 hA (j := 22) (by decide), icw1 hA (j := 24) (by decide), imw1 hA (j := 24) (by decide), icw1 hA (j := 28) (by decide), imw1 hA (j := 28) (by decide), icw1 hA (j := 30) (by decide), imw1 hA (j := 30) (by decide), icw1 hA (j := 27) (by decide), icw1 hA (j := 31) (by decide), imw1 hA (j := 31) (by decide), icw1 hA (j := 32) (by decide), icw1 hA (j := 33) (by decide), imw1 hA (j := 33) (by decide), icw1 hA (j := 34) (by decide), imw1 hA (j := 34) (by decide), icw1 hA (j := 35) (by decide), icw1 hA (j := 36) (by decide), imw1 hA (j := 36) (by decide), icw1 hA (j := 37) (by decide), imw1 hA (j := 37) (by decide), icw1 hA (j := 38) (by decide), imw1 hA (j := 38) (by decide)]
          · (try simp only [Tx_pi hA (j := 18) (by decide), Tx_pi hA (j := 22) (by decide), Tx_pi hA (j := 30) (by decide), Tx_pl, Tx_cW1 hA, Tx_mW1 hA])
            exact tx
      · have he := v2.1
        have hm := v2.2
        have hT : mT h (A 27) 2 (A 33) (A 36) = cT h (A 7) (A 12) (A 13) := he.symm
        have he2 := he
        simp only [cT, mT, Prod.mk.injEq] at he2
        obtain ⟨g1, g2, g3, g4, g5, g6, g7⟩ := he2
        replace g1 := g1.symm
        replace g2 := g2.symm
        replace g3 := g3.symm
        replace g4 := g4.symm
        replace g5 := g5.symm
        replace g6 := g6.symm
        replace g7 := g7.symm
        obtain ⟨hmk, har, hl0, hl9⟩ := qA_2 _ hm
        have hark : arok 2 (g_i h (A 7) 3) := fun _ => har
        have n1 : ¬ A 12 = A 13 := fun z => absurd ((hAe 12 13 (by decide) (by decide)).mp z) (by decide)
        by_cases e0 : g_i h (A 12) 5 - g_i h (A 12) 4 = 0
        · skip
          simp only [o296_0, o296_1, o296_2, o296_3, o296_4, o296_7, o296_8, o296_11, o296_14, o296_16, o296_17, o296_18, o296_19, o64_0, o64_1, o64_2, o64_5, o64_6, o64_7, o64_10, o64_11, o64_14, o64_17, o64_18, o64_21, o64_22, o64_25, o64_26, o64_27, o64_28, o64_29, o64_32, o64_35, o64_36, o64_39, o64_40, o64_43, o64_46, o188_0, o188_1, o188_2, o188_5, o188_8, o188_9, o188_12, o188_15, o188_16, o188_19, o188_20, o188_23, o188_26, o188_27, o188_28, o188_29, o188_32, o188_33, o188_34, o188_37, o188_40, o188_41, o188_42, o188_45, o188_46, o188_47, o188_48, o188_49, o188_50, o188_53, o188_56, o188_57, o188_58, o188_59, o188_62, o188_65, hx_296_1, c_X5_checkSlot, c_X8_isSlot, c_X8_isThrown, c_X8_isThrown_, c_X8_isThrown__, c_X8_isQueue, c_queueOf_bad, c_queueOf_2, c_X1_hasNoRest (w := A 12) (r := A 13), c_ref_1 (cs := A 18), c_X7_rests, c_X8_no (cs := A 30), mc_pi, mc_pl, mc_pr, mc_pN, mc_pT, mc_pC, mn_pi, mn_pl, mn_pr, mn_pN, mn_pT, mn_pC, mi_pi, mi_pl, mi_pr, mi_pN, mi_pT, mi_pC, ml_pi, ml_pl, ml_pr, ml_pN, ml_pT, ml_pC, mr_pi, mr_pl, mr_pr, mr_pN, mr_pT, mr_pC, mt_pi, mt_pl, mt_pr, mt_pN, mt_pT, mt_pC, mz_pi, mz_pl, mz_pr, mz_pN, mz_pT, mz_pC, ma_pi, ma_pl, ma_pr, ma_pN, ma_pT, ma_pC, mcs_0, mcs_i, mcs_l, mcs_r, mcs_n, csum_rf, Kn_v, Kn_0, Kn_x, mrf_some, kok_0, true_and, and_true, false_and, and_false, true_or, or_true, or_false, false_or, not_true_eq_false, not_false_eq_true, true_implies, false_implies, implies_true, forall_const, if_true, if_false, and_self, Nat.reduceEqDiff, Nat.reduceLeDiff, Nat.reduceSub, Nat.reduceAdd, Nat.zero_le, Nat.le_refl, i10, i01, kz0, kz1, eq_self, lt_le, Classical.not_not, Int32.reduceLT, Int32.reduceAdd, Int32.reduceSub, Int32.reduceMul, cl0, cl1, cl2, cl3, cl4, cl5, cl6, cl7, cl8, cl9, cl10, cl11, cl12, cl13, cl14, cl15, cl16, cl17, cl18, cl19, cl20, cl21, cl22, cl23, cl24, cl25, cl26, cl27, cl28, cl29, cl30, cl31, cl32, cl33, cl34, cl35, cl36, cl37, cl38, cl39, lg_cmp_eq, Kc_v, Kc_0, Sum.inl.injEq, Option.some.injEq, Value.int.injEq, exists_eq_left', Nat.reduceLT, hAe, i20, i30, kc0, kc1, kc2, kc3, kc4, kc5, kc6, kc7, kc8, kc9, kc10, kc11, kc12, kc13, kc14, kc15, kc16, kc17, kc18, kc19, kc20, kc21, kc22, kc23, kc24, kc25, kc26, kc27, kc28, kc29, kc30, kc31, kc32, kc33, kc34, kc35, kc36, kc37, kc38, kc39, kn3, kn4, kn18, kn21, kn23, kn24, kn25, kn26, kn27, kn29, kn30, kr0_0, kr0_1, kr0_2, kr0_3, kr0_4, kr0_5, kr0_7, kr0_8, kr0_9, kr0_10, kr1_0, kr2_0, kr5_0, kr5_1, kr6_0, kr6_1, kr7_0, kr7_1, kr8_0, kr9_0, kr10_0, kr11_0, kr12_0, kr13_0, kr14_0, kr15_0, kr16_0, kr17_0, kr19_0, kr19_1, kr22_0, kr22_1, kr22_2, kr22_3, kr22_4, kr22_5, kr22_7, kr22_8, kr25_0, kr25_1, kr25_2, kr26_0, kr26_1, kr26_2, kr29_0, kr29_1, kz, ki5_2, ki6_2, ki7_2, ki8_1, ki8_2, ki8_3, ki9_1, ki9_2, ki9_3, ki10_1, ki10_2, ki10_3, ki11_1, ki11_2, ki11_3, ki12_1, ki12_2, ki12_3, ki13_1, ki13_2, ki13_3, ki14_1, ki14_2, ki14_3, ki28_0, ki28_1, ki31_0, ki31_1, ki32_0, ki32_1, ki33_0, ki33_1, ki34_0, ki34_1, ki35_0, ki35_1, ki36_0, ki36_1, bq0, bqq, vq3, hT, g1, g2, g3, g4, g5, g6, g7, hark, Int32.reduceLT, cl0, cl1, cl2, s1, s2, bs2, hs, d01, d02, d03, d10, d12, d13, d20, d21, d23, d30, d31, d32, vs0, vs1, vs2, vs3, i64_inj, i64_back, fo0, fo1, fo2, fo3, nm_eq, e0, v18]
          first | refine ⟨⟨?_, ?_, ?_, ?_, ?_, ?_, ?_, ?_, ?_, ?_, ?_, ?_⟩, rfl⟩ | refine ⟨?_, ?_, ?_, ?_, ?_, ?_, ?_, ?_, ?_, ?_, ?_, ?_⟩
          · (try simp only [K_pi, K_pl, K_pC, K_cW, K_mW])
            exact vk
          · (try simp only [Cn_pi hA (j := 18) (by decide), Cn_pi hA (j := 22) (by decide), Cn_pi hA (j := 30) (by decide), Cn_pl, Cn_pT, Cn_pr])
            exact vcn
          · (try simp only [Vq0_pi hA (j := 18) (by decide), Vq0_pi hA (j := 22) (by decide), Vq0_pi hA (j := 30) (by decide), Vq0_pl, Vq0_pT, Vq0_pr])
            exact v0
          · (try simp only [Vq1_pi hA (j := 18) (by decide), Vq1_pi hA (j := 22) (by decide), Vq1_pi hA (j := 30) (by decide), Vq1_pl, Vq1_pT, Vq1_pr])
            exact v1
          · (try simp only [Vq2_pi hA (j := 18) (by decide), Vq2_pi hA (j := 22) (by decide), Vq2_pi hA (j := 30) (by decide), Vq2_pl, Vq2_pT, Vq2_pr])
            exact v2
          · (try simp only [Vp_pi hA (j := 18) (by decide), Vp_pi hA (j := 30) (by decide), Vp_thr hA, Vp_pl, Vp_pT, Vp_pr])
            exact vp
          · (try simp only [Vl0_pi hA (j := 18) (by decide), Vl0_pi hA (j := 22) (by decide), Vl0_pi hA (j := 30) (by decide), Vl0_pl, Vl0_pT, Vl0_pr])
            exact vl0
          · (try simp only [Vl1_pi hA (j := 18) (by decide), Vl1_pi hA (j := 22) (by decide), Vl1_pi hA (j := 30) (by decide), Vl1_pl, Vl1_pT, Vl1_pr])
            exact vl1
          · (try simp only [Vlr_pi hA (j := 18) (by decide), Vlr_pi hA (j := 22) (by decide), Vlr_pi hA (j := 30) (by decide), Vlr_pl hA (j := 39) (by decide), Vlr_pT, Vlr_pr])
            exact vlr
          · (try simp only [Vsr_pi hA (j := 18) (by decide), Vsr_pi hA (j := 22) (by decide), Vsr_pi hA (j := 30) (by decide), Vsr_pl hA (j := 39) (by decide), Vsr_pT, Vsr_pr])
            exact vsr
          · refine Vc_of (c := 1) vc (by decide) (fun k => ?_) (fun k => ?_) <;> simp only [l_cW, l_mW, mi_pi, mi_pl, ml_pi, ml_pl, mi_pT, ml_pT, mi_pr, ml_pr, hAe, Nat.reduceLT, Nat.reduceEqDiff, false_and, and_false, true_and, and_true, if_false, if_true, eq_self]
          · (try simp only [Tx_pi hA (j := 18) (by decide), Tx_pi hA (j := 22) (by decide), Tx_pi hA (j := 30) (by decide), Tx_pl])
            exact tx
        · obtain ⟨i1, i2, hj, hq9⟩ := (qI_2 _ hm).resolve_left e0
          simp only [cT] at i1 i2 hj
          have hj2 := hj.2.2
          simp only [o296_0, o296_1, o296_2, o296_3, o296_4, o296_7, o296_8, o296_11, o296_14, o296_16, o296_17, o296_18, o296_19, o64_0, o64_1, o64_2, o64_5, o64_6, o64_7, o64_10, o64_11, o64_14, o64_17, o64_18, o64_21, o64_22, o64_25, o64_26, o64_27, o64_28, o64_29, o64_32, o64_35, o64_36, o64_39, o64_40, o64_43, o64_46, o188_0, o188_1, o188_2, o188_5, o188_8, o188_9, o188_12, o188_15, o188_16, o188_19, o188_20, o188_23, o188_26, o188_27, o188_28, o188_29, o188_32, o188_33, o188_34, o188_37, o188_40, o188_41, o188_42, o188_45, o188_46, o188_47, o188_48, o188_49, o188_50, o188_53, o188_56, o188_57, o188_58, o188_59, o188_62, o188_65, hx_296_1, c_X5_checkSlot, c_X8_isSlot, c_X8_isThrown, c_X8_isThrown_, c_X8_isThrown__, c_X8_isQueue, c_queueOf_bad, c_queueOf_2, c_X1_hasNoRest (w := A 12) (r := A 13), c_X7_rests, c_X1_comeIn (w := A 12) (r := A 13) (rw := A 1) (cs := A 3) (n := 16) (sz := 6) (ring := 0), c_X1_lying (w := A 12) (r := A 13), c_X8_comeIn (x2 := A 25) (x3 := A 26) (a := A 27) (w := A 33) (r := A 36) (lr := A 23) (sz := 6), c_X8_liesOf (x2 := A 25) (x3 := A 26) (a := A 27) (w := A 33) (r := A 36), c_X5_numberIn (rw := A 2) (cs := A 4), c_X8_numberOf (sr := A 24), c_X0_done (cs := A 18), c_X8_done (cs := A 30), mc_pi, mc_pl, mc_pr, mc_pN, mc_pT, mc_pC, mn_pi, mn_pl, mn_pr, mn_pN, mn_pT, mn_pC, mi_pi, mi_pl, mi_pr, mi_pN, mi_pT, mi_pC, ml_pi, ml_pl, ml_pr, ml_pN, ml_pT, ml_pC, mr_pi, mr_pl, mr_pr, mr_pN, mr_pT, mr_pC, mt_pi, mt_pl, mt_pr, mt_pN, mt_pT, mt_pC, mz_pi, mz_pl, mz_pr, mz_pN, mz_pT, mz_pC, ma_pi, ma_pl, ma_pr, ma_pN, ma_pT, ma_pC, mcs_0, mcs_i, mcs_l, mcs_r, mcs_n, csum_rf, Kn_v, Kn_0, Kn_x, mrf_some, kok_0, true_and, and_true, false_and, and_false, true_or, or_true, or_false, false_or, not_true_eq_false, not_false_eq_true, true_implies, false_implies, implies_true, forall_const, if_true, if_false, and_self, Nat.reduceEqDiff, Nat.reduceLeDiff, Nat.reduceSub, Nat.reduceAdd, Nat.zero_le, Nat.le_refl, i10, i01, kz0, kz1, eq_self, lt_le, Classical.not_not, Int32.reduceLT, Int32.reduceAdd, Int32.reduceSub, Int32.reduceMul, cl0, cl1, cl2, cl3, cl4, cl5, cl6, cl7, cl8, cl9, cl10, cl11, cl12, cl13, cl14, cl15, cl16, cl17, cl18, cl19, cl20, cl21, cl22, cl23, cl24, cl25, cl26, cl27, cl28, cl29, cl30, cl31, cl32, cl33, cl34, cl35, cl36, cl37, cl38, cl39, lg_cmp_eq, Kc_v, Kc_0, Sum.inl.injEq, Option.some.injEq, Value.int.injEq, exists_eq_left', Nat.reduceLT, hAe, i20, i30, kc0, kc1, kc2, kc3, kc4, kc5, kc6, kc7, kc8, kc9, kc10, kc11, kc12, kc13, kc14, kc15, kc16, kc17, kc18, kc19, kc20, kc21, kc22, kc23, kc24, kc25, kc26, kc27, kc28, kc29, kc30, kc31, kc32, kc33, kc34, kc35, kc36, kc37, kc38, kc39, kn3, kn4, kn18, kn21, kn23, kn24, kn25, kn26, kn27, kn29, kn30, kr0_0, kr0_1, kr0_2, kr0_3, kr0_4, kr0_5, kr0_7, kr0_8, kr0_9, kr0_10, kr1_0, kr2_0, kr5_0, kr5_1, kr6_0, kr6_1, kr7_0, kr7_1, kr8_0, kr9_0, kr10_0, kr11_0, kr12_0, kr13_0, kr14_0, kr15_0, kr16_0, kr17_0, kr19_0, kr19_1, kr22_0, kr22_1, kr22_2, kr22_3, kr22_4, kr22_5, kr22_7, kr22_8, kr25_0, kr25_1, kr25_2, kr26_0, kr26_1, kr26_2, kr29_0, kr29_1, kz, ki5_2, ki6_2, ki7_2, ki8_1, ki8_2, ki8_3, ki9_1, ki9_2, ki9_3, ki10_1, ki10_2, ki10_3, ki11_1, ki11_2, ki11_3, ki12_1, ki12_2, ki12_3, ki13_1, ki13_2, ki13_3, ki14_1, ki14_2, ki14_3, ki28_0, ki28_1, ki31_0, ki31_1, ki32_0, ki32_1, ki33_0, ki33_1, ki34_0, ki34_1, ki35_0, ki35_1, ki36_0, ki36_1, bq0, bqq, vq3, hT, g1, g2, g3, g4, g5, g6, g7, hark, Int32.reduceLT, cl0, cl1, cl2, s1, s2, bs2, hs, d01, d02, d03, d10, d12, d13, d20, d21, d23, d30, d31, d32, vs0, vs1, vs2, vs3, i64_inj, i64_back, fo0, fo1, fo2, fo3, nm_eq, c_cW, n_cW, r_cW, z_cW, t_cW, a_cW, l_cW, i_cW_q2, i_cW_w1, i_cW_w2, i_cW_w3, i_cW_r1, i_cW_r2, i_cW_r3, c_mW, n_mW, r_mW, z_mW, t_mW, a_mW, l_mW, i_mW_w0, i_mW_w1, i_mW_w2, i_mW_r0, i_mW_r1, i_mW_r2, icw2 hA (j := 0) (by decide), imw2 hA (j := 0) (by decide), icw2 hA (j := 14) (by decide), imw2 hA (j := 14) (by decide), icw2 hA (j := 15) (by decide), imw2 hA (j := 15) (by decide), icw2 hA (j := 16) (by decide), imw2 hA (j := 16) (by decide), icw2 hA (j := 18) (by decide), imw2 hA (j := 18) (by decide), icw2 hA (j := 22) (by decide), imw2 hA (j := 22) (by decide), icw2 hA (j := 24) (by decide), imw2 hA (j := 24) (by decide), icw2 hA (j := 28) (by decide), imw2 hA (j := 28) (by decide), icw2 hA (j := 30) (by decide), imw2 hA (j := 30) (by decide), icw2 hA (j := 27) (by decide), icw2 hA (j := 31) (by decide), imw2 hA (j := 31) (by decide), icw2 hA (j := 32) (by decide), imw2 hA (j := 32) (by decide), icw2 hA (j := 33) (by decide), icw2 hA (j := 34) (by decide), imw2 hA (j := 34) (by decide), icw2 hA (j := 35) (by decide), imw2 hA (j := 35) (by decide), icw2 hA (j := 36) (by decide), icw2 hA (j := 37) (by decide), imw2 hA (j := 37) (by decide), icw2 hA (j := 38) (by decide), imw2 hA (j := 38) (by decide), cT2_pi hA (j := 18) (by decide), mT2_pi hA (j := 18) (by decide), cT2_pi hA (j := 22) (by decide), mT2_pi hA (j := 22) (by decide), cT2_pi hA (j := 30) (by decide), mT2_pi hA (j := 30) (by decide), cT2_pi hA (j := 24) (by decide), mT2_pi hA (j := 24) (by decide), cT2_pl, mT2_pl, cT2_pT, mT2_pT, cT2_cW hA, mT2_cW hA, mT2_mW hA, cT2_mW hA, e0, i1, i2, hj, hj2, n1]
          first | refine ⟨⟨?_, ?_, ?_, ?_, ?_, ?_, ?_, ?_, ?_, ?_, ?_, ?_⟩, rfl⟩ | refine ⟨?_, ?_, ?_, ?_, ?_, ?_, ?_, ?_, ?_, ?_, ?_, ?_⟩
          · (try simp only [K_pi, K_pl, K_pC, K_cW, K_mW])
            exact vk
          · (try simp only [Cn_pi hA (j := 18) (by decide), Cn_pi hA (j := 22) (by decide), Cn_pi hA (j := 30) (by decide), Cn_pl, Cn_pT, Cn_pr, Cn_cW2 hA, Cn_mW2 hA])
            exact vcn
          · (try simp only [Vq0_pi hA (j := 18) (by decide), Vq0_pi hA (j := 22) (by decide), Vq0_pi hA (j := 30) (by decide), Vq0_pl, Vq0_pT, Vq0_pr, Vq0_cW2 hA, Vq0_mW2 hA])
            exact v0
          · (try simp only [Vq1_pi hA (j := 18) (by decide), Vq1_pi hA (j := 22) (by decide), Vq1_pi hA (j := 30) (by decide), Vq1_pl, Vq1_pT, Vq1_pr, Vq1_cW2 hA, Vq1_mW2 hA])
            exact v1
          · simp only [Vq2_pi hA (j := 18) (by decide), Vq2_pi hA (j := 22) (by decide), Vq2_pi hA (j := 30) (by decide), Vq2_pi hA (j := 24) (by decide), Vq2_pl, Vq2_pT, Vq2_pr, Vq2_mW hA, cT2_pi hA (j := 18) (by decide), mT2_pi hA (j := 18) (by decide), cT2_pi hA (j := 22) (by decide), mT2_pi hA (j := 22) (by decide), cT2_pi hA (j := 30) (by decide), mT2_pi hA (j := 30) (by decide), cT2_pi hA (j := 24) (by decide), mT2_pi hA (j := 24) (by decide), cT2_pl, mT2_pl, cT2_pT, mT2_pT, cT2_cW hA, mT2_cW hA, mT2_mW hA, cT2_mW hA]
            exact ⟨trivial, hq9⟩
          · (try simp only [Vp_pi hA (j := 18) (by decide), Vp_pi hA (j := 30) (by decide), Vp_thr hA, Vp_pl, Vp_pT, Vp_pr, Vp_cW2 hA, Vp_mW2 hA])
            exact vp
          · (try simp only [Vl0_pi hA (j := 18) (by decide), Vl0_pi hA (j := 22) (by decide), Vl0_pi hA (j := 30) (by decide), Vl0_pl, Vl0_pT, Vl0_pr, Vl0_cW2 hA, Vl0_mW2 hA])
            exact vl0
          · (try simp only [Vl1_pi hA (j := 18) (by decide), Vl1_pi hA (j := 22) (by decide), Vl1_pi hA (j := 30) (by decide), Vl1_pl, Vl1_pT, Vl1_pr, Vl1_cW2 hA, Vl1_mW2 hA])
            exact vl1
          · refine Vlr_1 (i0 := (9 + g_i h (A 12) 4).toNatClampNeg) (x0 := nmM (g_i h (A 24) (11 + 4 * s + 0).toNatClampNeg) (g_i h (A 24) (11 + 4 * s + 1).toNatClampNeg) (g_i h (A 24) (11 + 4 * s + 2).toNatClampNeg) (g_i h (A 24) (11 + 4 * s + 3).toNatClampNeg)) vlr (fun k => ?_) (fun k => ?_) <;> simp only [l_cW, l_mW, mi_pi, mi_pl, ml_pi, ml_pl, mi_pT, ml_pT, mi_pr, ml_pr, hAe, Nat.reduceLT, Nat.reduceEqDiff, false_and, and_false, true_and, and_true, if_false, if_true, eq_self]
          · (try simp only [Vsr_pi hA (j := 18) (by decide), Vsr_pi hA (j := 22) (by decide), Vsr_pi hA (j := 30) (by decide), Vsr_pl hA (j := 39) (by decide), Vsr_pl hA (j := 3) (by decide), Vsr_pl hA (j := 23) (by decide), Vsr_pT, Vsr_pr, Vsr_cW2 hA, Vsr_mW2 hA])
            exact vsr
          · refine Vc_of (c := 0) vc (by decide) (fun k => ?_) (fun k => ?_) <;> simp only [l_cW, l_mW, mi_pi, mi_pl, ml_pi, ml_pl, mi_pT, ml_pT, mi_pr, ml_pr, hAe, Nat.reduceLT, Nat.reduceEqDiff, false_and, and_false, true_and, and_true, if_false, if_true, eq_self, icw2 hA (j := 0) (by decide), imw2 hA (j := 0) (by decide), icw2 hA (j := 14) (by decide), imw2 hA (j := 14) (by decide), icw2 hA (j := 15) (by decide), imw2 hA (j := 15) (by decide), icw2 hA (j := 16) (by decide), imw2 hA (j := 16) (by decide), icw2 hA (j := 18) (by decide), imw2 hA (j := 18) (by decide), icw2 hA (j := 22) (by decide), imw2 hA (j := 22) (by decide), icw2 hA (j := 24) (by decide), imw2 hA (j := 24) (by decide), icw2 hA (j := 28) (by decide), imw2 hA (j := 28) (by decide), icw2 hA (j := 30) (by decide), imw2 hA (j := 30) (by decide), icw2 hA (j := 27) (by decide), icw2 hA (j := 31) (by decide), imw2 hA (j := 31) (by decide), icw2 hA (j := 32) (by decide), imw2 hA (j := 32) (by decide), icw2 hA (j := 33) (by decide), icw2 hA (j := 34) (by decide), imw2 hA (j := 34) (by decide), icw2 hA (j := 35) (by decide), imw2 hA (j := 35) (by decide), icw2 hA (j := 36) (by decide), icw2 hA (j := 37) (by decide), imw2 hA (j := 37) (by decide), icw2 hA (j := 38) (by decide), imw2 hA (j := 38) (by decide)]
          · (try simp only [Tx_pi hA (j := 18) (by decide), Tx_pi hA (j := 22) (by decide), Tx_pi hA (j := 30) (by decide), Tx_pl, Tx_cW2 hA, Tx_mW2 hA])
            exact tx

theorem icx0_0 {A : Nat → Nat} {h : MH} {t : QT} (hA : inj40 A) : g_i (cW h (A 5) (A 8) (A 9) t) (A 8) 4 = t.1 := by simp only [cW, mi_pi, (hA 8 9 (by decide) (by decide)), (hA 9 8 (by decide) (by decide)), (hA 5 8 (by decide) (by decide)), (hA 8 5 (by decide) (by decide)), (hA 5 9 (by decide) (by decide)), (hA 9 5 (by decide) (by decide)), Nat.reduceEqDiff, and_true, true_and, and_false, false_and, if_true, if_false]
theorem icx0_1 {A : Nat → Nat} {h : MH} {t : QT} (hA : inj40 A) : g_i (cW h (A 5) (A 8) (A 9) t) (A 8) 5 = t.2.1 := by simp only [cW, mi_pi, (hA 8 9 (by decide) (by decide)), (hA 9 8 (by decide) (by decide)), (hA 5 8 (by decide) (by decide)), (hA 8 5 (by decide) (by decide)), (hA 5 9 (by decide) (by decide)), (hA 9 5 (by decide) (by decide)), Nat.reduceEqDiff, and_true, true_and, and_false, false_and, if_true, if_false]
theorem icx0_2 {A : Nat → Nat} {h : MH} {t : QT} (hA : inj40 A) : g_i (cW h (A 5) (A 8) (A 9) t) (A 8) 6 = t.2.2.1 := by simp only [cW, mi_pi, (hA 8 9 (by decide) (by decide)), (hA 9 8 (by decide) (by decide)), (hA 5 8 (by decide) (by decide)), (hA 8 5 (by decide) (by decide)), (hA 5 9 (by decide) (by decide)), (hA 9 5 (by decide) (by decide)), Nat.reduceEqDiff, and_true, true_and, and_false, false_and, if_true, if_false]
theorem icx0_3 {A : Nat → Nat} {h : MH} {t : QT} (hA : inj40 A) : g_i (cW h (A 5) (A 8) (A 9) t) (A 9) 4 = t.2.2.2.1 := by simp only [cW, mi_pi, (hA 8 9 (by decide) (by decide)), (hA 9 8 (by decide) (by decide)), (hA 5 8 (by decide) (by decide)), (hA 8 5 (by decide) (by decide)), (hA 5 9 (by decide) (by decide)), (hA 9 5 (by decide) (by decide)), Nat.reduceEqDiff, and_true, true_and, and_false, false_and, if_true, if_false]
theorem icx0_4 {A : Nat → Nat} {h : MH} {t : QT} (hA : inj40 A) : g_i (cW h (A 5) (A 8) (A 9) t) (A 9) 5 = t.2.2.2.2.1 := by simp only [cW, mi_pi, (hA 8 9 (by decide) (by decide)), (hA 9 8 (by decide) (by decide)), (hA 5 8 (by decide) (by decide)), (hA 8 5 (by decide) (by decide)), (hA 5 9 (by decide) (by decide)), (hA 9 5 (by decide) (by decide)), Nat.reduceEqDiff, and_true, true_and, and_false, false_and, if_true, if_false]
theorem icx0_5 {A : Nat → Nat} {h : MH} {t : QT} (hA : inj40 A) : g_i (cW h (A 5) (A 8) (A 9) t) (A 9) 6 = t.2.2.2.2.2.1 := by simp only [cW, mi_pi, (hA 8 9 (by decide) (by decide)), (hA 9 8 (by decide) (by decide)), (hA 5 8 (by decide) (by decide)), (hA 8 5 (by decide) (by decide)), (hA 5 9 (by decide) (by decide)), (hA 9 5 (by decide) (by decide)), Nat.reduceEqDiff, and_true, true_and, and_false, false_and, if_true, if_false]
theorem icx0_6 {A : Nat → Nat} {h : MH} {t : QT} (hA : inj40 A) : g_i (cW h (A 5) (A 8) (A 9) t) (A 5) 3 = t.2.2.2.2.2.2 := by simp only [cW, mi_pi, (hA 8 9 (by decide) (by decide)), (hA 9 8 (by decide) (by decide)), (hA 5 8 (by decide) (by decide)), (hA 8 5 (by decide) (by decide)), (hA 5 9 (by decide) (by decide)), (hA 9 5 (by decide) (by decide)), Nat.reduceEqDiff, and_true, true_and, and_false, false_and, if_true, if_false]
theorem imx0_0 {A : Nat → Nat} {h : MH} {t : QT} (hA : inj40 A) : g_i (mW h (A 27) 0 (A 31) (A 34) t) (A 31) 3 = t.1 := by simp only [mW, mi_pi, (hA 31 34 (by decide) (by decide)), (hA 34 31 (by decide) (by decide)), (hA 27 31 (by decide) (by decide)), (hA 31 27 (by decide) (by decide)), (hA 27 34 (by decide) (by decide)), (hA 34 27 (by decide) (by decide)), Nat.reduceEqDiff, and_true, true_and, and_false, false_and, if_true, if_false]
theorem imx0_1 {A : Nat → Nat} {h : MH} {t : QT} (hA : inj40 A) : g_i (mW h (A 27) 0 (A 31) (A 34) t) (A 31) 4 = t.2.1 := by simp only [mW, mi_pi, (hA 31 34 (by decide) (by decide)), (hA 34 31 (by decide) (by decide)), (hA 27 31 (by decide) (by decide)), (hA 31 27 (by decide) (by decide)), (hA 27 34 (by decide) (by decide)), (hA 34 27 (by decide) (by decide)), Nat.reduceEqDiff, and_true, true_and, and_false, false_and, if_true, if_false]
theorem imx0_2 {A : Nat → Nat} {h : MH} {t : QT} (hA : inj40 A) : g_i (mW h (A 27) 0 (A 31) (A 34) t) (A 31) 5 = t.2.2.1 := by simp only [mW, mi_pi, (hA 31 34 (by decide) (by decide)), (hA 34 31 (by decide) (by decide)), (hA 27 31 (by decide) (by decide)), (hA 31 27 (by decide) (by decide)), (hA 27 34 (by decide) (by decide)), (hA 34 27 (by decide) (by decide)), Nat.reduceEqDiff, and_true, true_and, and_false, false_and, if_true, if_false]
theorem imx0_3 {A : Nat → Nat} {h : MH} {t : QT} (hA : inj40 A) : g_i (mW h (A 27) 0 (A 31) (A 34) t) (A 34) 3 = t.2.2.2.1 := by simp only [mW, mi_pi, (hA 31 34 (by decide) (by decide)), (hA 34 31 (by decide) (by decide)), (hA 27 31 (by decide) (by decide)), (hA 31 27 (by decide) (by decide)), (hA 27 34 (by decide) (by decide)), (hA 34 27 (by decide) (by decide)), Nat.reduceEqDiff, and_true, true_and, and_false, false_and, if_true, if_false]
theorem imx0_4 {A : Nat → Nat} {h : MH} {t : QT} (hA : inj40 A) : g_i (mW h (A 27) 0 (A 31) (A 34) t) (A 34) 4 = t.2.2.2.2.1 := by simp only [mW, mi_pi, (hA 31 34 (by decide) (by decide)), (hA 34 31 (by decide) (by decide)), (hA 27 31 (by decide) (by decide)), (hA 31 27 (by decide) (by decide)), (hA 27 34 (by decide) (by decide)), (hA 34 27 (by decide) (by decide)), Nat.reduceEqDiff, and_true, true_and, and_false, false_and, if_true, if_false]
theorem imx0_5 {A : Nat → Nat} {h : MH} {t : QT} (hA : inj40 A) : g_i (mW h (A 27) 0 (A 31) (A 34) t) (A 34) 5 = t.2.2.2.2.2.1 := by simp only [mW, mi_pi, (hA 31 34 (by decide) (by decide)), (hA 34 31 (by decide) (by decide)), (hA 27 31 (by decide) (by decide)), (hA 31 27 (by decide) (by decide)), (hA 27 34 (by decide) (by decide)), (hA 34 27 (by decide) (by decide)), Nat.reduceEqDiff, and_true, true_and, and_false, false_and, if_true, if_false]
theorem imx0_6 {A : Nat → Nat} {h : MH} {t : QT} (hA : inj40 A) : g_i (mW h (A 27) 0 (A 31) (A 34) t) (A 27) 0 = t.2.2.2.2.2.2 := by simp only [mW, mi_pi, (hA 31 34 (by decide) (by decide)), (hA 34 31 (by decide) (by decide)), (hA 27 31 (by decide) (by decide)), (hA 31 27 (by decide) (by decide)), (hA 27 34 (by decide) (by decide)), (hA 34 27 (by decide) (by decide)), Nat.reduceEqDiff, and_true, true_and, and_false, false_and, if_true, if_false]
theorem icx1_0 {A : Nat → Nat} {h : MH} {t : QT} (hA : inj40 A) : g_i (cW h (A 6) (A 10) (A 11) t) (A 10) 4 = t.1 := by simp only [cW, mi_pi, (hA 10 11 (by decide) (by decide)), (hA 11 10 (by decide) (by decide)), (hA 6 10 (by decide) (by decide)), (hA 10 6 (by decide) (by decide)), (hA 6 11 (by decide) (by decide)), (hA 11 6 (by decide) (by decide)), Nat.reduceEqDiff, and_true, true_and, and_false, false_and, if_true, if_false]
theorem icx1_1 {A : Nat → Nat} {h : MH} {t : QT} (hA : inj40 A) : g_i (cW h (A 6) (A 10) (A 11) t) (A 10) 5 = t.2.1 := by simp only [cW, mi_pi, (hA 10 11 (by decide) (by decide)), (hA 11 10 (by decide) (by decide)), (hA 6 10 (by decide) (by decide)), (hA 10 6 (by decide) (by decide)), (hA 6 11 (by decide) (by decide)), (hA 11 6 (by decide) (by decide)), Nat.reduceEqDiff, and_true, true_and, and_false, false_and, if_true, if_false]
theorem icx1_2 {A : Nat → Nat} {h : MH} {t : QT} (hA : inj40 A) : g_i (cW h (A 6) (A 10) (A 11) t) (A 10) 6 = t.2.2.1 := by simp only [cW, mi_pi, (hA 10 11 (by decide) (by decide)), (hA 11 10 (by decide) (by decide)), (hA 6 10 (by decide) (by decide)), (hA 10 6 (by decide) (by decide)), (hA 6 11 (by decide) (by decide)), (hA 11 6 (by decide) (by decide)), Nat.reduceEqDiff, and_true, true_and, and_false, false_and, if_true, if_false]
theorem icx1_3 {A : Nat → Nat} {h : MH} {t : QT} (hA : inj40 A) : g_i (cW h (A 6) (A 10) (A 11) t) (A 11) 4 = t.2.2.2.1 := by simp only [cW, mi_pi, (hA 10 11 (by decide) (by decide)), (hA 11 10 (by decide) (by decide)), (hA 6 10 (by decide) (by decide)), (hA 10 6 (by decide) (by decide)), (hA 6 11 (by decide) (by decide)), (hA 11 6 (by decide) (by decide)), Nat.reduceEqDiff, and_true, true_and, and_false, false_and, if_true, if_false]
theorem icx1_4 {A : Nat → Nat} {h : MH} {t : QT} (hA : inj40 A) : g_i (cW h (A 6) (A 10) (A 11) t) (A 11) 5 = t.2.2.2.2.1 := by simp only [cW, mi_pi, (hA 10 11 (by decide) (by decide)), (hA 11 10 (by decide) (by decide)), (hA 6 10 (by decide) (by decide)), (hA 10 6 (by decide) (by decide)), (hA 6 11 (by decide) (by decide)), (hA 11 6 (by decide) (by decide)), Nat.reduceEqDiff, and_true, true_and, and_false, false_and, if_true, if_false]
theorem icx1_5 {A : Nat → Nat} {h : MH} {t : QT} (hA : inj40 A) : g_i (cW h (A 6) (A 10) (A 11) t) (A 11) 6 = t.2.2.2.2.2.1 := by simp only [cW, mi_pi, (hA 10 11 (by decide) (by decide)), (hA 11 10 (by decide) (by decide)), (hA 6 10 (by decide) (by decide)), (hA 10 6 (by decide) (by decide)), (hA 6 11 (by decide) (by decide)), (hA 11 6 (by decide) (by decide)), Nat.reduceEqDiff, and_true, true_and, and_false, false_and, if_true, if_false]
theorem icx1_6 {A : Nat → Nat} {h : MH} {t : QT} (hA : inj40 A) : g_i (cW h (A 6) (A 10) (A 11) t) (A 6) 3 = t.2.2.2.2.2.2 := by simp only [cW, mi_pi, (hA 10 11 (by decide) (by decide)), (hA 11 10 (by decide) (by decide)), (hA 6 10 (by decide) (by decide)), (hA 10 6 (by decide) (by decide)), (hA 6 11 (by decide) (by decide)), (hA 11 6 (by decide) (by decide)), Nat.reduceEqDiff, and_true, true_and, and_false, false_and, if_true, if_false]
theorem imx1_0 {A : Nat → Nat} {h : MH} {t : QT} (hA : inj40 A) : g_i (mW h (A 27) 1 (A 32) (A 35) t) (A 32) 3 = t.1 := by simp only [mW, mi_pi, (hA 32 35 (by decide) (by decide)), (hA 35 32 (by decide) (by decide)), (hA 27 32 (by decide) (by decide)), (hA 32 27 (by decide) (by decide)), (hA 27 35 (by decide) (by decide)), (hA 35 27 (by decide) (by decide)), Nat.reduceEqDiff, and_true, true_and, and_false, false_and, if_true, if_false]
theorem imx1_1 {A : Nat → Nat} {h : MH} {t : QT} (hA : inj40 A) : g_i (mW h (A 27) 1 (A 32) (A 35) t) (A 32) 4 = t.2.1 := by simp only [mW, mi_pi, (hA 32 35 (by decide) (by decide)), (hA 35 32 (by decide) (by decide)), (hA 27 32 (by decide) (by decide)), (hA 32 27 (by decide) (by decide)), (hA 27 35 (by decide) (by decide)), (hA 35 27 (by decide) (by decide)), Nat.reduceEqDiff, and_true, true_and, and_false, false_and, if_true, if_false]
theorem imx1_2 {A : Nat → Nat} {h : MH} {t : QT} (hA : inj40 A) : g_i (mW h (A 27) 1 (A 32) (A 35) t) (A 32) 5 = t.2.2.1 := by simp only [mW, mi_pi, (hA 32 35 (by decide) (by decide)), (hA 35 32 (by decide) (by decide)), (hA 27 32 (by decide) (by decide)), (hA 32 27 (by decide) (by decide)), (hA 27 35 (by decide) (by decide)), (hA 35 27 (by decide) (by decide)), Nat.reduceEqDiff, and_true, true_and, and_false, false_and, if_true, if_false]
theorem imx1_3 {A : Nat → Nat} {h : MH} {t : QT} (hA : inj40 A) : g_i (mW h (A 27) 1 (A 32) (A 35) t) (A 35) 3 = t.2.2.2.1 := by simp only [mW, mi_pi, (hA 32 35 (by decide) (by decide)), (hA 35 32 (by decide) (by decide)), (hA 27 32 (by decide) (by decide)), (hA 32 27 (by decide) (by decide)), (hA 27 35 (by decide) (by decide)), (hA 35 27 (by decide) (by decide)), Nat.reduceEqDiff, and_true, true_and, and_false, false_and, if_true, if_false]
theorem imx1_4 {A : Nat → Nat} {h : MH} {t : QT} (hA : inj40 A) : g_i (mW h (A 27) 1 (A 32) (A 35) t) (A 35) 4 = t.2.2.2.2.1 := by simp only [mW, mi_pi, (hA 32 35 (by decide) (by decide)), (hA 35 32 (by decide) (by decide)), (hA 27 32 (by decide) (by decide)), (hA 32 27 (by decide) (by decide)), (hA 27 35 (by decide) (by decide)), (hA 35 27 (by decide) (by decide)), Nat.reduceEqDiff, and_true, true_and, and_false, false_and, if_true, if_false]
theorem imx1_5 {A : Nat → Nat} {h : MH} {t : QT} (hA : inj40 A) : g_i (mW h (A 27) 1 (A 32) (A 35) t) (A 35) 5 = t.2.2.2.2.2.1 := by simp only [mW, mi_pi, (hA 32 35 (by decide) (by decide)), (hA 35 32 (by decide) (by decide)), (hA 27 32 (by decide) (by decide)), (hA 32 27 (by decide) (by decide)), (hA 27 35 (by decide) (by decide)), (hA 35 27 (by decide) (by decide)), Nat.reduceEqDiff, and_true, true_and, and_false, false_and, if_true, if_false]
theorem imx1_6 {A : Nat → Nat} {h : MH} {t : QT} (hA : inj40 A) : g_i (mW h (A 27) 1 (A 32) (A 35) t) (A 27) 1 = t.2.2.2.2.2.2 := by simp only [mW, mi_pi, (hA 32 35 (by decide) (by decide)), (hA 35 32 (by decide) (by decide)), (hA 27 32 (by decide) (by decide)), (hA 32 27 (by decide) (by decide)), (hA 27 35 (by decide) (by decide)), (hA 35 27 (by decide) (by decide)), Nat.reduceEqDiff, and_true, true_and, and_false, false_and, if_true, if_false]
theorem icx2_0 {A : Nat → Nat} {h : MH} {t : QT} (hA : inj40 A) : g_i (cW h (A 7) (A 12) (A 13) t) (A 12) 4 = t.1 := by simp only [cW, mi_pi, (hA 12 13 (by decide) (by decide)), (hA 13 12 (by decide) (by decide)), (hA 7 12 (by decide) (by decide)), (hA 12 7 (by decide) (by decide)), (hA 7 13 (by decide) (by decide)), (hA 13 7 (by decide) (by decide)), Nat.reduceEqDiff, and_true, true_and, and_false, false_and, if_true, if_false]
theorem icx2_1 {A : Nat → Nat} {h : MH} {t : QT} (hA : inj40 A) : g_i (cW h (A 7) (A 12) (A 13) t) (A 12) 5 = t.2.1 := by simp only [cW, mi_pi, (hA 12 13 (by decide) (by decide)), (hA 13 12 (by decide) (by decide)), (hA 7 12 (by decide) (by decide)), (hA 12 7 (by decide) (by decide)), (hA 7 13 (by decide) (by decide)), (hA 13 7 (by decide) (by decide)), Nat.reduceEqDiff, and_true, true_and, and_false, false_and, if_true, if_false]
theorem icx2_2 {A : Nat → Nat} {h : MH} {t : QT} (hA : inj40 A) : g_i (cW h (A 7) (A 12) (A 13) t) (A 12) 6 = t.2.2.1 := by simp only [cW, mi_pi, (hA 12 13 (by decide) (by decide)), (hA 13 12 (by decide) (by decide)), (hA 7 12 (by decide) (by decide)), (hA 12 7 (by decide) (by decide)), (hA 7 13 (by decide) (by decide)), (hA 13 7 (by decide) (by decide)), Nat.reduceEqDiff, and_true, true_and, and_false, false_and, if_true, if_false]
theorem icx2_3 {A : Nat → Nat} {h : MH} {t : QT} (hA : inj40 A) : g_i (cW h (A 7) (A 12) (A 13) t) (A 13) 4 = t.2.2.2.1 := by simp only [cW, mi_pi, (hA 12 13 (by decide) (by decide)), (hA 13 12 (by decide) (by decide)), (hA 7 12 (by decide) (by decide)), (hA 12 7 (by decide) (by decide)), (hA 7 13 (by decide) (by decide)), (hA 13 7 (by decide) (by decide)), Nat.reduceEqDiff, and_true, true_and, and_false, false_and, if_true, if_false]
theorem icx2_4 {A : Nat → Nat} {h : MH} {t : QT} (hA : inj40 A) : g_i (cW h (A 7) (A 12) (A 13) t) (A 13) 5 = t.2.2.2.2.1 := by simp only [cW, mi_pi, (hA 12 13 (by decide) (by decide)), (hA 13 12 (by decide) (by decide)), (hA 7 12 (by decide) (by decide)), (hA 12 7 (by decide) (by decide)), (hA 7 13 (by decide) (by decide)), (hA 13 7 (by decide) (by decide)), Nat.reduceEqDiff, and_true, true_and, and_false, false_and, if_true, if_false]
theorem icx2_5 {A : Nat → Nat} {h : MH} {t : QT} (hA : inj40 A) : g_i (cW h (A 7) (A 12) (A 13) t) (A 13) 6 = t.2.2.2.2.2.1 := by simp only [cW, mi_pi, (hA 12 13 (by decide) (by decide)), (hA 13 12 (by decide) (by decide)), (hA 7 12 (by decide) (by decide)), (hA 12 7 (by decide) (by decide)), (hA 7 13 (by decide) (by decide)), (hA 13 7 (by decide) (by decide)), Nat.reduceEqDiff, and_true, true_and, and_false, false_and, if_true, if_false]
theorem icx2_6 {A : Nat → Nat} {h : MH} {t : QT} (hA : inj40 A) : g_i (cW h (A 7) (A 12) (A 13) t) (A 7) 3 = t.2.2.2.2.2.2 := by simp only [cW, mi_pi, (hA 12 13 (by decide) (by decide)), (hA 13 12 (by decide) (by decide)), (hA 7 12 (by decide) (by decide)), (hA 12 7 (by decide) (by decide)), (hA 7 13 (by decide) (by decide)), (hA 13 7 (by decide) (by decide)), Nat.reduceEqDiff, and_true, true_and, and_false, false_and, if_true, if_false]
theorem imx2_0 {A : Nat → Nat} {h : MH} {t : QT} (hA : inj40 A) : g_i (mW h (A 27) 2 (A 33) (A 36) t) (A 33) 3 = t.1 := by simp only [mW, mi_pi, (hA 33 36 (by decide) (by decide)), (hA 36 33 (by decide) (by decide)), (hA 27 33 (by decide) (by decide)), (hA 33 27 (by decide) (by decide)), (hA 27 36 (by decide) (by decide)), (hA 36 27 (by decide) (by decide)), Nat.reduceEqDiff, and_true, true_and, and_false, false_and, if_true, if_false]
theorem imx2_1 {A : Nat → Nat} {h : MH} {t : QT} (hA : inj40 A) : g_i (mW h (A 27) 2 (A 33) (A 36) t) (A 33) 4 = t.2.1 := by simp only [mW, mi_pi, (hA 33 36 (by decide) (by decide)), (hA 36 33 (by decide) (by decide)), (hA 27 33 (by decide) (by decide)), (hA 33 27 (by decide) (by decide)), (hA 27 36 (by decide) (by decide)), (hA 36 27 (by decide) (by decide)), Nat.reduceEqDiff, and_true, true_and, and_false, false_and, if_true, if_false]
theorem imx2_2 {A : Nat → Nat} {h : MH} {t : QT} (hA : inj40 A) : g_i (mW h (A 27) 2 (A 33) (A 36) t) (A 33) 5 = t.2.2.1 := by simp only [mW, mi_pi, (hA 33 36 (by decide) (by decide)), (hA 36 33 (by decide) (by decide)), (hA 27 33 (by decide) (by decide)), (hA 33 27 (by decide) (by decide)), (hA 27 36 (by decide) (by decide)), (hA 36 27 (by decide) (by decide)), Nat.reduceEqDiff, and_true, true_and, and_false, false_and, if_true, if_false]
theorem imx2_3 {A : Nat → Nat} {h : MH} {t : QT} (hA : inj40 A) : g_i (mW h (A 27) 2 (A 33) (A 36) t) (A 36) 3 = t.2.2.2.1 := by simp only [mW, mi_pi, (hA 33 36 (by decide) (by decide)), (hA 36 33 (by decide) (by decide)), (hA 27 33 (by decide) (by decide)), (hA 33 27 (by decide) (by decide)), (hA 27 36 (by decide) (by decide)), (hA 36 27 (by decide) (by decide)), Nat.reduceEqDiff, and_true, true_and, and_false, false_and, if_true, if_false]
theorem imx2_4 {A : Nat → Nat} {h : MH} {t : QT} (hA : inj40 A) : g_i (mW h (A 27) 2 (A 33) (A 36) t) (A 36) 4 = t.2.2.2.2.1 := by simp only [mW, mi_pi, (hA 33 36 (by decide) (by decide)), (hA 36 33 (by decide) (by decide)), (hA 27 33 (by decide) (by decide)), (hA 33 27 (by decide) (by decide)), (hA 27 36 (by decide) (by decide)), (hA 36 27 (by decide) (by decide)), Nat.reduceEqDiff, and_true, true_and, and_false, false_and, if_true, if_false]
theorem imx2_5 {A : Nat → Nat} {h : MH} {t : QT} (hA : inj40 A) : g_i (mW h (A 27) 2 (A 33) (A 36) t) (A 36) 5 = t.2.2.2.2.2.1 := by simp only [mW, mi_pi, (hA 33 36 (by decide) (by decide)), (hA 36 33 (by decide) (by decide)), (hA 27 33 (by decide) (by decide)), (hA 33 27 (by decide) (by decide)), (hA 27 36 (by decide) (by decide)), (hA 36 27 (by decide) (by decide)), Nat.reduceEqDiff, and_true, true_and, and_false, false_and, if_true, if_false]
theorem imx2_6 {A : Nat → Nat} {h : MH} {t : QT} (hA : inj40 A) : g_i (mW h (A 27) 2 (A 33) (A 36) t) (A 27) 2 = t.2.2.2.2.2.2 := by simp only [mW, mi_pi, (hA 33 36 (by decide) (by decide)), (hA 36 33 (by decide) (by decide)), (hA 27 33 (by decide) (by decide)), (hA 33 27 (by decide) (by decide)), (hA 27 36 (by decide) (by decide)), (hA 36 27 (by decide) (by decide)), Nat.reduceEqDiff, and_true, true_and, and_false, false_and, if_true, if_false]
theorem hx_297_1 {l rest : List Value} {bc bs : Nat} {Q : MR → MH → Prop} {h : MH} : Kc Ok 297 4 7 l rest bc bs Q (.inr 1) h ↔ ∀ q : Nat, Ok 297 14 l [.ref q] h bc bs Q := Kc_x (by decide +kernel) (by decide +kernel)
theorem op_take {A : Nat → Nat} {h : MH} (R : Rl A h) {q s : Int32} : Ok 297 0 [.ref (A 0), .int q, .int s, .ref (A 39), mk0] [] h 2 12 (fun r h1 => ∃ k : Int32, r = .inl (some (.int k)) ∧ g_c h1 (A 22) = 9 ∧ Ok 189 0 [.ref (A 22), .int q, .int s] [] h1 0 0 (fun r2 h2 => ∃ b : Int32, r2 = .inl (some (.int b)) ∧ Rl A h2 ∧ g_i h2 (A 22) 9 = k ∧ (k = 0 → g_l h2 (A 39) 0 = b.toInt64))) := by
  obtain ⟨vk, vcn, v0, v1, v2, vp, vl0, vl1, vlr, vsr, vc, tx⟩ := R
  have vk0 := vk
  have vcn0 := vcn
  (refine K_el vk0 ?_; intros hA kc0 kc1 kc2 kc3 kc4 kc5 kc6 kc7 kc8 kc9 kc10 kc11 kc12 kc13 kc14 kc15 kc16 kc17 kc18 kc19 kc20 kc21 kc22 kc23 kc24 kc25 kc26 kc27 kc28 kc29 kc30 kc31 kc32 kc33 kc34 kc35 kc36 kc37 kc38 kc39 kz kt kn3 kn4 kn18 kn21 kn23 kn24 kn25 kn26 kn27 kn29 kn30 kr0_0 kr0_1 kr0_2 kr0_3 kr0_4 kr0_5 kr0_7 kr0_8 kr0_9 kr0_10 kr1_0 kr2_0 kr5_0 kr5_1 kr6_0 kr6_1 kr7_0 kr7_1 kr8_0 kr9_0 kr10_0 kr11_0 kr12_0 kr13_0 kr14_0 kr15_0 kr16_0 kr17_0 kr19_0 kr19_1 kr22_0 kr22_1 kr22_2 kr22_3 kr22_4 kr22_5 kr22_7 kr22_8 kr25_0 kr25_1 kr25_2 kr26_0 kr26_1 kr26_2 kr29_0 kr29_1)
  (refine Cn_el vcn0 ?_; intros ki5_2 ki6_2 ki7_2 ki8_1 ki8_2 ki8_3 ki9_1 ki9_2 ki9_3 ki10_1 ki10_2 ki10_3 ki11_1 ki11_2 ki11_3 ki12_1 ki12_2 ki12_3 ki13_1 ki13_2 ki13_3 ki14_1 ki14_2 ki14_3 ki28_0 ki28_1 ki31_0 ki31_1 ki32_0 ki32_1 ki33_0 ki33_1 ki34_0 ki34_1 ki35_0 ki35_1 ki36_0 ki36_1)
  have hAe : ∀ i j, i < 40 → j < 40 → (A i = A j ↔ i = j) := hA
  by_cases bq : q < 0 ∨ ¬ q < 3
  · have bq2 : (¬ q < 0 ∧ q < 3) = False := nrng bq
    by_cases bs : (¬ s < 0 ∧ s < 6)
    all_goals
      simp only [o297_0, o297_1, o297_2, o297_3, o297_4, o297_7, o297_8, o297_11, o297_14, o297_16, o297_17, o297_18, o297_19, o65_0, o65_1, o65_2, o65_5, o65_6, o65_7, o65_10, o65_11, o65_14, o65_17, o65_18, o65_21, o65_22, o65_25, o65_26, o65_27, o65_28, o65_29, o65_32, o65_35, o65_36, o65_37, o65_40, o65_41, o65_44, o65_47, o189_0, o189_1, o189_2, o189_5, o189_8, o189_9, o189_12, o189_15, o189_16, o189_19, o189_20, o189_23, o189_26, o189_27, o189_28, o189_29, o189_32, o189_33, o189_34, o189_37, o189_40, o189_41, o189_42, o189_45, o189_46, o189_47, o189_48, o189_49, o189_50, o189_53, o189_56, o189_57, o189_58, o189_59, o189_60, o189_63, o189_66, hx_297_1, c_X5_checkSlot, c_X8_isSlot, c_X8_isThrown, c_X8_isThrown_, c_X8_isThrown__, c_X8_isQueue, c_queueOf_bad, mc_pi, mc_pl, mc_pr, mc_pN, mc_pT, mc_pC, mn_pi, mn_pl, mn_pr, mn_pN, mn_pT, mn_pC, mi_pi, mi_pl, mi_pr, mi_pN, mi_pT, mi_pC, ml_pi, ml_pl, ml_pr, ml_pN, ml_pT, ml_pC, mr_pi, mr_pl, mr_pr, mr_pN, mr_pT, mr_pC, mt_pi, mt_pl, mt_pr, mt_pN, mt_pT, mt_pC, mz_pi, mz_pl, mz_pr, mz_pN, mz_pT, mz_pC, ma_pi, ma_pl, ma_pr, ma_pN, ma_pT, ma_pC, mcs_0, mcs_i, mcs_l, mcs_r, mcs_n, csum_rf, Kn_v, Kn_0, Kn_x, mrf_some, kok_0, true_and, and_true, false_and, and_false, true_or, or_true, or_false, false_or, not_true_eq_false, not_false_eq_true, true_implies, false_implies, implies_true, forall_const, if_true, if_false, and_self, Nat.reduceEqDiff, Nat.reduceLeDiff, Nat.reduceSub, Nat.reduceAdd, Nat.zero_le, Nat.le_refl, i10, i01, kz0, kz1, eq_self, lt_le, Classical.not_not, Int32.reduceLT, Int32.reduceAdd, Int32.reduceSub, Int32.reduceMul, cl0, cl1, cl2, cl3, cl4, cl5, cl6, cl7, cl8, cl9, cl10, cl11, cl12, cl13, cl14, cl15, cl16, cl17, cl18, cl19, cl20, cl21, cl22, cl23, cl24, cl25, cl26, cl27, cl28, cl29, cl30, cl31, cl32, cl33, cl34, cl35, cl36, cl37, cl38, cl39, lg_cmp_eq, Kc_v, Kc_0, Sum.inl.injEq, Option.some.injEq, Value.int.injEq, exists_eq_left', Nat.reduceLT, hAe, i20, i30, kc0, kc1, kc2, kc3, kc4, kc5, kc6, kc7, kc8, kc9, kc10, kc11, kc12, kc13, kc14, kc15, kc16, kc17, kc18, kc19, kc20, kc21, kc22, kc23, kc24, kc25, kc26, kc27, kc28, kc29, kc30, kc31, kc32, kc33, kc34, kc35, kc36, kc37, kc38, kc39, kn3, kn4, kn18, kn21, kn23, kn24, kn25, kn26, kn27, kn29, kn30, kr0_0, kr0_1, kr0_2, kr0_3, kr0_4, kr0_5, kr0_7, kr0_8, kr0_9, kr0_10, kr1_0, kr2_0, kr5_0, kr5_1, kr6_0, kr6_1, kr7_0, kr7_1, kr8_0, kr9_0, kr10_0, kr11_0, kr12_0, kr13_0, kr14_0, kr15_0, kr16_0, kr17_0, kr19_0, kr19_1, kr22_0, kr22_1, kr22_2, kr22_3, kr22_4, kr22_5, kr22_7, kr22_8, kr25_0, kr25_1, kr25_2, kr26_0, kr26_1, kr26_2, kr29_0, kr29_1, kz, ki5_2, ki6_2, ki7_2, ki8_1, ki8_2, ki8_3, ki9_1, ki9_2, ki9_3, ki10_1, ki10_2, ki10_3, ki11_1, ki11_2, ki11_3, ki12_1, ki12_2, ki12_3, ki13_1, ki13_2, ki13_3, ki14_1, ki14_2, ki14_3, ki28_0, ki28_1, ki31_0, ki31_1, ki32_0, ki32_1, ki33_0, ki33_1, ki34_0, ki34_1, ki35_0, ki35_1, ki36_0, ki36_1, bq, bq2, bs]
      intro t ht
      first | refine ⟨⟨?_, ?_, ?_, ?_, ?_, ?_, ?_, ?_, ?_, ?_, ?_, ?_⟩, rfl⟩ | refine ⟨?_, ?_, ?_, ?_, ?_, ?_, ?_, ?_, ?_, ?_, ?_, ?_⟩
      · (try simp only [K_pi, K_pl, K_pC, K_cW, K_mW])
        exact K_pT ht vk
      · (try simp only [Cn_pi hA (j := 18) (by decide), Cn_pi hA (j := 22) (by decide), Cn_pi hA (j := 30) (by decide), Cn_pl, Cn_pT, Cn_pr])
        exact vcn
      · (try simp only [Vq0_pi hA (j := 18) (by decide), Vq0_pi hA (j := 22) (by decide), Vq0_pi hA (j := 30) (by decide), Vq0_pl, Vq0_pT, Vq0_pr])
        exact v0
      · (try simp only [Vq1_pi hA (j := 18) (by decide), Vq1_pi hA (j := 22) (by decide), Vq1_pi hA (j := 30) (by decide), Vq1_pl, Vq1_pT, Vq1_pr])
        exact v1
      · (try simp only [Vq2_pi hA (j := 18) (by decide), Vq2_pi hA (j := 22) (by decide), Vq2_pi hA (j := 30) (by decide), Vq2_pl, Vq2_pT, Vq2_pr])
        exact v2
      · (try simp only [Vp_pi hA (j := 18) (by decide), Vp_pi hA (j := 30) (by decide), Vp_thr hA, Vp_pl, Vp_pT, Vp_pr])
        exact vp
      · (try simp only [Vl0_pi hA (j := 18) (by decide), Vl0_pi hA (j := 22) (by decide), Vl0_pi hA (j := 30) (by decide), Vl0_pl, Vl0_pT, Vl0_pr])
        exact vl0
      · (try simp only [Vl1_pi hA (j := 18) (by decide), Vl1_pi hA (j := 22) (by decide), Vl1_pi hA (j := 30) (by decide), Vl1_pl, Vl1_pT, Vl1_pr])
        exact vl1
      · (try simp only [Vlr_pi hA (j := 18) (by decide), Vlr_pi hA (j := 22) (by decide), Vlr_pi hA (j := 30) (by decide), Vlr_pl hA (j := 39) (by decide), Vlr_pT, Vlr_pr])
        exact vlr
      · (try simp only [Vsr_pi hA (j := 18) (by decide), Vsr_pi hA (j := 22) (by decide), Vsr_pi hA (j := 30) (by decide), Vsr_pl hA (j := 39) (by decide), Vsr_pT, Vsr_pr])
        exact vsr
      · (try simp only [Vc_pi hA (j := 22) (by decide), Vc_pl, Vc_pT, Vc_pr])
        exact vc
      · (try simp only [Tx_pi hA (j := 18) (by decide), Tx_pi hA (j := 22) (by decide), Tx_pi hA (j := 30) (by decide), Tx_pl])
        exact Tx_pT ht tx
  · have y1 : ¬ q < 0 := fun z => bq (Or.inl z)
    have y2 : q < 3 := Classical.byContradiction fun z => bq (Or.inr z)
    have bq2 : (¬ q < 0 ∧ q < 3) = True := eq_true ⟨y1, y2⟩
    by_cases bs : s < 0 ∨ ¬ s < 6
    · have bs2 : (¬ s < 0 ∧ s < 6) = False := nrng bs
      rcases q_cases y1 y2 with rfl | rfl | rfl
      · skip
        simp only [o297_0, o297_1, o297_2, o297_3, o297_4, o297_7, o297_8, o297_11, o297_14, o297_16, o297_17, o297_18, o297_19, o65_0, o65_1, o65_2, o65_5, o65_6, o65_7, o65_10, o65_11, o65_14, o65_17, o65_18, o65_21, o65_22, o65_25, o65_26, o65_27, o65_28, o65_29, o65_32, o65_35, o65_36, o65_37, o65_40, o65_41, o65_44, o65_47, o189_0, o189_1, o189_2, o189_5, o189_8, o189_9, o189_12, o189_15, o189_16, o189_19, o189_20, o189_23, o189_26, o189_27, o189_28, o189_29, o189_32, o189_33, o189_34, o189_37, o189_40, o189_41, o189_42, o189_45, o189_46, o189_47, o189_48, o189_49, o189_50, o189_53, o189_56, o189_57, o189_58, o189_59, o189_60, o189_63, o189_66, hx_297_1, c_X5_checkSlot, c_X8_isSlot, c_X8_isThrown, c_X8_isThrown_, c_X8_isThrown__, c_X8_isQueue, c_queueOf_bad, c_queueOf_0, mc_pi, mc_pl, mc_pr, mc_pN, mc_pT, mc_pC, mn_pi, mn_pl, mn_pr, mn_pN, mn_pT, mn_pC, mi_pi, mi_pl, mi_pr, mi_pN, mi_pT, mi_pC, ml_pi, ml_pl, ml_pr, ml_pN, ml_pT, ml_pC, mr_pi, mr_pl, mr_pr, mr_pN, mr_pT, mr_pC, mt_pi, mt_pl, mt_pr, mt_pN, mt_pT, mt_pC, mz_pi, mz_pl, mz_pr, mz_pN, mz_pT, mz_pC, ma_pi, ma_pl, ma_pr, ma_pN, ma_pT, ma_pC, mcs_0, mcs_i, mcs_l, mcs_r, mcs_n, csum_rf, Kn_v, Kn_0, Kn_x, mrf_some, kok_0, true_and, and_true, false_and, and_false, true_or, or_true, or_false, false_or, not_true_eq_false, not_false_eq_true, true_implies, false_implies, implies_true, forall_const, if_true, if_false, and_self, Nat.reduceEqDiff, Nat.reduceLeDiff, Nat.reduceSub, Nat.reduceAdd, Nat.zero_le, Nat.le_refl, i10, i01, kz0, kz1, eq_self, lt_le, Classical.not_not, Int32.reduceLT, Int32.reduceAdd, Int32.reduceSub, Int32.reduceMul, cl0, cl1, cl2, cl3, cl4, cl5, cl6, cl7, cl8, cl9, cl10, cl11, cl12, cl13, cl14, cl15, cl16, cl17, cl18, cl19, cl20, cl21, cl22, cl23, cl24, cl25, cl26, cl27, cl28, cl29, cl30, cl31, cl32, cl33, cl34, cl35, cl36, cl37, cl38, cl39, lg_cmp_eq, Kc_v, Kc_0, Sum.inl.injEq, Option.some.injEq, Value.int.injEq, exists_eq_left', Nat.reduceLT, hAe, i20, i30, kc0, kc1, kc2, kc3, kc4, kc5, kc6, kc7, kc8, kc9, kc10, kc11, kc12, kc13, kc14, kc15, kc16, kc17, kc18, kc19, kc20, kc21, kc22, kc23, kc24, kc25, kc26, kc27, kc28, kc29, kc30, kc31, kc32, kc33, kc34, kc35, kc36, kc37, kc38, kc39, kn3, kn4, kn18, kn21, kn23, kn24, kn25, kn26, kn27, kn29, kn30, kr0_0, kr0_1, kr0_2, kr0_3, kr0_4, kr0_5, kr0_7, kr0_8, kr0_9, kr0_10, kr1_0, kr2_0, kr5_0, kr5_1, kr6_0, kr6_1, kr7_0, kr7_1, kr8_0, kr9_0, kr10_0, kr11_0, kr12_0, kr13_0, kr14_0, kr15_0, kr16_0, kr17_0, kr19_0, kr19_1, kr22_0, kr22_1, kr22_2, kr22_3, kr22_4, kr22_5, kr22_7, kr22_8, kr25_0, kr25_1, kr25_2, kr26_0, kr26_1, kr26_2, kr29_0, kr29_1, kz, ki5_2, ki6_2, ki7_2, ki8_1, ki8_2, ki8_3, ki9_1, ki9_2, ki9_3, ki10_1, ki10_2, ki10_3, ki11_1, ki11_2, ki11_3, ki12_1, ki12_2, ki12_3, ki13_1, ki13_2, ki13_3, ki14_1, ki14_2, ki14_3, ki28_0, ki28_1, ki31_0, ki31_1, ki32_0, ki32_1, ki33_0, ki33_1, ki34_0, ki34_1, ki35_0, ki35_1, ki36_0, ki36_1, bq0, bqq, vq3, bs, bs2]
        intro t ht
        first | refine ⟨⟨?_, ?_, ?_, ?_, ?_, ?_, ?_, ?_, ?_, ?_, ?_, ?_⟩, rfl⟩ | refine ⟨?_, ?_, ?_, ?_, ?_, ?_, ?_, ?_, ?_, ?_, ?_, ?_⟩
        · (try simp only [K_pi, K_pl, K_pC, K_cW, K_mW])
          exact K_pT ht vk
        · (try simp only [Cn_pi hA (j := 18) (by decide), Cn_pi hA (j := 22) (by decide), Cn_pi hA (j := 30) (by decide), Cn_pl, Cn_pT, Cn_pr])
          exact vcn
        · (try simp only [Vq0_pi hA (j := 18) (by decide), Vq0_pi hA (j := 22) (by decide), Vq0_pi hA (j := 30) (by decide), Vq0_pl, Vq0_pT, Vq0_pr])
          exact v0
        · (try simp only [Vq1_pi hA (j := 18) (by decide), Vq1_pi hA (j := 22) (by decide), Vq1_pi hA (j := 30) (by decide), Vq1_pl, Vq1_pT, Vq1_pr])
          exact v1
        · (try simp only [Vq2_pi hA (j := 18) (by decide), Vq2_pi hA (j := 22) (by decide), Vq2_pi hA (j := 30) (by decide), Vq2_pl, Vq2_pT, Vq2_pr])
          exact v2
        · (try simp only [Vp_pi hA (j := 18) (by decide), Vp_pi hA (j := 30) (by decide), Vp_thr hA, Vp_pl, Vp_pT, Vp_pr])
          exact vp
        · (try simp only [Vl0_pi hA (j := 18) (by decide), Vl0_pi hA (j := 22) (by decide), Vl0_pi hA (j := 30) (by decide), Vl0_pl, Vl0_pT, Vl0_pr])
          exact vl0
        · (try simp only [Vl1_pi hA (j := 18) (by decide), Vl1_pi hA (j := 22) (by decide), Vl1_pi hA (j := 30) (by decide), Vl1_pl, Vl1_pT, Vl1_pr])
          exact vl1
        · (try simp only [Vlr_pi hA (j := 18) (by decide), Vlr_pi hA (j := 22) (by decide), Vlr_pi hA (j := 30) (by decide), Vlr_pl hA (j := 39) (by decide), Vlr_pT, Vlr_pr])
          exact vlr
        · (try simp only [Vsr_pi hA (j := 18) (by decide), Vsr_pi hA (j := 22) (by decide), Vsr_pi hA (j := 30) (by decide), Vsr_pl hA (j := 39) (by decide), Vsr_pT, Vsr_pr])
          exact vsr
        · (try simp only [Vc_pi hA (j := 22) (by decide), Vc_pl, Vc_pT, Vc_pr])
          exact vc
        · (try simp only [Tx_pi hA (j := 18) (by decide), Tx_pi hA (j := 22) (by decide), Tx_pi hA (j := 30) (by decide), Tx_pl])
          exact Tx_pT ht tx
      · skip
        simp only [o297_0, o297_1, o297_2, o297_3, o297_4, o297_7, o297_8, o297_11, o297_14, o297_16, o297_17, o297_18, o297_19, o65_0, o65_1, o65_2, o65_5, o65_6, o65_7, o65_10, o65_11, o65_14, o65_17, o65_18, o65_21, o65_22, o65_25, o65_26, o65_27, o65_28, o65_29, o65_32, o65_35, o65_36, o65_37, o65_40, o65_41, o65_44, o65_47, o189_0, o189_1, o189_2, o189_5, o189_8, o189_9, o189_12, o189_15, o189_16, o189_19, o189_20, o189_23, o189_26, o189_27, o189_28, o189_29, o189_32, o189_33, o189_34, o189_37, o189_40, o189_41, o189_42, o189_45, o189_46, o189_47, o189_48, o189_49, o189_50, o189_53, o189_56, o189_57, o189_58, o189_59, o189_60, o189_63, o189_66, hx_297_1, c_X5_checkSlot, c_X8_isSlot, c_X8_isThrown, c_X8_isThrown_, c_X8_isThrown__, c_X8_isQueue, c_queueOf_bad, c_queueOf_1, mc_pi, mc_pl, mc_pr, mc_pN, mc_pT, mc_pC, mn_pi, mn_pl, mn_pr, mn_pN, mn_pT, mn_pC, mi_pi, mi_pl, mi_pr, mi_pN, mi_pT, mi_pC, ml_pi, ml_pl, ml_pr, ml_pN, ml_pT, ml_pC, mr_pi, mr_pl, mr_pr, mr_pN, mr_pT, mr_pC, mt_pi, mt_pl, mt_pr, mt_pN, mt_pT, mt_pC, mz_pi, mz_pl, mz_pr, mz_pN, mz_pT, mz_pC, ma_pi, ma_pl, ma_pr, ma_pN, ma_pT, ma_pC, mcs_0, mcs_i, mcs_l, mcs_r, mcs_n, csum_rf, Kn_v, Kn_0, Kn_x, mrf_some, kok_0, true_and, and_true, false_and, and_false, true_or, or_true, or_false, false_or, not_true_eq_false, not_false_eq_true, true_implies, false_implies, implies_true, forall_const, if_true, if_false, and_self, Nat.reduceEqDiff, Nat.reduceLeDiff, Nat.reduceSub, Nat.reduceAdd, Nat.zero_le, Nat.le_refl, i10, i01, kz0, kz1, eq_self, lt_le, Classical.not_not, Int32.reduceLT, Int32.reduceAdd, Int32.reduceSub, Int32.reduceMul, cl0, cl1, cl2, cl3, cl4, cl5, cl6, cl7, cl8, cl9, cl10, cl11, cl12, cl13, cl14, cl15, cl16, cl17, cl18, cl19, cl20, cl21, cl22, cl23, cl24, cl25, cl26, cl27, cl28, cl29, cl30, cl31, cl32, cl33, cl34, cl35, cl36, cl37, cl38, cl39, lg_cmp_eq, Kc_v, Kc_0, Sum.inl.injEq, Option.some.injEq, Value.int.injEq, exists_eq_left', Nat.reduceLT, hAe, i20, i30, kc0, kc1, kc2, kc3, kc4, kc5, kc6, kc7, kc8, kc9, kc10, kc11, kc12, kc13, kc14, kc15, kc16, kc17, kc18, kc19, kc20, kc21, kc22, kc23, kc24, kc25, kc26, kc27, kc28, kc29, kc30, kc31, kc32, kc33, kc34, kc35, kc36, kc37, kc38, kc39, kn3, kn4, kn18, kn21, kn23, kn24, kn25, kn26, kn27, kn29, kn30, kr0_0, kr0_1, kr0_2, kr0_3, kr0_4, kr0_5, kr0_7, kr0_8, kr0_9, kr0_10, kr1_0, kr2_0, kr5_0, kr5_1, kr6_0, kr6_1, kr7_0, kr7_1, kr8_0, kr9_0, kr10_0, kr11_0, kr12_0, kr13_0, kr14_0, kr15_0, kr16_0, kr17_0, kr19_0, kr19_1, kr22_0, kr22_1, kr22_2, kr22_3, kr22_4, kr22_5, kr22_7, kr22_8, kr25_0, kr25_1, kr25_2, kr26_0, kr26_1, kr26_2, kr29_0, kr29_1, kz, ki5_2, ki6_2, ki7_2, ki8_1, ki8_2, ki8_3, ki9_1, ki9_2, ki9_3, ki10_1, ki10_2, ki10_3, ki11_1, ki11_2, ki11_3, ki12_1, ki12_2, ki12_3, ki13_1, ki13_2, ki13_3, ki14_1, ki14_2, ki14_3, ki28_0, ki28_1, ki31_0, ki31_1, ki32_0, ki32_1, ki33_0, ki33_1, ki34_0, ki34_1, ki35_0, ki35_1, ki36_0, ki36_1, bq0, bqq, vq3, bs, bs2]
        intro t ht
        first | refine ⟨⟨?_, ?_, ?_, ?_, ?_, ?_, ?_, ?_, ?_, ?_, ?_, ?_⟩, rfl⟩ | refine ⟨?_, ?_, ?_, ?_, ?_, ?_, ?_, ?_, ?_, ?_, ?_, ?_⟩
        · (try simp only [K_pi, K_pl, K_pC, K_cW, K_mW])
          exact K_pT ht vk
        · (try simp only [Cn_pi hA (j := 18) (by decide), Cn_pi hA (j := 22) (by decide), Cn_pi hA (j := 30) (by decide), Cn_pl, Cn_pT, Cn_pr])
          exact vcn
        · (try simp only [Vq0_pi hA (j := 18) (by decide), Vq0_pi hA (j := 22) (by decide), Vq0_pi hA (j := 30) (by decide), Vq0_pl, Vq0_pT, Vq0_pr])
          exact v0
        · (try simp only [Vq1_pi hA (j := 18) (by decide), Vq1_pi hA (j := 22) (by decide), Vq1_pi hA (j := 30) (by decide), Vq1_pl, Vq1_pT, Vq1_pr])
          exact v1
        · (try simp only [Vq2_pi hA (j := 18) (by decide), Vq2_pi hA (j := 22) (by decide), Vq2_pi hA (j := 30) (by decide), Vq2_pl, Vq2_pT, Vq2_pr])
          exact v2
        · (try simp only [Vp_pi hA (j := 18) (by decide), Vp_pi hA (j := 30) (by decide), Vp_thr hA, Vp_pl, Vp_pT, Vp_pr])
          exact vp
        · (try simp only [Vl0_pi hA (j := 18) (by decide), Vl0_pi hA (j := 22) (by decide), Vl0_pi hA (j := 30) (by decide), Vl0_pl, Vl0_pT, Vl0_pr])
          exact vl0
        · (try simp only [Vl1_pi hA (j := 18) (by decide), Vl1_pi hA (j := 22) (by decide), Vl1_pi hA (j := 30) (by decide), Vl1_pl, Vl1_pT, Vl1_pr])
          exact vl1
        · (try simp only [Vlr_pi hA (j := 18) (by decide), Vlr_pi hA (j := 22) (by decide), Vlr_pi hA (j := 30) (by decide), Vlr_pl hA (j := 39) (by decide), Vlr_pT, Vlr_pr])
          exact vlr
        · (try simp only [Vsr_pi hA (j := 18) (by decide), Vsr_pi hA (j := 22) (by decide), Vsr_pi hA (j := 30) (by decide), Vsr_pl hA (j := 39) (by decide), Vsr_pT, Vsr_pr])
          exact vsr
        · (try simp only [Vc_pi hA (j := 22) (by decide), Vc_pl, Vc_pT, Vc_pr])
          exact vc
        · (try simp only [Tx_pi hA (j := 18) (by decide), Tx_pi hA (j := 22) (by decide), Tx_pi hA (j := 30) (by decide), Tx_pl])
          exact Tx_pT ht tx
      · skip
        simp only [o297_0, o297_1, o297_2, o297_3, o297_4, o297_7, o297_8, o297_11, o297_14, o297_16, o297_17, o297_18, o297_19, o65_0, o65_1, o65_2, o65_5, o65_6, o65_7, o65_10, o65_11, o65_14, o65_17, o65_18, o65_21, o65_22, o65_25, o65_26, o65_27, o65_28, o65_29, o65_32, o65_35, o65_36, o65_37, o65_40, o65_41, o65_44, o65_47, o189_0, o189_1, o189_2, o189_5, o189_8, o189_9, o189_12, o189_15, o189_16, o189_19, o189_20, o189_23, o189_26, o189_27, o189_28, o189_29, o189_32, o189_33, o189_34, o189_37, o189_40, o189_41, o189_42, o189_45, o189_46, o189_47, o189_48, o189_49, o189_50, o189_53, o189_56, o189_57, o189_58, o189_59, o189_60, o189_63, o189_66, hx_297_1, c_X5_checkSlot, c_X8_isSlot, c_X8_isThrown, c_X8_isThrown_, c_X8_isThrown__, c_X8_isQueue, c_queueOf_bad, c_queueOf_2, mc_pi, mc_pl, mc_pr, mc_pN, mc_pT, mc_pC, mn_pi, mn_pl, mn_pr, mn_pN, mn_pT, mn_pC, mi_pi, mi_pl, mi_pr, mi_pN, mi_pT, mi_pC, ml_pi, ml_pl, ml_pr, ml_pN, ml_pT, ml_pC, mr_pi, mr_pl, mr_pr, mr_pN, mr_pT, mr_pC, mt_pi, mt_pl, mt_pr, mt_pN, mt_pT, mt_pC, mz_pi, mz_pl, mz_pr, mz_pN, mz_pT, mz_pC, ma_pi, ma_pl, ma_pr, ma_pN, ma_pT, ma_pC, mcs_0, mcs_i, mcs_l, mcs_r, mcs_n, csum_rf, Kn_v, Kn_0, Kn_x, mrf_some, kok_0, true_and, and_true, false_and, and_false, true_or, or_true, or_false, false_or, not_true_eq_false, not_false_eq_true, true_implies, false_implies, implies_true, forall_const, if_true, if_false, and_self, Nat.reduceEqDiff, Nat.reduceLeDiff, Nat.reduceSub, Nat.reduceAdd, Nat.zero_le, Nat.le_refl, i10, i01, kz0, kz1, eq_self, lt_le, Classical.not_not, Int32.reduceLT, Int32.reduceAdd, Int32.reduceSub, Int32.reduceMul, cl0, cl1, cl2, cl3, cl4, cl5, cl6, cl7, cl8, cl9, cl10, cl11, cl12, cl13, cl14, cl15, cl16, cl17, cl18, cl19, cl20, cl21, cl22, cl23, cl24, cl25, cl26, cl27, cl28, cl29, cl30, cl31, cl32, cl33, cl34, cl35, cl36, cl37, cl38, cl39, lg_cmp_eq, Kc_v, Kc_0, Sum.inl.injEq, Option.some.injEq, Value.int.injEq, exists_eq_left', Nat.reduceLT, hAe, i20, i30, kc0, kc1, kc2, kc3, kc4, kc5, kc6, kc7, kc8, kc9, kc10, kc11, kc12, kc13, kc14, kc15, kc16, kc17, kc18, kc19, kc20, kc21, kc22, kc23, kc24, kc25, kc26, kc27, kc28, kc29, kc30, kc31, kc32, kc33, kc34, kc35, kc36, kc37, kc38, kc39, kn3, kn4, kn18, kn21, kn23, kn24, kn25, kn26, kn27, kn29, kn30, kr0_0, kr0_1, kr0_2, kr0_3, kr0_4, kr0_5, kr0_7, kr0_8, kr0_9, kr0_10, kr1_0, kr2_0, kr5_0, kr5_1, kr6_0, kr6_1, kr7_0, kr7_1, kr8_0, kr9_0, kr10_0, kr11_0, kr12_0, kr13_0, kr14_0, kr15_0, kr16_0, kr17_0, kr19_0, kr19_1, kr22_0, kr22_1, kr22_2, kr22_3, kr22_4, kr22_5, kr22_7, kr22_8, kr25_0, kr25_1, kr25_2, kr26_0, kr26_1, kr26_2, kr29_0, kr29_1, kz, ki5_2, ki6_2, ki7_2, ki8_1, ki8_2, ki8_3, ki9_1, ki9_2, ki9_3, ki10_1, ki10_2, ki10_3, ki11_1, ki11_2, ki11_3, ki12_1, ki12_2, ki12_3, ki13_1, ki13_2, ki13_3, ki14_1, ki14_2, ki14_3, ki28_0, ki28_1, ki31_0, ki31_1, ki32_0, ki32_1, ki33_0, ki33_1, ki34_0, ki34_1, ki35_0, ki35_1, ki36_0, ki36_1, bq0, bqq, vq3, bs, bs2]
        intro t ht
        first | refine ⟨⟨?_, ?_, ?_, ?_, ?_, ?_, ?_, ?_, ?_, ?_, ?_, ?_⟩, rfl⟩ | refine ⟨?_, ?_, ?_, ?_, ?_, ?_, ?_, ?_, ?_, ?_, ?_, ?_⟩
        · (try simp only [K_pi, K_pl, K_pC, K_cW, K_mW])
          exact K_pT ht vk
        · (try simp only [Cn_pi hA (j := 18) (by decide), Cn_pi hA (j := 22) (by decide), Cn_pi hA (j := 30) (by decide), Cn_pl, Cn_pT, Cn_pr])
          exact vcn
        · (try simp only [Vq0_pi hA (j := 18) (by decide), Vq0_pi hA (j := 22) (by decide), Vq0_pi hA (j := 30) (by decide), Vq0_pl, Vq0_pT, Vq0_pr])
          exact v0
        · (try simp only [Vq1_pi hA (j := 18) (by decide), Vq1_pi hA (j := 22) (by decide), Vq1_pi hA (j := 30) (by decide), Vq1_pl, Vq1_pT, Vq1_pr])
          exact v1
        · (try simp only [Vq2_pi hA (j := 18) (by decide), Vq2_pi hA (j := 22) (by decide), Vq2_pi hA (j := 30) (by decide), Vq2_pl, Vq2_pT, Vq2_pr])
          exact v2
        · (try simp only [Vp_pi hA (j := 18) (by decide), Vp_pi hA (j := 30) (by decide), Vp_thr hA, Vp_pl, Vp_pT, Vp_pr])
          exact vp
        · (try simp only [Vl0_pi hA (j := 18) (by decide), Vl0_pi hA (j := 22) (by decide), Vl0_pi hA (j := 30) (by decide), Vl0_pl, Vl0_pT, Vl0_pr])
          exact vl0
        · (try simp only [Vl1_pi hA (j := 18) (by decide), Vl1_pi hA (j := 22) (by decide), Vl1_pi hA (j := 30) (by decide), Vl1_pl, Vl1_pT, Vl1_pr])
          exact vl1
        · (try simp only [Vlr_pi hA (j := 18) (by decide), Vlr_pi hA (j := 22) (by decide), Vlr_pi hA (j := 30) (by decide), Vlr_pl hA (j := 39) (by decide), Vlr_pT, Vlr_pr])
          exact vlr
        · (try simp only [Vsr_pi hA (j := 18) (by decide), Vsr_pi hA (j := 22) (by decide), Vsr_pi hA (j := 30) (by decide), Vsr_pl hA (j := 39) (by decide), Vsr_pT, Vsr_pr])
          exact vsr
        · (try simp only [Vc_pi hA (j := 22) (by decide), Vc_pl, Vc_pT, Vc_pr])
          exact vc
        · (try simp only [Tx_pi hA (j := 18) (by decide), Tx_pi hA (j := 22) (by decide), Tx_pi hA (j := 30) (by decide), Tx_pl])
          exact Tx_pT ht tx
    · have s1 : ¬ s < 0 := fun z => bs (Or.inl z)
      have s2 : s < 6 := Classical.byContradiction fun z => bs (Or.inr z)
      have hs := ix_ok s1 s2
      have hs2 := hs
      obtain ⟨⟨j0, j1, j2, j3⟩, d01, d02, d03, d10, d12, d13, d20, d21, d23, d30, d31, d32⟩ := hs2
      obtain ⟨l0, l1, l2, l3⟩ := ix_lt hs
      have vs0 := (vsr _ l0).1
      have vs1 := (vsr _ l1).1
      have vs2 := (vsr _ l2).1
      have vs3 := (vsr _ l3).1
      have bs2 : (¬ s < 0 ∧ s < 6) = True := eq_true ⟨s1, s2⟩
      rcases q_cases y1 y2 with rfl | rfl | rfl
      · have he := v0.1
        have hm := v0.2
        have hT : mT h (A 27) 0 (A 31) (A 34) = cT h (A 5) (A 8) (A 9) := he.symm
        have he2 := he
        simp only [cT, mT, Prod.mk.injEq] at he2
        obtain ⟨g1, g2, g3, g4, g5, g6, g7⟩ := he2
        replace g1 := g1.symm
        replace g2 := g2.symm
        replace g3 := g3.symm
        replace g4 := g4.symm
        replace g5 := g5.symm
        replace g6 := g6.symm
        replace g7 := g7.symm
        obtain ⟨hmk, har, hl0, hl9⟩ := qA_0 _ hm
        have hark : arok 0 (g_i h (A 5) 3) := fun z => absurd (by decide) z
        have n1 : ¬ A 8 = A 9 := fun z => absurd ((hAe 8 9 (by decide) (by decide)).mp z) (by decide)
        by_cases e0 : g_i h (A 9) 5 - g_i h (A 9) 4 = 0
        · skip
          simp only [o297_0, o297_1, o297_2, o297_3, o297_4, o297_7, o297_8, o297_11, o297_14, o297_16, o297_17, o297_18, o297_19, o65_0, o65_1, o65_2, o65_5, o65_6, o65_7, o65_10, o65_11, o65_14, o65_17, o65_18, o65_21, o65_22, o65_25, o65_26, o65_27, o65_28, o65_29, o65_32, o65_35, o65_36, o65_37, o65_40, o65_41, o65_44, o65_47, o189_0, o189_1, o189_2, o189_5, o189_8, o189_9, o189_12, o189_15, o189_16, o189_19, o189_20, o189_23, o189_26, o189_27, o189_28, o189_29, o189_32, o189_33, o189_34, o189_37, o189_40, o189_41, o189_42, o189_45, o189_46, o189_47, o189_48, o189_49, o189_50, o189_53, o189_56, o189_57, o189_58, o189_59, o189_60, o189_63, o189_66, hx_297_1, c_X5_checkSlot, c_X8_isSlot, c_X8_isThrown, c_X8_isThrown_, c_X8_isThrown__, c_X8_isQueue, c_queueOf_bad, c_queueOf_0, c_X1_hasNone (w := A 8) (r := A 9), c_ref_2 (cs := A 18), c_X7_rests, c_X8_no (cs := A 30), mc_pi, mc_pl, mc_pr, mc_pN, mc_pT, mc_pC, mn_pi, mn_pl, mn_pr, mn_pN, mn_pT, mn_pC, mi_pi, mi_pl, mi_pr, mi_pN, mi_pT, mi_pC, ml_pi, ml_pl, ml_pr, ml_pN, ml_pT, ml_pC, mr_pi, mr_pl, mr_pr, mr_pN, mr_pT, mr_pC, mt_pi, mt_pl, mt_pr, mt_pN, mt_pT, mt_pC, mz_pi, mz_pl, mz_pr, mz_pN, mz_pT, mz_pC, ma_pi, ma_pl, ma_pr, ma_pN, ma_pT, ma_pC, mcs_0, mcs_i, mcs_l, mcs_r, mcs_n, csum_rf, Kn_v, Kn_0, Kn_x, mrf_some, kok_0, true_and, and_true, false_and, and_false, true_or, or_true, or_false, false_or, not_true_eq_false, not_false_eq_true, true_implies, false_implies, implies_true, forall_const, if_true, if_false, and_self, Nat.reduceEqDiff, Nat.reduceLeDiff, Nat.reduceSub, Nat.reduceAdd, Nat.zero_le, Nat.le_refl, i10, i01, kz0, kz1, eq_self, lt_le, Classical.not_not, Int32.reduceLT, Int32.reduceAdd, Int32.reduceSub, Int32.reduceMul, cl0, cl1, cl2, cl3, cl4, cl5, cl6, cl7, cl8, cl9, cl10, cl11, cl12, cl13, cl14, cl15, cl16, cl17, cl18, cl19, cl20, cl21, cl22, cl23, cl24, cl25, cl26, cl27, cl28, cl29, cl30, cl31, cl32, cl33, cl34, cl35, cl36, cl37, cl38, cl39, lg_cmp_eq, Kc_v, Kc_0, Sum.inl.injEq, Option.some.injEq, Value.int.injEq, exists_eq_left', Nat.reduceLT, hAe, i20, i30, kc0, kc1, kc2, kc3, kc4, kc5, kc6, kc7, kc8, kc9, kc10, kc11, kc12, kc13, kc14, kc15, kc16, kc17, kc18, kc19, kc20, kc21, kc22, kc23, kc24, kc25, kc26, kc27, kc28, kc29, kc30, kc31, kc32, kc33, kc34, kc35, kc36, kc37, kc38, kc39, kn3, kn4, kn18, kn21, kn23, kn24, kn25, kn26, kn27, kn29, kn30, kr0_0, kr0_1, kr0_2, kr0_3, kr0_4, kr0_5, kr0_7, kr0_8, kr0_9, kr0_10, kr1_0, kr2_0, kr5_0, kr5_1, kr6_0, kr6_1, kr7_0, kr7_1, kr8_0, kr9_0, kr10_0, kr11_0, kr12_0, kr13_0, kr14_0, kr15_0, kr16_0, kr17_0, kr19_0, kr19_1, kr22_0, kr22_1, kr22_2, kr22_3, kr22_4, kr22_5, kr22_7, kr22_8, kr25_0, kr25_1, kr25_2, kr26_0, kr26_1, kr26_2, kr29_0, kr29_1, kz, ki5_2, ki6_2, ki7_2, ki8_1, ki8_2, ki8_3, ki9_1, ki9_2, ki9_3, ki10_1, ki10_2, ki10_3, ki11_1, ki11_2, ki11_3, ki12_1, ki12_2, ki12_3, ki13_1, ki13_2, ki13_3, ki14_1, ki14_2, ki14_3, ki28_0, ki28_1, ki31_0, ki31_1, ki32_0, ki32_1, ki33_0, ki33_1, ki34_0, ki34_1, ki35_0, ki35_1, ki36_0, ki36_1, bq0, bqq, vq3, hT, g1, g2, g3, g4, g5, g6, g7, hark, Int32.reduceLT, cl0, cl1, cl2, s1, s2, bs2, hs, d01, d02, d03, d10, d12, d13, d20, d21, d23, d30, d31, d32, vs0, vs1, vs2, vs3, i64_inj, i64_back, fo0, fo1, fo2, fo3, nm_eq, e0, v18]
          first | refine ⟨⟨?_, ?_, ?_, ?_, ?_, ?_, ?_, ?_, ?_, ?_, ?_, ?_⟩, rfl⟩ | refine ⟨?_, ?_, ?_, ?_, ?_, ?_, ?_, ?_, ?_, ?_, ?_, ?_⟩
          · (try simp only [K_pi, K_pl, K_pC, K_cW, K_mW])
            exact vk
          · (try simp only [Cn_pi hA (j := 18) (by decide), Cn_pi hA (j := 22) (by decide), Cn_pi hA (j := 30) (by decide), Cn_pl, Cn_pT, Cn_pr])
            exact vcn
          · (try simp only [Vq0_pi hA (j := 18) (by decide), Vq0_pi hA (j := 22) (by decide), Vq0_pi hA (j := 30) (by decide), Vq0_pl, Vq0_pT, Vq0_pr])
            exact v0
          · (try simp only [Vq1_pi hA (j := 18) (by decide), Vq1_pi hA (j := 22) (by decide), Vq1_pi hA (j := 30) (by decide), Vq1_pl, Vq1_pT, Vq1_pr])
            exact v1
          · (try simp only [Vq2_pi hA (j := 18) (by decide), Vq2_pi hA (j := 22) (by decide), Vq2_pi hA (j := 30) (by decide), Vq2_pl, Vq2_pT, Vq2_pr])
            exact v2
          · (try simp only [Vp_pi hA (j := 18) (by decide), Vp_pi hA (j := 30) (by decide), Vp_thr hA, Vp_pl, Vp_pT, Vp_pr])
            exact vp
          · (try simp only [Vl0_pi hA (j := 18) (by decide), Vl0_pi hA (j := 22) (by decide), Vl0_pi hA (j := 30) (by decide), Vl0_pl, Vl0_pT, Vl0_pr])
            exact vl0
          · (try simp only [Vl1_pi hA (j := 18) (by decide), Vl1_pi hA (j := 22) (by decide), Vl1_pi hA (j := 30) (by decide), Vl1_pl, Vl1_pT, Vl1_pr])
            exact vl1
          · (try simp only [Vlr_pi hA (j := 18) (by decide), Vlr_pi hA (j := 22) (by decide), Vlr_pi hA (j := 30) (by decide), Vlr_pl hA (j := 39) (by decide), Vlr_pT, Vlr_pr])
            exact vlr
          · (try simp only [Vsr_pi hA (j := 18) (by decide), Vsr_pi hA (j := 22) (by decide), Vsr_pi hA (j := 30) (by decide), Vsr_pl hA (j := 39) (by decide), Vsr_pT, Vsr_pr])
            exact vsr
          · refine Vc_of (c := 2) vc (by decide) (fun k => ?_) (fun k => ?_) <;> simp only [l_cW, l_mW, mi_pi, mi_pl, ml_pi, ml_pl, mi_pT, ml_pT, mi_pr, ml_pr, hAe, Nat.reduceLT, Nat.reduceEqDiff, false_and, and_false, true_and, and_true, if_false, if_true, eq_self]
          · (try simp only [Tx_pi hA (j := 18) (by decide), Tx_pi hA (j := 22) (by decide), Tx_pi hA (j := 30) (by decide), Tx_pl])
            exact tx
        · obtain ⟨i1, i2, hj, hq9⟩ := (qO_0 _ hm).resolve_left e0
          simp only [cT] at i1 i2 hj
          have hj2 := hj.2.2
          have vlk := (vlr _ (rdy_lt hj)).symm
          simp only [o297_0, o297_1, o297_2, o297_3, o297_4, o297_7, o297_8, o297_11, o297_14, o297_16, o297_17, o297_18, o297_19, o65_0, o65_1, o65_2, o65_5, o65_6, o65_7, o65_10, o65_11, o65_14, o65_17, o65_18, o65_21, o65_22, o65_25, o65_26, o65_27, o65_28, o65_29, o65_32, o65_35, o65_36, o65_37, o65_40, o65_41, o65_44, o65_47, o189_0, o189_1, o189_2, o189_5, o189_8, o189_9, o189_12, o189_15, o189_16, o189_19, o189_20, o189_23, o189_26, o189_27, o189_28, o189_29, o189_32, o189_33, o189_34, o189_37, o189_40, o189_41, o189_42, o189_45, o189_46, o189_47, o189_48, o189_49, o189_50, o189_53, o189_56, o189_57, o189_58, o189_59, o189_60, o189_63, o189_66, hx_297_1, c_X5_checkSlot, c_X8_isSlot, c_X8_isThrown, c_X8_isThrown_, c_X8_isThrown__, c_X8_isQueue, c_queueOf_bad, c_queueOf_0, c_X1_hasNone (w := A 8) (r := A 9), c_X7_rests, c_X1_goOut (w := A 8) (r := A 9) (rw := A 1) (cs := A 3) (n := 16) (sz := 5) (ring := 1), c_X1_lying (w := A 8) (r := A 9), c_X8_goOut (x2 := A 25) (x3 := A 26) (a := A 27) (w := A 31) (r := A 34) (lr := A 23) (sz := 5), c_X8_liesOf (x2 := A 25) (x3 := A 26) (a := A 27) (w := A 31) (r := A 34), c_X5_layNumber (rw := A 2) (cs := A 4), c_X8_laid (sr := A 24), c_X0_done (cs := A 18), c_X8_done (cs := A 30), mc_pi, mc_pl, mc_pr, mc_pN, mc_pT, mc_pC, mn_pi, mn_pl, mn_pr, mn_pN, mn_pT, mn_pC, mi_pi, mi_pl, mi_pr, mi_pN, mi_pT, mi_pC, ml_pi, ml_pl, ml_pr, ml_pN, ml_pT, ml_pC, mr_pi, mr_pl, mr_pr, mr_pN, mr_pT, mr_pC, mt_pi, mt_pl, mt_pr, mt_pN, mt_pT, mt_pC, mz_pi, mz_pl, mz_pr, mz_pN, mz_pT, mz_pC, ma_pi, ma_pl, ma_pr, ma_pN, ma_pT, ma_pC, mcs_0, mcs_i, mcs_l, mcs_r, mcs_n, csum_rf, Kn_v, Kn_0, Kn_x, mrf_some, kok_0, true_and, and_true, false_and, and_false, true_or, or_true, or_false, false_or, not_true_eq_false, not_false_eq_true, true_implies, false_implies, implies_true, forall_const, if_true, if_false, and_self, Nat.reduceEqDiff, Nat.reduceLeDiff, Nat.reduceSub, Nat.reduceAdd, Nat.zero_le, Nat.le_refl, i10, i01, kz0, kz1, eq_self, lt_le, Classical.not_not, Int32.reduceLT, Int32.reduceAdd, Int32.reduceSub, Int32.reduceMul, cl0, cl1, cl2, cl3, cl4, cl5, cl6, cl7, cl8, cl9, cl10, cl11, cl12, cl13, cl14, cl15, cl16, cl17, cl18, cl19, cl20, cl21, cl22, cl23, cl24, cl25, cl26, cl27, cl28, cl29, cl30, cl31, cl32, cl33, cl34, cl35, cl36, cl37, cl38, cl39, lg_cmp_eq, Kc_v, Kc_0, Sum.inl.injEq, Option.some.injEq, Value.int.injEq, exists_eq_left', Nat.reduceLT, hAe, i20, i30, kc0, kc1, kc2, kc3, kc4, kc5, kc6, kc7, kc8, kc9, kc10, kc11, kc12, kc13, kc14, kc15, kc16, kc17, kc18, kc19, kc20, kc21, kc22, kc23, kc24, kc25, kc26, kc27, kc28, kc29, kc30, kc31, kc32, kc33, kc34, kc35, kc36, kc37, kc38, kc39, kn3, kn4, kn18, kn21, kn23, kn24, kn25, kn26, kn27, kn29, kn30, kr0_0, kr0_1, kr0_2, kr0_3, kr0_4, kr0_5, kr0_7, kr0_8, kr0_9, kr0_10, kr1_0, kr2_0, kr5_0, kr5_1, kr6_0, kr6_1, kr7_0, kr7_1, kr8_0, kr9_0, kr10_0, kr11_0, kr12_0, kr13_0, kr14_0, kr15_0, kr16_0, kr17_0, kr19_0, kr19_1, kr22_0, kr22_1, kr22_2, kr22_3, kr22_4, kr22_5, kr22_7, kr22_8, kr25_0, kr25_1, kr25_2, kr26_0, kr26_1, kr26_2, kr29_0, kr29_1, kz, ki5_2, ki6_2, ki7_2, ki8_1, ki8_2, ki8_3, ki9_1, ki9_2, ki9_3, ki10_1, ki10_2, ki10_3, ki11_1, ki11_2, ki11_3, ki12_1, ki12_2, ki12_3, ki13_1, ki13_2, ki13_3, ki14_1, ki14_2, ki14_3, ki28_0, ki28_1, ki31_0, ki31_1, ki32_0, ki32_1, ki33_0, ki33_1, ki34_0, ki34_1, ki35_0, ki35_1, ki36_0, ki36_1, bq0, bqq, vq3, hT, g1, g2, g3, g4, g5, g6, g7, hark, Int32.reduceLT, cl0, cl1, cl2, s1, s2, bs2, hs, d01, d02, d03, d10, d12, d13, d20, d21, d23, d30, d31, d32, vs0, vs1, vs2, vs3, i64_inj, i64_back, fo0, fo1, fo2, fo3, nm_eq, c_cW, n_cW, r_cW, z_cW, t_cW, a_cW, l_cW, i_cW_q2, i_cW_w1, i_cW_w2, i_cW_w3, i_cW_r1, i_cW_r2, i_cW_r3, c_mW, n_mW, r_mW, z_mW, t_mW, a_mW, l_mW, i_mW_w0, i_mW_w1, i_mW_w2, i_mW_r0, i_mW_r1, i_mW_r2, icw0 hA (j := 0) (by decide), imw0 hA (j := 0) (by decide), icw0 hA (j := 14) (by decide), imw0 hA (j := 14) (by decide), icw0 hA (j := 15) (by decide), imw0 hA (j := 15) (by decide), icw0 hA (j := 16) (by decide), imw0 hA (j := 16) (by decide), icw0 hA (j := 18) (by decide), imw0 hA (j := 18) (by decide), icw0 hA (j := 22) (by decide), imw0 hA (j := 22) (by decide), icw0 hA (j := 24) (by decide), imw0 hA (j := 24) (by decide), icw0 hA (j := 28) (by decide), imw0 hA (j := 28) (by decide), icw0 hA (j := 30) (by decide), imw0 hA (j := 30) (by decide), icw0 hA (j := 27) (by decide), icw0 hA (j := 31) (by decide), icw0 hA (j := 32) (by decide), imw0 hA (j := 32) (by decide), icw0 hA (j := 33) (by decide), imw0 hA (j := 33) (by decide), icw0 hA (j := 34) (by decide), icw0 hA (j := 35) (by decide), imw0 hA (j := 35) (by decide), icw0 hA (j := 36) (by decide), imw0 hA (j := 36) (by decide), icw0 hA (j := 37) (by decide), imw0 hA (j := 37) (by decide), icw0 hA (j := 38) (by decide), imw0 hA (j := 38) (by decide), cT0_pi hA (j := 18) (by decide), mT0_pi hA (j := 18) (by decide), cT0_pi hA (j := 22) (by decide), mT0_pi hA (j := 22) (by decide), cT0_pi hA (j := 30) (by decide), mT0_pi hA (j := 30) (by decide), cT0_pi hA (j := 24) (by decide), mT0_pi hA (j := 24) (by decide), cT0_pl, mT0_pl, cT0_pT, mT0_pT, cT0_cW hA, mT0_cW hA, mT0_mW hA, cT0_mW hA, e0, i1, i2, hj, hj2, n1, vlk]
          first | refine ⟨⟨?_, ?_, ?_, ?_, ?_, ?_, ?_, ?_, ?_, ?_, ?_, ?_⟩, rfl⟩ | refine ⟨?_, ?_, ?_, ?_, ?_, ?_, ?_, ?_, ?_, ?_, ?_, ?_⟩
          · (try simp only [K_pi, K_pl, K_pC, K_cW, K_mW])
            exact vk
          · (try simp only [Cn_pi hA (j := 18) (by decide), Cn_pi hA (j := 22) (by decide), Cn_pi hA (j := 30) (by decide), Cn_pi hA (j := 24) (by decide), Cn_pl, Cn_pT, Cn_pr, Cn_cW0 hA, Cn_mW0 hA])
            exact vcn
          · simp only [Vq0_pi hA (j := 18) (by decide), Vq0_pi hA (j := 22) (by decide), Vq0_pi hA (j := 30) (by decide), Vq0_pi hA (j := 24) (by decide), Vq0_pl, Vq0_pT, Vq0_pr, Vq0_mW hA, cT0_pi hA (j := 18) (by decide), mT0_pi hA (j := 18) (by decide), cT0_pi hA (j := 22) (by decide), mT0_pi hA (j := 22) (by decide), cT0_pi hA (j := 30) (by decide), mT0_pi hA (j := 30) (by decide), cT0_pi hA (j := 24) (by decide), mT0_pi hA (j := 24) (by decide), cT0_pl, mT0_pl, cT0_pT, mT0_pT, cT0_cW hA, mT0_cW hA, mT0_mW hA, cT0_mW hA]
            exact ⟨trivial, hq9⟩
          · (try simp only [Vq1_pi hA (j := 18) (by decide), Vq1_pi hA (j := 22) (by decide), Vq1_pi hA (j := 30) (by decide), Vq1_pi hA (j := 24) (by decide), Vq1_pl, Vq1_pT, Vq1_pr, Vq1_cW0 hA, Vq1_mW0 hA])
            exact v1
          · (try simp only [Vq2_pi hA (j := 18) (by decide), Vq2_pi hA (j := 22) (by decide), Vq2_pi hA (j := 30) (by decide), Vq2_pi hA (j := 24) (by decide), Vq2_pl, Vq2_pT, Vq2_pr, Vq2_cW0 hA, Vq2_mW0 hA])
            exact v2
          · (try simp only [Vp_pi hA (j := 18) (by decide), Vp_pi hA (j := 30) (by decide), Vp_pi hA (j := 24) (by decide), Vp_thr hA, Vp_pl, Vp_pT, Vp_pr, Vp_cW0 hA, Vp_mW0 hA])
            exact vp
          · (try simp only [Vl0_pi hA (j := 18) (by decide), Vl0_pi hA (j := 22) (by decide), Vl0_pi hA (j := 30) (by decide), Vl0_pi hA (j := 24) (by decide), Vl0_pl, Vl0_pT, Vl0_pr, Vl0_cW0 hA, Vl0_mW0 hA])
            exact vl0
          · (try simp only [Vl1_pi hA (j := 18) (by decide), Vl1_pi hA (j := 22) (by decide), Vl1_pi hA (j := 30) (by decide), Vl1_pi hA (j := 24) (by decide), Vl1_pl, Vl1_pT, Vl1_pr, Vl1_cW0 hA, Vl1_mW0 hA])
            exact vl1
          · (try simp only [Vlr_pi hA (j := 18) (by decide), Vlr_pi hA (j := 22) (by decide), Vlr_pi hA (j := 30) (by decide), Vlr_pi hA (j := 24) (by decide), Vlr_pl hA (j := 39) (by decide), Vlr_pl hA (j := 4) (by decide), Vlr_pT, Vlr_pr, Vlr_cW0 hA, Vlr_mW0 hA])
            exact vlr
          · simp only [Vsr_pi hA (j := 18) (by decide), Vsr_pi hA (j := 22) (by decide), Vsr_pi hA (j := 30) (by decide), Vsr_pl hA (j := 39) (by decide), Vsr_pT, Vsr_pr]
            refine Vsr_nest vsr (fun k => ?_) (fun k => ?_) <;> simp only [l_cW, l_mW, mi_pi, mi_pl, ml_pi, ml_pl, mi_pT, ml_pT, mi_pr, ml_pr, hAe, Nat.reduceLT, Nat.reduceEqDiff, false_and, and_false, true_and, and_true, if_false, if_true, eq_self, icw0 hA (j := 0) (by decide), imw0 hA (j := 0) (by decide), icw0 hA (j := 14) (by decide), imw0 hA (j := 14) (by decide), icw0 hA (j := 15) (by decide), imw0 hA (j := 15) (by decide), icw0 hA (j := 16) (by decide), imw0 hA (j := 16) (by decide), icw0 hA (j := 18) (by decide), imw0 hA (j := 18) (by decide), icw0 hA (j := 22) (by decide), imw0 hA (j := 22) (by decide), icw0 hA (j := 24) (by decide), imw0 hA (j := 24) (by decide), icw0 hA (j := 28) (by decide), imw0 hA (j := 28) (by decide), icw0 hA (j := 30) (by decide), imw0 hA (j := 30) (by decide), icw0 hA (j := 27) (by decide), icw0 hA (j := 31) (by decide), icw0 hA (j := 32) (by decide), imw0 hA (j := 32) (by decide), icw0 hA (j := 33) (by decide), imw0 hA (j := 33) (by decide), icw0 hA (j := 34) (by decide), icw0 hA (j := 35) (by decide), imw0 hA (j := 35) (by decide), icw0 hA (j := 36) (by decide), imw0 hA (j := 36) (by decide), icw0 hA (j := 37) (by decide), imw0 hA (j := 37) (by decide), icw0 hA (j := 38) (by decide), imw0 hA (j := 38) (by decide)]
          · refine Vc_of (c := 0) vc (by decide) (fun k => ?_) (fun k => ?_) <;> simp only [l_cW, l_mW, mi_pi, mi_pl, ml_pi, ml_pl, mi_pT, ml_pT, mi_pr, ml_pr, hAe, Nat.reduceLT, Nat.reduceEqDiff, false_and, and_false, true_and, and_true, if_false, if_true, eq_self, icw0 hA (j := 0) (by decide), imw0 hA (j := 0) (by decide), icw0 hA (j := 14) (by decide), imw0 hA (j := 14) (by decide), icw0 hA (j := 15) (by decide), imw0 hA (j := 15) (by decide), icw0 hA (j := 16) (by decide), imw0 hA (j := 16) (by decide), icw0 hA (j := 18) (by decide), imw0 hA (j := 18) (by decide), icw0 hA (j := 22) (by decide), imw0 hA (j := 22) (by decide), icw0 hA (j := 24) (by decide), imw0 hA (j := 24) (by decide), icw0 hA (j := 28) (by decide), imw0 hA (j := 28) (by decide), icw0 hA (j := 30) (by decide), imw0 hA (j := 30) (by decide), icw0 hA (j := 27) (by decide), icw0 hA (j := 31) (by decide), icw0 hA (j := 32) (by decide), imw0 hA (j := 32) (by decide), icw0 hA (j := 33) (by decide), imw0 hA (j := 33) (by decide), icw0 hA (j := 34) (by decide), icw0 hA (j := 35) (by decide), imw0 hA (j := 35) (by decide), icw0 hA (j := 36) (by decide), imw0 hA (j := 36) (by decide), icw0 hA (j := 37) (by decide), imw0 hA (j := 37) (by decide), icw0 hA (j := 38) (by decide), imw0 hA (j := 38) (by decide)]
          · (try simp only [Tx_pi hA (j := 18) (by decide), Tx_pi hA (j := 22) (by decide), Tx_pi hA (j := 30) (by decide), Tx_pi hA (j := 24) (by decide), Tx_pl, Tx_cW0 hA, Tx_mW0 hA])
            exact tx
      · have he := v1.1
        have hm := v1.2
        have hT : mT h (A 27) 1 (A 32) (A 35) = cT h (A 6) (A 10) (A 11) := he.symm
        have he2 := he
        simp only [cT, mT, Prod.mk.injEq] at he2
        obtain ⟨g1, g2, g3, g4, g5, g6, g7⟩ := he2
        replace g1 := g1.symm
        replace g2 := g2.symm
        replace g3 := g3.symm
        replace g4 := g4.symm
        replace g5 := g5.symm
        replace g6 := g6.symm
        replace g7 := g7.symm
        obtain ⟨hmk, har, hl0, hl9⟩ := qA_1 _ hm
        have hark : arok 1 (g_i h (A 6) 3) := fun z => absurd (by decide) z
        have n1 : ¬ A 10 = A 11 := fun z => absurd ((hAe 10 11 (by decide) (by decide)).mp z) (by decide)
        by_cases e0 : g_i h (A 11) 5 - g_i h (A 11) 4 = 0
        · skip
          simp only [o297_0, o297_1, o297_2, o297_3, o297_4, o297_7, o297_8, o297_11, o297_14, o297_16, o297_17, o297_18, o297_19, o65_0, o65_1, o65_2, o65_5, o65_6, o65_7, o65_10, o65_11, o65_14, o65_17, o65_18, o65_21, o65_22, o65_25, o65_26, o65_27, o65_28, o65_29, o65_32, o65_35, o65_36, o65_37, o65_40, o65_41, o65_44, o65_47, o189_0, o189_1, o189_2, o189_5, o189_8, o189_9, o189_12, o189_15, o189_16, o189_19, o189_20, o189_23, o189_26, o189_27, o189_28, o189_29, o189_32, o189_33, o189_34, o189_37, o189_40, o189_41, o189_42, o189_45, o189_46, o189_47, o189_48, o189_49, o189_50, o189_53, o189_56, o189_57, o189_58, o189_59, o189_60, o189_63, o189_66, hx_297_1, c_X5_checkSlot, c_X8_isSlot, c_X8_isThrown, c_X8_isThrown_, c_X8_isThrown__, c_X8_isQueue, c_queueOf_bad, c_queueOf_1, c_X1_hasNone (w := A 10) (r := A 11), c_ref_2 (cs := A 18), c_X7_rests, c_X8_no (cs := A 30), mc_pi, mc_pl, mc_pr, mc_pN, mc_pT, mc_pC, mn_pi, mn_pl, mn_pr, mn_pN, mn_pT, mn_pC, mi_pi, mi_pl, mi_pr, mi_pN, mi_pT, mi_pC, ml_pi, ml_pl, ml_pr, ml_pN, ml_pT, ml_pC, mr_pi, mr_pl, mr_pr, mr_pN, mr_pT, mr_pC, mt_pi, mt_pl, mt_pr, mt_pN, mt_pT, mt_pC, mz_pi, mz_pl, mz_pr, mz_pN, mz_pT, mz_pC, ma_pi, ma_pl, ma_pr, ma_pN, ma_pT, ma_pC, mcs_0, mcs_i, mcs_l, mcs_r, mcs_n, csum_rf, Kn_v, Kn_0, Kn_x, mrf_some, kok_0, true_and, and_true, false_and, and_false, true_or, or_true, or_false, false_or, not_true_eq_false, not_false_eq_true, true_implies, false_implies, implies_true, forall_const, if_true, if_false, and_self, Nat.reduceEqDiff, Nat.reduceLeDiff, Nat.reduceSub, Nat.reduceAdd, Nat.zero_le, Nat.le_refl, i10, i01, kz0, kz1, eq_self, lt_le, Classical.not_not, Int32.reduceLT, Int32.reduceAdd, Int32.reduceSub, Int32.reduceMul, cl0, cl1, cl2, cl3, cl4, cl5, cl6, cl7, cl8, cl9, cl10, cl11, cl12, cl13, cl14, cl15, cl16, cl17, cl18, cl19, cl20, cl21, cl22, cl23, cl24, cl25, cl26, cl27, cl28, cl29, cl30, cl31, cl32, cl33, cl34, cl35, cl36, cl37, cl38, cl39, lg_cmp_eq, Kc_v, Kc_0, Sum.inl.injEq, Option.some.injEq, Value.int.injEq, exists_eq_left', Nat.reduceLT, hAe, i20, i30, kc0, kc1, kc2, kc3, kc4, kc5, kc6, kc7, kc8, kc9, kc10, kc11, kc12, kc13, kc14, kc15, kc16, kc17, kc18, kc19, kc20, kc21, kc22, kc23, kc24, kc25, kc26, kc27, kc28, kc29, kc30, kc31, kc32, kc33, kc34, kc35, kc36, kc37, kc38, kc39, kn3, kn4, kn18, kn21, kn23, kn24, kn25, kn26, kn27, kn29, kn30, kr0_0, kr0_1, kr0_2, kr0_3, kr0_4, kr0_5, kr0_7, kr0_8, kr0_9, kr0_10, kr1_0, kr2_0, kr5_0, kr5_1, kr6_0, kr6_1, kr7_0, kr7_1, kr8_0, kr9_0, kr10_0, kr11_0, kr12_0, kr13_0, kr14_0, kr15_0, kr16_0, kr17_0, kr19_0, kr19_1, kr22_0, kr22_1, kr22_2, kr22_3, kr22_4, kr22_5, kr22_7, kr22_8, kr25_0, kr25_1, kr25_2, kr26_0, kr26_1, kr26_2, kr29_0, kr29_1, kz, ki5_2, ki6_2, ki7_2, ki8_1, ki8_2, ki8_3, ki9_1, ki9_2, ki9_3, ki10_1, ki10_2, ki10_3, ki11_1, ki11_2, ki11_3, ki12_1, ki12_2, ki12_3, ki13_1, ki13_2, ki13_3, ki14_1, ki14_2, ki14_3, ki28_0, ki28_1, ki31_0, ki31_1, ki32_0, ki32_1, ki33_0, ki33_1, ki34_0, ki34_1, ki35_0, ki35_1, ki36_0, ki36_1, bq0, bqq, vq3, hT, g1, g2, g3, g4, g5, g6, g7, hark, Int32.reduceLT, cl0, cl1, cl2, s1, s2, bs2, hs, d01, d02, d03, d10, d12, d13, d20, d21, d23, d30, d31, d32, vs0, vs1, vs2, vs3, i64_inj, i64_back, fo0, fo1, fo2, fo3, nm_eq, e0, v18]
          first | refine ⟨⟨?_, ?_, ?_, ?_, ?_, ?_, ?_, ?_, ?_, ?_, ?_, ?_⟩, rfl⟩ | refine ⟨?_, ?_, ?_, ?_, ?_, ?_, ?_, ?_, ?_, ?_, ?_, ?_⟩
          · (try simp only [K_pi, K_pl, K_pC, K_cW, K_mW])
            exact vk
          · (try simp only [Cn_pi hA (j := 18) (by decide), Cn_pi hA (j := 22) (by decide), Cn_pi hA (j := 30) (by decide), Cn_pl, Cn_pT, Cn_pr])
            exact vcn
          · (try simp only [Vq0_pi hA (j := 18) (by decide), Vq0_pi hA (j := 22) (by decide), Vq0_pi hA (j := 30) (by decide), Vq0_pl, Vq0_pT, Vq0_pr])
            exact v0
          · (try simp only [Vq1_pi hA (j := 18) (by decide), Vq1_pi hA (j := 22) (by decide), Vq1_pi hA (j := 30) (by decide), Vq1_pl, Vq1_pT, Vq1_pr])
            exact v1
          · (try simp only [Vq2_pi hA (j := 18) (by decide), Vq2_pi hA (j := 22) (by decide), Vq2_pi hA (j := 30) (by decide), Vq2_pl, Vq2_pT, Vq2_pr])
            exact v2
          · (try simp only [Vp_pi hA (j := 18) (by decide), Vp_pi hA (j := 30) (by decide), Vp_thr hA, Vp_pl, Vp_pT, Vp_pr])
            exact vp
          · (try simp only [Vl0_pi hA (j := 18) (by decide), Vl0_pi hA (j := 22) (by decide), Vl0_pi hA (j := 30) (by decide), Vl0_pl, Vl0_pT, Vl0_pr])
            exact vl0
          · (try simp only [Vl1_pi hA (j := 18) (by decide), Vl1_pi hA (j := 22) (by decide), Vl1_pi hA (j := 30) (by decide), Vl1_pl, Vl1_pT, Vl1_pr])
            exact vl1
          · (try simp only [Vlr_pi hA (j := 18) (by decide), Vlr_pi hA (j := 22) (by decide), Vlr_pi hA (j := 30) (by decide), Vlr_pl hA (j := 39) (by decide), Vlr_pT, Vlr_pr])
            exact vlr
          · (try simp only [Vsr_pi hA (j := 18) (by decide), Vsr_pi hA (j := 22) (by decide), Vsr_pi hA (j := 30) (by decide), Vsr_pl hA (j := 39) (by decide), Vsr_pT, Vsr_pr])
            exact vsr
          · refine Vc_of (c := 2) vc (by decide) (fun k => ?_) (fun k => ?_) <;> simp only [l_cW, l_mW, mi_pi, mi_pl, ml_pi, ml_pl, mi_pT, ml_pT, mi_pr, ml_pr, hAe, Nat.reduceLT, Nat.reduceEqDiff, false_and, and_false, true_and, and_true, if_false, if_true, eq_self]
          · (try simp only [Tx_pi hA (j := 18) (by decide), Tx_pi hA (j := 22) (by decide), Tx_pi hA (j := 30) (by decide), Tx_pl])
            exact tx
        · obtain ⟨i1, i2, hj, hq9⟩ := (qO_1 _ hm).resolve_left e0
          simp only [cT] at i1 i2 hj
          have hj2 := hj.2.2
          have vlk := (vlr _ (rdy_lt hj)).symm
          simp only [o297_0, o297_1, o297_2, o297_3, o297_4, o297_7, o297_8, o297_11, o297_14, o297_16, o297_17, o297_18, o297_19, o65_0, o65_1, o65_2, o65_5, o65_6, o65_7, o65_10, o65_11, o65_14, o65_17, o65_18, o65_21, o65_22, o65_25, o65_26, o65_27, o65_28, o65_29, o65_32, o65_35, o65_36, o65_37, o65_40, o65_41, o65_44, o65_47, o189_0, o189_1, o189_2, o189_5, o189_8, o189_9, o189_12, o189_15, o189_16, o189_19, o189_20, o189_23, o189_26, o189_27, o189_28, o189_29, o189_32, o189_33, o189_34, o189_37, o189_40, o189_41, o189_42, o189_45, o189_46, o189_47, o189_48, o189_49, o189_50, o189_53, o189_56, o189_57, o189_58, o189_59, o189_60, o189_63, o189_66, hx_297_1, c_X5_checkSlot, c_X8_isSlot, c_X8_isThrown, c_X8_isThrown_, c_X8_isThrown__, c_X8_isQueue, c_queueOf_bad, c_queueOf_1, c_X1_hasNone (w := A 10) (r := A 11), c_X7_rests, c_X1_goOut (w := A 10) (r := A 11) (rw := A 1) (cs := A 3) (n := 16) (sz := 3) (ring := 1), c_X1_lying (w := A 10) (r := A 11), c_X8_goOut (x2 := A 25) (x3 := A 26) (a := A 27) (w := A 32) (r := A 35) (lr := A 23) (sz := 3), c_X8_liesOf (x2 := A 25) (x3 := A 26) (a := A 27) (w := A 32) (r := A 35), c_X5_layNumber (rw := A 2) (cs := A 4), c_X8_laid (sr := A 24), c_X0_done (cs := A 18), c_X8_done (cs := A 30), mc_pi, mc_pl, mc_pr, mc_pN, mc_pT, mc_pC, mn_pi, mn_pl, mn_pr, mn_pN, mn_pT, mn_pC, mi_pi, mi_pl, mi_pr, mi_pN, mi_pT, mi_pC, ml_pi, ml_pl, ml_pr, ml_pN, ml_pT, ml_pC, mr_pi, mr_pl, mr_pr, mr_pN, mr_pT, mr_pC, mt_pi, mt_pl, mt_pr, mt_pN, mt_pT, mt_pC, mz_pi, mz_pl, mz_pr, mz_pN, mz_pT, mz_pC, ma_pi, ma_pl, ma_pr, ma_pN, ma_pT, ma_pC, mcs_0, mcs_i, mcs_l, mcs_r, mcs_n, csum_rf, Kn_v, Kn_0, Kn_x, mrf_some, kok_0, true_and, and_true, false_and, and_false, true_or, or_true, or_false, false_or, not_true_eq_false, not_false_eq_true, true_implies, false_implies, implies_true, forall_const, if_true, if_false, and_self, Nat.reduceEqDiff, Nat.reduceLeDiff, Nat.reduceSub, Nat.reduceAdd, Nat.zero_le, Nat.le_refl, i10, i01, kz0, kz1, eq_self, lt_le, Classical.not_not, Int32.reduceLT, Int32.reduceAdd, Int32.reduceSub, Int32.reduceMul, cl0, cl1, cl2, cl3, cl4, cl5, cl6, cl7, cl8, cl9, cl10, cl11, cl12, cl13, cl14, cl15, cl16, cl17, cl18, cl19, cl20, cl21, cl22, cl23, cl24, cl25, cl26, cl27, cl28, cl29, cl30, cl31, cl32, cl33, cl34, cl35, cl36, cl37, cl38, cl39, lg_cmp_eq, Kc_v, Kc_0, Sum.inl.injEq, Option.some.injEq, Value.int.injEq, exists_eq_left', Nat.reduceLT, hAe, i20, i30, kc0, kc1, kc2, kc3, kc4, kc5, kc6, kc7, kc8, kc9, kc10, kc11, kc12, kc13, kc14, kc15, kc16, kc17, kc18, kc19, kc20, kc21, kc22, kc23, kc24, kc25, kc26, kc27, kc28, kc29, kc30, kc31, kc32, kc33, kc34, kc35, kc36, kc37, kc38, kc39, kn3, kn4, kn18, kn21, kn23, kn24, kn25, kn26, kn27, kn29, kn30, kr0_0, kr0_1, kr0_2, kr0_3, kr0_4, kr0_5, kr0_7, kr0_8, kr0_9, kr0_10, kr1_0, kr2_0, kr5_0, kr5_1, kr6_0, kr6_1, kr7_0, kr7_1, kr8_0, kr9_0, kr10_0, kr11_0, kr12_0, kr13_0, kr14_0, kr15_0, kr16_0, kr17_0, kr19_0, kr19_1, kr22_0, kr22_1, kr22_2, kr22_3, kr22_4, kr22_5, kr22_7, kr22_8, kr25_0, kr25_1, kr25_2, kr26_0, kr26_1, kr26_2, kr29_0, kr29_1, kz, ki5_2, ki6_2, ki7_2, ki8_1, ki8_2, ki8_3, ki9_1, ki9_2, ki9_3, ki10_1, ki10_2, ki10_3, ki11_1, ki11_2, ki11_3, ki12_1, ki12_2, ki12_3, ki13_1, ki13_2, ki13_3, ki14_1, ki14_2, ki14_3, ki28_0, ki28_1, ki31_0, ki31_1, ki32_0, ki32_1, ki33_0, ki33_1, ki34_0, ki34_1, ki35_0, ki35_1, ki36_0, ki36_1, bq0, bqq, vq3, hT, g1, g2, g3, g4, g5, g6, g7, hark, Int32.reduceLT, cl0, cl1, cl2, s1, s2, bs2, hs, d01, d02, d03, d10, d12, d13, d20, d21, d23, d30, d31, d32, vs0, vs1, vs2, vs3, i64_inj, i64_back, fo0, fo1, fo2, fo3, nm_eq, c_cW, n_cW, r_cW, z_cW, t_cW, a_cW, l_cW, i_cW_q2, i_cW_w1, i_cW_w2, i_cW_w3, i_cW_r1, i_cW_r2, i_cW_r3, c_mW, n_mW, r_mW, z_mW, t_mW, a_mW, l_mW, i_mW_w0, i_mW_w1, i_mW_w2, i_mW_r0, i_mW_r1, i_mW_r2, icw1 hA (j := 0) (by decide), imw1 hA (j := 0) (by decide), icw1 hA (j := 14) (by decide), imw1 hA (j := 14) (by decide), icw1 hA (j := 15) (by decide), imw1 hA (j := 15) (by decide), icw1 hA (j := 16) (by decide), imw1 hA (j := 16) (by decide), icw1 hA (j := 18) (by decide), imw1 hA (j := 18) (by decide), icw1 hA (j := 22) (by decide), imw1 hA (j := 22) (by decide), icw1 hA (j := 24) (by decide), imw1 hA (j := 24) (by decide), icw1 hA (j := 28) (by decide), imw1 hA (j := 28) (by decide), icw1 hA (j := 30) (by decide), imw1 hA (j := 30) (by decide), icw1 hA (j := 27) (by decide), icw1 hA (j := 31) (by decide), imw1 hA (j := 31) (by decide), icw1 hA (j := 32) (by decide), icw1 hA (j := 33) (by decide), imw1 hA (j := 33) (by decide), icw1 hA (j := 34) (by decide), imw1 hA (j := 34) (by decide), icw1 hA (j := 35) (by decide), icw1 hA (j := 36) (by decide), imw1 hA (j := 36) (by decide), icw1 hA (j := 37) (by decide), imw1 hA (j := 37) (by decide), icw1 hA (j := 38) (by decide), imw1 hA (j := 38) (by decide), cT1_pi hA (j := 18) (by decide), mT1_pi hA (j := 18) (by decide), cT1_pi hA (j := 22) (by decide), mT1_pi hA (j := 22) (by decide), cT1_pi hA (j := 30) (by decide), mT1_pi hA (j := 30) (by decide), cT1_pi hA (j := 24) (by decide), mT1_pi hA (j := 24) (by decide), cT1_pl, mT1_pl, cT1_pT, mT1_pT, cT1_cW hA, mT1_cW hA, mT1_mW hA, cT1_mW hA, e0, i1, i2, hj, hj2, n1, vlk]
          first | refine ⟨⟨?_, ?_, ?_, ?_, ?_, ?_, ?_, ?_, ?_, ?_, ?_, ?_⟩, rfl⟩ | refine ⟨?_, ?_, ?_, ?_, ?_, ?_, ?_, ?_, ?_, ?_, ?_, ?_⟩
          · (try simp only [K_pi, K_pl, K_pC, K_cW, K_mW])
            exact vk
          · (try simp only [Cn_pi hA (j := 18) (by decide), Cn_pi hA (j := 22) (by decide), Cn_pi hA (j := 30) (by decide), Cn_pi hA (j := 24) (by decide), Cn_pl, Cn_pT, Cn_pr, Cn_cW1 hA, Cn_mW1 hA])
            exact vcn
          · (try simp only [Vq0_pi hA (j := 18) (by decide), Vq0_pi hA (j := 22) (by decide), Vq0_pi hA (j := 30) (by decide), Vq0_pi hA (j := 24) (by decide), Vq0_pl, Vq0_pT, Vq0_pr, Vq0_cW1 hA, Vq0_mW1 hA])
            exact v0
          · simp only [Vq1_pi hA (j := 18) (by decide), Vq1_pi hA (j := 22) (by decide), Vq1_pi hA (j := 30) (by decide), Vq1_pi hA (j := 24) (by decide), Vq1_pl, Vq1_pT, Vq1_pr, Vq1_mW hA, cT1_pi hA (j := 18) (by decide), mT1_pi hA (j := 18) (by decide), cT1_pi hA (j := 22) (by decide), mT1_pi hA (j := 22) (by decide), cT1_pi hA (j := 30) (by decide), mT1_pi hA (j := 30) (by decide), cT1_pi hA (j := 24) (by decide), mT1_pi hA (j := 24) (by decide), cT1_pl, mT1_pl, cT1_pT, mT1_pT, cT1_cW hA, mT1_cW hA, mT1_mW hA, cT1_mW hA]
            exact ⟨trivial, hq9⟩
          · (try simp only [Vq2_pi hA (j := 18) (by decide), Vq2_pi hA (j := 22) (by decide), Vq2_pi hA (j := 30) (by decide), Vq2_pi hA (j := 24) (by decide), Vq2_pl, Vq2_pT, Vq2_pr, Vq2_cW1 hA, Vq2_mW1 hA])
            exact v2
          · (try simp only [Vp_pi hA (j := 18) (by decide), Vp_pi hA (j := 30) (by decide), Vp_pi hA (j := 24) (by decide), Vp_thr hA, Vp_pl, Vp_pT, Vp_pr, Vp_cW1 hA, Vp_mW1 hA])
            exact vp
          · (try simp only [Vl0_pi hA (j := 18) (by decide), Vl0_pi hA (j := 22) (by decide), Vl0_pi hA (j := 30) (by decide), Vl0_pi hA (j := 24) (by decide), Vl0_pl, Vl0_pT, Vl0_pr, Vl0_cW1 hA, Vl0_mW1 hA])
            exact vl0
          · (try simp only [Vl1_pi hA (j := 18) (by decide), Vl1_pi hA (j := 22) (by decide), Vl1_pi hA (j := 30) (by decide), Vl1_pi hA (j := 24) (by decide), Vl1_pl, Vl1_pT, Vl1_pr, Vl1_cW1 hA, Vl1_mW1 hA])
            exact vl1
          · (try simp only [Vlr_pi hA (j := 18) (by decide), Vlr_pi hA (j := 22) (by decide), Vlr_pi hA (j := 30) (by decide), Vlr_pi hA (j := 24) (by decide), Vlr_pl hA (j := 39) (by decide), Vlr_pl hA (j := 4) (by decide), Vlr_pT, Vlr_pr, Vlr_cW1 hA, Vlr_mW1 hA])
            exact vlr
          · simp only [Vsr_pi hA (j := 18) (by decide), Vsr_pi hA (j := 22) (by decide), Vsr_pi hA (j := 30) (by decide), Vsr_pl hA (j := 39) (by decide), Vsr_pT, Vsr_pr]
            refine Vsr_nest vsr (fun k => ?_) (fun k => ?_) <;> simp only [l_cW, l_mW, mi_pi, mi_pl, ml_pi, ml_pl, mi_pT, ml_pT, mi_pr, ml_pr, hAe, Nat.reduceLT, Nat.reduceEqDiff, false_and, and_false, true_and, and_true, if_false, if_true, eq_self, icw1 hA (j := 0) (by decide), imw1 hA (j := 0) (by decide), icw1 hA (j := 14) (by decide), imw1 hA (j := 14) (by decide), icw1 hA (j := 15) (by decide), imw1 hA (j := 15) (by decide), icw1 hA (j := 16) (by decide), imw1 hA (j := 16) (by decide), icw1 hA (j := 18) (by decide), imw1 hA (j := 18) (by decide), icw1 hA (j := 22) (by decide), imw1 hA (j := 22) (by decide), icw1 hA (j := 24) (by decide), imw1 hA (j := 24) (by decide), icw1 hA (j := 28) (by decide), imw1 hA (j := 28) (by decide), icw1 hA (j := 30) (by decide), imw1 hA (j := 30) (by decide), icw1 hA (j := 27) (by decide), icw1 hA (j := 31) (by decide), imw1 hA (j := 31) (by decide), icw1 hA (j := 32) (by decide), icw1 hA (j := 33) (by decide), imw1 hA (j := 33) (by decide), icw1 hA (j := 34) (by decide), imw1 hA (j := 34) (by decide), icw1 hA (j := 35) (by decide), icw1 hA (j := 36) (by decide), imw1 hA (j := 36) (by decide), icw1 hA (j := 37) (by decide), imw1 hA (j := 37) (by decide), icw1 hA (j := 38) (by decide), imw1 hA (j := 38) (by decide)]
          · refine Vc_of (c := 0) vc (by decide) (fun k => ?_) (fun k => ?_) <;> simp only [l_cW, l_mW, mi_pi, mi_pl, ml_pi, ml_pl, mi_pT, ml_pT, mi_pr, ml_pr, hAe, Nat.reduceLT, Nat.reduceEqDiff, false_and, and_false, true_and, and_true, if_false, if_true, eq_self, icw1 hA (j := 0) (by decide), imw1 hA (j := 0) (by decide), icw1 hA (j := 14) (by decide), imw1 hA (j := 14) (by decide), icw1 hA (j := 15) (by decide), imw1 hA (j := 15) (by decide), icw1 hA (j := 16) (by decide), imw1 hA (j := 16) (by decide), icw1 hA (j := 18) (by decide), imw1 hA (j := 18) (by decide), icw1 hA (j := 22) (by decide), imw1 hA (j := 22) (by decide), icw1 hA (j := 24) (by decide), imw1 hA (j := 24) (by decide), icw1 hA (j := 28) (by decide), imw1 hA (j := 28) (by decide), icw1 hA (j := 30) (by decide), imw1 hA (j := 30) (by decide), icw1 hA (j := 27) (by decide), icw1 hA (j := 31) (by decide), imw1 hA (j := 31) (by decide), icw1 hA (j := 32) (by decide), icw1 hA (j := 33) (by decide), imw1 hA (j := 33) (by decide), icw1 hA (j := 34) (by decide), imw1 hA (j := 34) (by decide), icw1 hA (j := 35) (by decide), icw1 hA (j := 36) (by decide), imw1 hA (j := 36) (by decide), icw1 hA (j := 37) (by decide), imw1 hA (j := 37) (by decide), icw1 hA (j := 38) (by decide), imw1 hA (j := 38) (by decide)]
          · (try simp only [Tx_pi hA (j := 18) (by decide), Tx_pi hA (j := 22) (by decide), Tx_pi hA (j := 30) (by decide), Tx_pi hA (j := 24) (by decide), Tx_pl, Tx_cW1 hA, Tx_mW1 hA])
            exact tx
      · have he := v2.1
        have hm := v2.2
        have hT : mT h (A 27) 2 (A 33) (A 36) = cT h (A 7) (A 12) (A 13) := he.symm
        have he2 := he
        simp only [cT, mT, Prod.mk.injEq] at he2
        obtain ⟨g1, g2, g3, g4, g5, g6, g7⟩ := he2
        replace g1 := g1.symm
        replace g2 := g2.symm
        replace g3 := g3.symm
        replace g4 := g4.symm
        replace g5 := g5.symm
        replace g6 := g6.symm
        replace g7 := g7.symm
        obtain ⟨hmk, har, hl0, hl9⟩ := qA_2 _ hm
        have hark : arok 2 (g_i h (A 7) 3) := fun _ => har
        have n1 : ¬ A 12 = A 13 := fun z => absurd ((hAe 12 13 (by decide) (by decide)).mp z) (by decide)
        by_cases e0 : g_i h (A 13) 5 - g_i h (A 13) 4 = 0
        · skip
          simp only [o297_0, o297_1, o297_2, o297_3, o297_4, o297_7, o297_8, o297_11, o297_14, o297_16, o297_17, o297_18, o297_19, o65_0, o65_1, o65_2, o65_5, o65_6, o65_7, o65_10, o65_11, o65_14, o65_17, o65_18, o65_21, o65_22, o65_25, o65_26, o65_27, o65_28, o65_29, o65_32, o65_35, o65_36, o65_37, o65_40, o65_41, o65_44, o65_47, o189_0, o189_1, o189_2, o189_5, o189_8, o189_9, o189_12, o189_15, o189_16, o189_19, o189_20, o189_23, o189_26, o189_27, o189_28, o189_29, o189_32, o189_33, o189_34, o189_37, o189_40, o189_41, o189_42, o189_45, o189_46, o189_47, o189_48, o189_49, o189_50, o189_53, o189_56, o189_57, o189_58, o189_59, o189_60, o189_63, o189_66, hx_297_1, c_X5_checkSlot, c_X8_isSlot, c_X8_isThrown, c_X8_isThrown_, c_X8_isThrown__, c_X8_isQueue, c_queueOf_bad, c_queueOf_2, c_X1_hasNone (w := A 12) (r := A 13), c_ref_2 (cs := A 18), c_X7_rests, c_X8_no (cs := A 30), mc_pi, mc_pl, mc_pr, mc_pN, mc_pT, mc_pC, mn_pi, mn_pl, mn_pr, mn_pN, mn_pT, mn_pC, mi_pi, mi_pl, mi_pr, mi_pN, mi_pT, mi_pC, ml_pi, ml_pl, ml_pr, ml_pN, ml_pT, ml_pC, mr_pi, mr_pl, mr_pr, mr_pN, mr_pT, mr_pC, mt_pi, mt_pl, mt_pr, mt_pN, mt_pT, mt_pC, mz_pi, mz_pl, mz_pr, mz_pN, mz_pT, mz_pC, ma_pi, ma_pl, ma_pr, ma_pN, ma_pT, ma_pC, mcs_0, mcs_i, mcs_l, mcs_r, mcs_n, csum_rf, Kn_v, Kn_0, Kn_x, mrf_some, kok_0, true_and, and_true, false_and, and_false, true_or, or_true, or_false, false_or, not_true_eq_false, not_false_eq_true, true_implies, false_implies, implies_true, forall_const, if_true, if_false, and_self, Nat.reduceEqDiff, Nat.reduceLeDiff, Nat.reduceSub, Nat.reduceAdd, Nat.zero_le, Nat.le_refl, i10, i01, kz0, kz1, eq_self, lt_le, Classical.not_not, Int32.reduceLT, Int32.reduceAdd, Int32.reduceSub, Int32.reduceMul, cl0, cl1, cl2, cl3, cl4, cl5, cl6, cl7, cl8, cl9, cl10, cl11, cl12, cl13, cl14, cl15, cl16, cl17, cl18, cl19, cl20, cl21, cl22, cl23, cl24, cl25, cl26, cl27, cl28, cl29, cl30, cl31, cl32, cl33, cl34, cl35, cl36, cl37, cl38, cl39, lg_cmp_eq, Kc_v, Kc_0, Sum.inl.injEq, Option.some.injEq, Value.int.injEq, exists_eq_left', Nat.reduceLT, hAe, i20, i30, kc0, kc1, kc2, kc3, kc4, kc5, kc6, kc7, kc8, kc9, kc10, kc11, kc12, kc13, kc14, kc15, kc16, kc17, kc18, kc19, kc20, kc21, kc22, kc23, kc24, kc25, kc26, kc27, kc28, kc29, kc30, kc31, kc32, kc33, kc34, kc35, kc36, kc37, kc38, kc39, kn3, kn4, kn18, kn21, kn23, kn24, kn25, kn26, kn27, kn29, kn30, kr0_0, kr0_1, kr0_2, kr0_3, kr0_4, kr0_5, kr0_7, kr0_8, kr0_9, kr0_10, kr1_0, kr2_0, kr5_0, kr5_1, kr6_0, kr6_1, kr7_0, kr7_1, kr8_0, kr9_0, kr10_0, kr11_0, kr12_0, kr13_0, kr14_0, kr15_0, kr16_0, kr17_0, kr19_0, kr19_1, kr22_0, kr22_1, kr22_2, kr22_3, kr22_4, kr22_5, kr22_7, kr22_8, kr25_0, kr25_1, kr25_2, kr26_0, kr26_1, kr26_2, kr29_0, kr29_1, kz, ki5_2, ki6_2, ki7_2, ki8_1, ki8_2, ki8_3, ki9_1, ki9_2, ki9_3, ki10_1, ki10_2, ki10_3, ki11_1, ki11_2, ki11_3, ki12_1, ki12_2, ki12_3, ki13_1, ki13_2, ki13_3, ki14_1, ki14_2, ki14_3, ki28_0, ki28_1, ki31_0, ki31_1, ki32_0, ki32_1, ki33_0, ki33_1, ki34_0, ki34_1, ki35_0, ki35_1, ki36_0, ki36_1, bq0, bqq, vq3, hT, g1, g2, g3, g4, g5, g6, g7, hark, Int32.reduceLT, cl0, cl1, cl2, s1, s2, bs2, hs, d01, d02, d03, d10, d12, d13, d20, d21, d23, d30, d31, d32, vs0, vs1, vs2, vs3, i64_inj, i64_back, fo0, fo1, fo2, fo3, nm_eq, e0, v18]
          first | refine ⟨⟨?_, ?_, ?_, ?_, ?_, ?_, ?_, ?_, ?_, ?_, ?_, ?_⟩, rfl⟩ | refine ⟨?_, ?_, ?_, ?_, ?_, ?_, ?_, ?_, ?_, ?_, ?_, ?_⟩
          · (try simp only [K_pi, K_pl, K_pC, K_cW, K_mW])
            exact vk
          · (try simp only [Cn_pi hA (j := 18) (by decide), Cn_pi hA (j := 22) (by decide), Cn_pi hA (j := 30) (by decide), Cn_pl, Cn_pT, Cn_pr])
            exact vcn
          · (try simp only [Vq0_pi hA (j := 18) (by decide), Vq0_pi hA (j := 22) (by decide), Vq0_pi hA (j := 30) (by decide), Vq0_pl, Vq0_pT, Vq0_pr])
            exact v0
          · (try simp only [Vq1_pi hA (j := 18) (by decide), Vq1_pi hA (j := 22) (by decide), Vq1_pi hA (j := 30) (by decide), Vq1_pl, Vq1_pT, Vq1_pr])
            exact v1
          · (try simp only [Vq2_pi hA (j := 18) (by decide), Vq2_pi hA (j := 22) (by decide), Vq2_pi hA (j := 30) (by decide), Vq2_pl, Vq2_pT, Vq2_pr])
            exact v2
          · (try simp only [Vp_pi hA (j := 18) (by decide), Vp_pi hA (j := 30) (by decide), Vp_thr hA, Vp_pl, Vp_pT, Vp_pr])
            exact vp
          · (try simp only [Vl0_pi hA (j := 18) (by decide), Vl0_pi hA (j := 22) (by decide), Vl0_pi hA (j := 30) (by decide), Vl0_pl, Vl0_pT, Vl0_pr])
            exact vl0
          · (try simp only [Vl1_pi hA (j := 18) (by decide), Vl1_pi hA (j := 22) (by decide), Vl1_pi hA (j := 30) (by decide), Vl1_pl, Vl1_pT, Vl1_pr])
            exact vl1
          · (try simp only [Vlr_pi hA (j := 18) (by decide), Vlr_pi hA (j := 22) (by decide), Vlr_pi hA (j := 30) (by decide), Vlr_pl hA (j := 39) (by decide), Vlr_pT, Vlr_pr])
            exact vlr
          · (try simp only [Vsr_pi hA (j := 18) (by decide), Vsr_pi hA (j := 22) (by decide), Vsr_pi hA (j := 30) (by decide), Vsr_pl hA (j := 39) (by decide), Vsr_pT, Vsr_pr])
            exact vsr
          · refine Vc_of (c := 2) vc (by decide) (fun k => ?_) (fun k => ?_) <;> simp only [l_cW, l_mW, mi_pi, mi_pl, ml_pi, ml_pl, mi_pT, ml_pT, mi_pr, ml_pr, hAe, Nat.reduceLT, Nat.reduceEqDiff, false_and, and_false, true_and, and_true, if_false, if_true, eq_self]
          · (try simp only [Tx_pi hA (j := 18) (by decide), Tx_pi hA (j := 22) (by decide), Tx_pi hA (j := 30) (by decide), Tx_pl])
            exact tx
        · obtain ⟨i1, i2, hj, hq9⟩ := (qO_2 _ hm).resolve_left e0
          simp only [cT] at i1 i2 hj
          have hj2 := hj.2.2
          have vlk := (vlr _ (rdy_lt hj)).symm
          simp only [o297_0, o297_1, o297_2, o297_3, o297_4, o297_7, o297_8, o297_11, o297_14, o297_16, o297_17, o297_18, o297_19, o65_0, o65_1, o65_2, o65_5, o65_6, o65_7, o65_10, o65_11, o65_14, o65_17, o65_18, o65_21, o65_22, o65_25, o65_26, o65_27, o65_28, o65_29, o65_32, o65_35, o65_36, o65_37, o65_40, o65_41, o65_44, o65_47, o189_0, o189_1, o189_2, o189_5, o189_8, o189_9, o189_12, o189_15, o189_16, o189_19, o189_20, o189_23, o189_26, o189_27, o189_28, o189_29, o189_32, o189_33, o189_34, o189_37, o189_40, o189_41, o189_42, o189_45, o189_46, o189_47, o189_48, o189_49, o189_50, o189_53, o189_56, o189_57, o189_58, o189_59, o189_60, o189_63, o189_66, hx_297_1, c_X5_checkSlot, c_X8_isSlot, c_X8_isThrown, c_X8_isThrown_, c_X8_isThrown__, c_X8_isQueue, c_queueOf_bad, c_queueOf_2, c_X1_hasNone (w := A 12) (r := A 13), c_X7_rests, c_X1_goOut (w := A 12) (r := A 13) (rw := A 1) (cs := A 3) (n := 16) (sz := 6) (ring := 0), c_X1_lying (w := A 12) (r := A 13), c_X8_goOut (x2 := A 25) (x3 := A 26) (a := A 27) (w := A 33) (r := A 36) (lr := A 23) (sz := 6), c_X8_liesOf (x2 := A 25) (x3 := A 26) (a := A 27) (w := A 33) (r := A 36), c_X5_layNumber (rw := A 2) (cs := A 4), c_X8_laid (sr := A 24), c_X0_done (cs := A 18), c_X8_done (cs := A 30), mc_pi, mc_pl, mc_pr, mc_pN, mc_pT, mc_pC, mn_pi, mn_pl, mn_pr, mn_pN, mn_pT, mn_pC, mi_pi, mi_pl, mi_pr, mi_pN, mi_pT, mi_pC, ml_pi, ml_pl, ml_pr, ml_pN, ml_pT, ml_pC, mr_pi, mr_pl, mr_pr, mr_pN, mr_pT, mr_pC, mt_pi, mt_pl, mt_pr, mt_pN, mt_pT, mt_pC, mz_pi, mz_pl, mz_pr, mz_pN, mz_pT, mz_pC, ma_pi, ma_pl, ma_pr, ma_pN, ma_pT, ma_pC, mcs_0, mcs_i, mcs_l, mcs_r, mcs_n, csum_rf, Kn_v, Kn_0, Kn_x, mrf_some, kok_0, true_and, and_true, false_and, and_false, true_or, or_true, or_false, false_or, not_true_eq_false, not_false_eq_true, true_implies, false_implies, implies_true, forall_const, if_true, if_false, and_self, Nat.reduceEqDiff, Nat.reduceLeDiff, Nat.reduceSub, Nat.reduceAdd, Nat.zero_le, Nat.le_refl, i10, i01, kz0, kz1, eq_self, lt_le, Classical.not_not, Int32.reduceLT, Int32.reduceAdd, Int32.reduceSub, Int32.reduceMul, cl0, cl1, cl2, cl3, cl4, cl5, cl6, cl7, cl8, cl9, cl10, cl11, cl12, cl13, cl14, cl15, cl16, cl17, cl18, cl19, cl20, cl21, cl22, cl23, cl24, cl25, cl26, cl27, cl28, cl29, cl30, cl31, cl32, cl33, cl34, cl35, cl36, cl37, cl38, cl39, lg_cmp_eq, Kc_v, Kc_0, Sum.inl.injEq, Option.some.injEq, Value.int.injEq, exists_eq_left', Nat.reduceLT, hAe, i20, i30, kc0, kc1, kc2, kc3, kc4, kc5, kc6, kc7, kc8, kc9, kc10, kc11, kc12, kc13, kc14, kc15, kc16, kc17, kc18, kc19, kc20, kc21, kc22, kc23, kc24, kc25, kc26, kc27, kc28, kc29, kc30, kc31, kc32, kc33, kc34, kc35, kc36, kc37, kc38, kc39, kn3, kn4, kn18, kn21, kn23, kn24, kn25, kn26, kn27, kn29, kn30, kr0_0, kr0_1, kr0_2, kr0_3, kr0_4, kr0_5, kr0_7, kr0_8, kr0_9, kr0_10, kr1_0, kr2_0, kr5_0, kr5_1, kr6_0, kr6_1, kr7_0, kr7_1, kr8_0, kr9_0, kr10_0, kr11_0, kr12_0, kr13_0, kr14_0, kr15_0, kr16_0, kr17_0, kr19_0, kr19_1, kr22_0, kr22_1, kr22_2, kr22_3, kr22_4, kr22_5, kr22_7, kr22_8, kr25_0, kr25_1, kr25_2, kr26_0, kr26_1, kr26_2, kr29_0, kr29_1, kz, ki5_2, ki6_2, ki7_2, ki8_1, ki8_2, ki8_3, ki9_1, ki9_2, ki9_3, ki10_1, ki10_2, ki10_3, ki11_1, ki11_2, ki11_3, ki12_1, ki12_2, ki12_3, ki13_1, ki13_2, ki13_3, ki14_1, ki14_2, ki14_3, ki28_0, ki28_1, ki31_0, ki31_1, ki32_0, ki32_1, ki33_0, ki33_1, ki34_0, ki34_1, ki35_0, ki35_1, ki36_0, ki36_1, bq0, bqq, vq3, hT, g1, g2, g3, g4, g5, g6, g7, hark, Int32.reduceLT, cl0, cl1, cl2, s1, s2, bs2, hs, d01, d02, d03, d10, d12, d13, d20, d21, d23, d30, d31, d32, vs0, vs1, vs2, vs3, i64_inj, i64_back, fo0, fo1, fo2, fo3, nm_eq, c_cW, n_cW, r_cW, z_cW, t_cW, a_cW, l_cW, i_cW_q2, i_cW_w1, i_cW_w2, i_cW_w3, i_cW_r1, i_cW_r2, i_cW_r3, c_mW, n_mW, r_mW, z_mW, t_mW, a_mW, l_mW, i_mW_w0, i_mW_w1, i_mW_w2, i_mW_r0, i_mW_r1, i_mW_r2, icw2 hA (j := 0) (by decide), imw2 hA (j := 0) (by decide), icw2 hA (j := 14) (by decide), imw2 hA (j := 14) (by decide), icw2 hA (j := 15) (by decide), imw2 hA (j := 15) (by decide), icw2 hA (j := 16) (by decide), imw2 hA (j := 16) (by decide), icw2 hA (j := 18) (by decide), imw2 hA (j := 18) (by decide), icw2 hA (j := 22) (by decide), imw2 hA (j := 22) (by decide), icw2 hA (j := 24) (by decide), imw2 hA (j := 24) (by decide), icw2 hA (j := 28) (by decide), imw2 hA (j := 28) (by decide), icw2 hA (j := 30) (by decide), imw2 hA (j := 30) (by decide), icw2 hA (j := 27) (by decide), icw2 hA (j := 31) (by decide), imw2 hA (j := 31) (by decide), icw2 hA (j := 32) (by decide), imw2 hA (j := 32) (by decide), icw2 hA (j := 33) (by decide), icw2 hA (j := 34) (by decide), imw2 hA (j := 34) (by decide), icw2 hA (j := 35) (by decide), imw2 hA (j := 35) (by decide), icw2 hA (j := 36) (by decide), icw2 hA (j := 37) (by decide), imw2 hA (j := 37) (by decide), icw2 hA (j := 38) (by decide), imw2 hA (j := 38) (by decide), cT2_pi hA (j := 18) (by decide), mT2_pi hA (j := 18) (by decide), cT2_pi hA (j := 22) (by decide), mT2_pi hA (j := 22) (by decide), cT2_pi hA (j := 30) (by decide), mT2_pi hA (j := 30) (by decide), cT2_pi hA (j := 24) (by decide), mT2_pi hA (j := 24) (by decide), cT2_pl, mT2_pl, cT2_pT, mT2_pT, cT2_cW hA, mT2_cW hA, mT2_mW hA, cT2_mW hA, e0, i1, i2, hj, hj2, n1, vlk]
          first | refine ⟨⟨?_, ?_, ?_, ?_, ?_, ?_, ?_, ?_, ?_, ?_, ?_, ?_⟩, rfl⟩ | refine ⟨?_, ?_, ?_, ?_, ?_, ?_, ?_, ?_, ?_, ?_, ?_, ?_⟩
          · (try simp only [K_pi, K_pl, K_pC, K_cW, K_mW])
            exact vk
          · (try simp only [Cn_pi hA (j := 18) (by decide), Cn_pi hA (j := 22) (by decide), Cn_pi hA (j := 30) (by decide), Cn_pi hA (j := 24) (by decide), Cn_pl, Cn_pT, Cn_pr, Cn_cW2 hA, Cn_mW2 hA])
            exact vcn
          · (try simp only [Vq0_pi hA (j := 18) (by decide), Vq0_pi hA (j := 22) (by decide), Vq0_pi hA (j := 30) (by decide), Vq0_pi hA (j := 24) (by decide), Vq0_pl, Vq0_pT, Vq0_pr, Vq0_cW2 hA, Vq0_mW2 hA])
            exact v0
          · (try simp only [Vq1_pi hA (j := 18) (by decide), Vq1_pi hA (j := 22) (by decide), Vq1_pi hA (j := 30) (by decide), Vq1_pi hA (j := 24) (by decide), Vq1_pl, Vq1_pT, Vq1_pr, Vq1_cW2 hA, Vq1_mW2 hA])
            exact v1
          · simp only [Vq2_pi hA (j := 18) (by decide), Vq2_pi hA (j := 22) (by decide), Vq2_pi hA (j := 30) (by decide), Vq2_pi hA (j := 24) (by decide), Vq2_pl, Vq2_pT, Vq2_pr, Vq2_mW hA, cT2_pi hA (j := 18) (by decide), mT2_pi hA (j := 18) (by decide), cT2_pi hA (j := 22) (by decide), mT2_pi hA (j := 22) (by decide), cT2_pi hA (j := 30) (by decide), mT2_pi hA (j := 30) (by decide), cT2_pi hA (j := 24) (by decide), mT2_pi hA (j := 24) (by decide), cT2_pl, mT2_pl, cT2_pT, mT2_pT, cT2_cW hA, mT2_cW hA, mT2_mW hA, cT2_mW hA]
            exact ⟨trivial, hq9⟩
          · (try simp only [Vp_pi hA (j := 18) (by decide), Vp_pi hA (j := 30) (by decide), Vp_pi hA (j := 24) (by decide), Vp_thr hA, Vp_pl, Vp_pT, Vp_pr, Vp_cW2 hA, Vp_mW2 hA])
            exact vp
          · (try simp only [Vl0_pi hA (j := 18) (by decide), Vl0_pi hA (j := 22) (by decide), Vl0_pi hA (j := 30) (by decide), Vl0_pi hA (j := 24) (by decide), Vl0_pl, Vl0_pT, Vl0_pr, Vl0_cW2 hA, Vl0_mW2 hA])
            exact vl0
          · (try simp only [Vl1_pi hA (j := 18) (by decide), Vl1_pi hA (j := 22) (by decide), Vl1_pi hA (j := 30) (by decide), Vl1_pi hA (j := 24) (by decide), Vl1_pl, Vl1_pT, Vl1_pr, Vl1_cW2 hA, Vl1_mW2 hA])
            exact vl1
          · (try simp only [Vlr_pi hA (j := 18) (by decide), Vlr_pi hA (j := 22) (by decide), Vlr_pi hA (j := 30) (by decide), Vlr_pi hA (j := 24) (by decide), Vlr_pl hA (j := 39) (by decide), Vlr_pl hA (j := 4) (by decide), Vlr_pT, Vlr_pr, Vlr_cW2 hA, Vlr_mW2 hA])
            exact vlr
          · simp only [Vsr_pi hA (j := 18) (by decide), Vsr_pi hA (j := 22) (by decide), Vsr_pi hA (j := 30) (by decide), Vsr_pl hA (j := 39) (by decide), Vsr_pT, Vsr_pr]
            refine Vsr_nest vsr (fun k => ?_) (fun k => ?_) <;> simp only [l_cW, l_mW, mi_pi, mi_pl, ml_pi, ml_pl, mi_pT, ml_pT, mi_pr, ml_pr, hAe, Nat.reduceLT, Nat.reduceEqDiff, false_and, and_false, true_and, and_true, if_false, if_true, eq_self, icw2 hA (j := 0) (by decide), imw2 hA (j := 0) (by decide), icw2 hA (j := 14) (by decide), imw2 hA (j := 14) (by decide), icw2 hA (j := 15) (by decide), imw2 hA (j := 15) (by decide), icw2 hA (j := 16) (by decide), imw2 hA (j := 16) (by decide), icw2 hA (j := 18) (by decide), imw2 hA (j := 18) (by decide), icw2 hA (j := 22) (by decide), imw2 hA (j := 22) (by decide), icw2 hA (j := 24) (by decide), imw2 hA (j := 24) (by decide), icw2 hA (j := 28) (by decide), imw2 hA (j := 28) (by decide), icw2 hA (j := 30) (by decide), imw2 hA (j := 30) (by decide), icw2 hA (j := 27) (by decide), icw2 hA (j := 31) (by decide), imw2 hA (j := 31) (by decide), icw2 hA (j := 32) (by decide), imw2 hA (j := 32) (by decide), icw2 hA (j := 33) (by decide), icw2 hA (j := 34) (by decide), imw2 hA (j := 34) (by decide), icw2 hA (j := 35) (by decide), imw2 hA (j := 35) (by decide), icw2 hA (j := 36) (by decide), icw2 hA (j := 37) (by decide), imw2 hA (j := 37) (by decide), icw2 hA (j := 38) (by decide), imw2 hA (j := 38) (by decide)]
          · refine Vc_of (c := 0) vc (by decide) (fun k => ?_) (fun k => ?_) <;> simp only [l_cW, l_mW, mi_pi, mi_pl, ml_pi, ml_pl, mi_pT, ml_pT, mi_pr, ml_pr, hAe, Nat.reduceLT, Nat.reduceEqDiff, false_and, and_false, true_and, and_true, if_false, if_true, eq_self, icw2 hA (j := 0) (by decide), imw2 hA (j := 0) (by decide), icw2 hA (j := 14) (by decide), imw2 hA (j := 14) (by decide), icw2 hA (j := 15) (by decide), imw2 hA (j := 15) (by decide), icw2 hA (j := 16) (by decide), imw2 hA (j := 16) (by decide), icw2 hA (j := 18) (by decide), imw2 hA (j := 18) (by decide), icw2 hA (j := 22) (by decide), imw2 hA (j := 22) (by decide), icw2 hA (j := 24) (by decide), imw2 hA (j := 24) (by decide), icw2 hA (j := 28) (by decide), imw2 hA (j := 28) (by decide), icw2 hA (j := 30) (by decide), imw2 hA (j := 30) (by decide), icw2 hA (j := 27) (by decide), icw2 hA (j := 31) (by decide), imw2 hA (j := 31) (by decide), icw2 hA (j := 32) (by decide), imw2 hA (j := 32) (by decide), icw2 hA (j := 33) (by decide), icw2 hA (j := 34) (by decide), imw2 hA (j := 34) (by decide), icw2 hA (j := 35) (by decide), imw2 hA (j := 35) (by decide), icw2 hA (j := 36) (by decide), icw2 hA (j := 37) (by decide), imw2 hA (j := 37) (by decide), icw2 hA (j := 38) (by decide), imw2 hA (j := 38) (by decide)]
          · (try simp only [Tx_pi hA (j := 18) (by decide), Tx_pi hA (j := 22) (by decide), Tx_pi hA (j := 30) (by decide), Tx_pi hA (j := 24) (by decide), Tx_pl, Tx_cW2 hA, Tx_mW2 hA])
            exact tx

theorem hx_298_1 {l rest : List Value} {bc bs : Nat} {Q : MR → MH → Prop} {h : MH} : Kc Ok 298 6 9 l rest bc bs Q (.inr 1) h ↔ ∀ q : Nat, Ok 298 16 l [.ref q] h bc bs Q := Kc_x (by decide +kernel) (by decide +kernel)
theorem hx_298_2 {l rest : List Value} {bc bs : Nat} {Q : MR → MH → Prop} {h : MH} : Kc Ok 298 6 9 l rest bc bs Q (.inr 2) h ↔ ∀ q : Nat, Ok 298 20 l [.ref q] h bc bs Q := Kc_x (by decide +kernel) (by decide +kernel)
theorem op_look {A : Nat → Nat} {h : MH} (R : Rl A h) {q x s : Int32} : Ok 298 0 [.ref (A 0), .int q, .int x, .int s, .ref (A 39), mk0] [] h 3 18 (fun r h1 => ∃ k : Int32, r = .inl (some (.int k)) ∧ g_c h1 (A 22) = 9 ∧ Ok 190 0 [.ref (A 22), .int q, .int x, .int s] [] h1 0 0 (fun r2 h2 => ∃ b : Int32, r2 = .inl (some (.int b)) ∧ Rl A h2 ∧ g_i h2 (A 22) 9 = k ∧ (k = 0 → g_l h2 (A 39) 0 = b.toInt64))) := by
  obtain ⟨vk, vcn, v0, v1, v2, vp, vl0, vl1, vlr, vsr, vc, tx⟩ := R
  have vk0 := vk
  have vcn0 := vcn
  (refine K_el vk0 ?_; intros hA kc0 kc1 kc2 kc3 kc4 kc5 kc6 kc7 kc8 kc9 kc10 kc11 kc12 kc13 kc14 kc15 kc16 kc17 kc18 kc19 kc20 kc21 kc22 kc23 kc24 kc25 kc26 kc27 kc28 kc29 kc30 kc31 kc32 kc33 kc34 kc35 kc36 kc37 kc38 kc39 kz kt kn3 kn4 kn18 kn21 kn23 kn24 kn25 kn26 kn27 kn29 kn30 kr0_0 kr0_1 kr0_2 kr0_3 kr0_4 kr0_5 kr0_7 kr0_8 kr0_9 kr0_10 kr1_0 kr2_0 kr5_0 kr5_1 kr6_0 kr6_1 kr7_0 kr7_1 kr8_0 kr9_0 kr10_0 kr11_0 kr12_0 kr13_0 kr14_0 kr15_0 kr16_0 kr17_0 kr19_0 kr19_1 kr22_0 kr22_1 kr22_2 kr22_3 kr22_4 kr22_5 kr22_7 kr22_8 kr25_0 kr25_1 kr25_2 kr26_0 kr26_1 kr26_2 kr29_0 kr29_1)
  (refine Cn_el vcn0 ?_; intros ki5_2 ki6_2 ki7_2 ki8_1 ki8_2 ki8_3 ki9_1 ki9_2 ki9_3 ki10_1 ki10_2 ki10_3 ki11_1 ki11_2 ki11_3 ki12_1 ki12_2 ki12_3 ki13_1 ki13_2 ki13_3 ki14_1 ki14_2 ki14_3 ki28_0 ki28_1 ki31_0 ki31_1 ki32_0 ki32_1 ki33_0 ki33_1 ki34_0 ki34_1 ki35_0 ki35_1 ki36_0 ki36_1)
  have hAe : ∀ i j, i < 40 → j < 40 → (A i = A j ↔ i = j) := hA
  by_cases bx0 : x < 0 <;> by_cases bx9 : 9 < x
  · exact absurd (Int32.lt_trans bx9 bx0) (by decide)
  · by_cases bq : q < 0 ∨ ¬ q < 3
    · have bq2 : (¬ q < 0 ∧ q < 3) = False := nrng bq
      by_cases bs : (¬ s < 0 ∧ s < 6)
      all_goals
        simp only [o298_0, o298_2, o298_3, o298_4, o298_5, o298_6, o298_9, o298_10, o298_13, o298_16, o298_18, o298_19, o298_20, o298_22, o298_23, o298_24, o298_25, o66_0, o66_1, o66_2, o66_5, o66_7, o66_8, o66_11, o66_12, o66_15, o66_16, o66_18, o66_21, o66_24, o66_25, o66_28, o66_29, o66_32, o66_33, o66_34, o66_37, o66_38, o66_39, o66_41, o66_42, o66_45, o66_48, o66_51, o190_0, o190_1, o190_2, o190_5, o190_8, o190_9, o190_12, o190_15, o190_16, o190_19, o190_20, o190_21, o190_24, o190_25, o190_27, o190_30, o190_31, o190_34, o190_35, o190_38, o190_41, o190_42, o190_43, o190_44, o190_45, o190_46, o190_49, o190_52, o190_53, o190_54, o190_57, o190_60, o190_61, o190_62, o190_63, o190_64, o190_67, o190_68, o190_69, o190_70, o190_73, o190_74, o190_77, o190_80, hx_298_1, hx_298_2, c_X5_checkSlot, c_X8_isSlot, c_X8_isThrown, c_X8_isThrown_, c_X8_isThrown__, c_X8_isQueue, c_queueOf_bad, c_X5_checkAhead, mc_pi, mc_pl, mc_pr, mc_pN, mc_pT, mc_pC, mn_pi, mn_pl, mn_pr, mn_pN, mn_pT, mn_pC, mi_pi, mi_pl, mi_pr, mi_pN, mi_pT, mi_pC, ml_pi, ml_pl, ml_pr, ml_pN, ml_pT, ml_pC, mr_pi, mr_pl, mr_pr, mr_pN, mr_pT, mr_pC, mt_pi, mt_pl, mt_pr, mt_pN, mt_pT, mt_pC, mz_pi, mz_pl, mz_pr, mz_pN, mz_pT, mz_pC, ma_pi, ma_pl, ma_pr, ma_pN, ma_pT, ma_pC, mcs_0, mcs_i, mcs_l, mcs_r, mcs_n, csum_rf, Kn_v, Kn_0, Kn_x, mrf_some, kok_0, true_and, and_true, false_and, and_false, true_or, or_true, or_false, false_or, not_true_eq_false, not_false_eq_true, true_implies, false_implies, implies_true, forall_const, if_true, if_false, and_self, Nat.reduceEqDiff, Nat.reduceLeDiff, Nat.reduceSub, Nat.reduceAdd, Nat.zero_le, Nat.le_refl, i10, i01, kz0, kz1, eq_self, lt_le, Classical.not_not, Int32.reduceLT, Int32.reduceAdd, Int32.reduceSub, Int32.reduceMul, cl0, cl1, cl2, cl3, cl4, cl5, cl6, cl7, cl8, cl9, cl10, cl11, cl12, cl13, cl14, cl15, cl16, cl17, cl18, cl19, cl20, cl21, cl22, cl23, cl24, cl25, cl26, cl27, cl28, cl29, cl30, cl31, cl32, cl33, cl34, cl35, cl36, cl37, cl38, cl39, lg_cmp_eq, Kc_v, Kc_0, Sum.inl.injEq, Option.some.injEq, Value.int.injEq, exists_eq_left', Nat.reduceLT, hAe, i20, i30, kc0, kc1, kc2, kc3, kc4, kc5, kc6, kc7, kc8, kc9, kc10, kc11, kc12, kc13, kc14, kc15, kc16, kc17, kc18, kc19, kc20, kc21, kc22, kc23, kc24, kc25, kc26, kc27, kc28, kc29, kc30, kc31, kc32, kc33, kc34, kc35, kc36, kc37, kc38, kc39, kn3, kn4, kn18, kn21, kn23, kn24, kn25, kn26, kn27, kn29, kn30, kr0_0, kr0_1, kr0_2, kr0_3, kr0_4, kr0_5, kr0_7, kr0_8, kr0_9, kr0_10, kr1_0, kr2_0, kr5_0, kr5_1, kr6_0, kr6_1, kr7_0, kr7_1, kr8_0, kr9_0, kr10_0, kr11_0, kr12_0, kr13_0, kr14_0, kr15_0, kr16_0, kr17_0, kr19_0, kr19_1, kr22_0, kr22_1, kr22_2, kr22_3, kr22_4, kr22_5, kr22_7, kr22_8, kr25_0, kr25_1, kr25_2, kr26_0, kr26_1, kr26_2, kr29_0, kr29_1, kz, ki5_2, ki6_2, ki7_2, ki8_1, ki8_2, ki8_3, ki9_1, ki9_2, ki9_3, ki10_1, ki10_2, ki10_3, ki11_1, ki11_2, ki11_3, ki12_1, ki12_2, ki12_3, ki13_1, ki13_2, ki13_3, ki14_1, ki14_2, ki14_3, ki28_0, ki28_1, ki31_0, ki31_1, ki32_0, ki32_1, ki33_0, ki33_1, ki34_0, ki34_1, ki35_0, ki35_1, ki36_0, ki36_1, bq, bq2, bs, bx0, bx9]
        intro t ht
        first | refine ⟨⟨?_, ?_, ?_, ?_, ?_, ?_, ?_, ?_, ?_, ?_, ?_, ?_⟩, rfl⟩ | refine ⟨?_, ?_, ?_, ?_, ?_, ?_, ?_, ?_, ?_, ?_, ?_, ?_⟩
        · (try simp only [K_pi, K_pl, K_pC, K_cW, K_mW])
          exact K_pT ht vk
        · (try simp only [Cn_pi hA (j := 18) (by decide), Cn_pi hA (j := 22) (by decide), Cn_pi hA (j := 30) (by decide), Cn_pl, Cn_pT, Cn_pr])
          exact vcn
        · (try simp only [Vq0_pi hA (j := 18) (by decide), Vq0_pi hA (j := 22) (by decide), Vq0_pi hA (j := 30) (by decide), Vq0_pl, Vq0_pT, Vq0_pr])
          exact v0
        · (try simp only [Vq1_pi hA (j := 18) (by decide), Vq1_pi hA (j := 22) (by decide), Vq1_pi hA (j := 30) (by decide), Vq1_pl, Vq1_pT, Vq1_pr])
          exact v1
        · (try simp only [Vq2_pi hA (j := 18) (by decide), Vq2_pi hA (j := 22) (by decide), Vq2_pi hA (j := 30) (by decide), Vq2_pl, Vq2_pT, Vq2_pr])
          exact v2
        · (try simp only [Vp_pi hA (j := 18) (by decide), Vp_pi hA (j := 30) (by decide), Vp_thr hA, Vp_pl, Vp_pT, Vp_pr])
          exact vp
        · (try simp only [Vl0_pi hA (j := 18) (by decide), Vl0_pi hA (j := 22) (by decide), Vl0_pi hA (j := 30) (by decide), Vl0_pl, Vl0_pT, Vl0_pr])
          exact vl0
        · (try simp only [Vl1_pi hA (j := 18) (by decide), Vl1_pi hA (j := 22) (by decide), Vl1_pi hA (j := 30) (by decide), Vl1_pl, Vl1_pT, Vl1_pr])
          exact vl1
        · (try simp only [Vlr_pi hA (j := 18) (by decide), Vlr_pi hA (j := 22) (by decide), Vlr_pi hA (j := 30) (by decide), Vlr_pl hA (j := 39) (by decide), Vlr_pT, Vlr_pr])
          exact vlr
        · (try simp only [Vsr_pi hA (j := 18) (by decide), Vsr_pi hA (j := 22) (by decide), Vsr_pi hA (j := 30) (by decide), Vsr_pl hA (j := 39) (by decide), Vsr_pT, Vsr_pr])
          exact vsr
        · (try simp only [Vc_pi hA (j := 22) (by decide), Vc_pl, Vc_pT, Vc_pr])
          exact vc
        · (try simp only [Tx_pi hA (j := 18) (by decide), Tx_pi hA (j := 22) (by decide), Tx_pi hA (j := 30) (by decide), Tx_pl])
          exact Tx_pT ht tx
    · have y1 : ¬ q < 0 := fun z => bq (Or.inl z)
      have y2 : q < 3 := Classical.byContradiction fun z => bq (Or.inr z)
      have bq2 : (¬ q < 0 ∧ q < 3) = True := eq_true ⟨y1, y2⟩
      by_cases bs : s < 0 ∨ ¬ s < 6
      · have bs2 : (¬ s < 0 ∧ s < 6) = False := nrng bs
        rcases q_cases y1 y2 with rfl | rfl | rfl
        · skip
          simp only [o298_0, o298_2, o298_3, o298_4, o298_5, o298_6, o298_9, o298_10, o298_13, o298_16, o298_18, o298_19, o298_20, o298_22, o298_23, o298_24, o298_25, o66_0, o66_1, o66_2, o66_5, o66_7, o66_8, o66_11, o66_12, o66_15, o66_16, o66_18, o66_21, o66_24, o66_25, o66_28, o66_29, o66_32, o66_33, o66_34, o66_37, o66_38, o66_39, o66_41, o66_42, o66_45, o66_48, o66_51, o190_0, o190_1, o190_2, o190_5, o190_8, o190_9, o190_12, o190_15, o190_16, o190_19, o190_20, o190_21, o190_24, o190_25, o190_27, o190_30, o190_31, o190_34, o190_35, o190_38, o190_41, o190_42, o190_43, o190_44, o190_45, o190_46, o190_49, o190_52, o190_53, o190_54, o190_57, o190_60, o190_61, o190_62, o190_63, o190_64, o190_67, o190_68, o190_69, o190_70, o190_73, o190_74, o190_77, o190_80, hx_298_1, hx_298_2, c_X5_checkSlot, c_X8_isSlot, c_X8_isThrown, c_X8_isThrown_, c_X8_isThrown__, c_X8_isQueue, c_queueOf_bad, c_X5_checkAhead, c_queueOf_0, mc_pi, mc_pl, mc_pr, mc_pN, mc_pT, mc_pC, mn_pi, mn_pl, mn_pr, mn_pN, mn_pT, mn_pC, mi_pi, mi_pl, mi_pr, mi_pN, mi_pT, mi_pC, ml_pi, ml_pl, ml_pr, ml_pN, ml_pT, ml_pC, mr_pi, mr_pl, mr_pr, mr_pN, mr_pT, mr_pC, mt_pi, mt_pl, mt_pr, mt_pN, mt_pT, mt_pC, mz_pi, mz_pl, mz_pr, mz_pN, mz_pT, mz_pC, ma_pi, ma_pl, ma_pr, ma_pN, ma_pT, ma_pC, mcs_0, mcs_i, mcs_l, mcs_r, mcs_n, csum_rf, Kn_v, Kn_0, Kn_x, mrf_some, kok_0, true_and, and_true, false_and, and_false, true_or, or_true, or_false, false_or, not_true_eq_false, not_false_eq_true, true_implies, false_implies, implies_true, forall_const, if_true, if_false, and_self, Nat.reduceEqDiff, Nat.reduceLeDiff, Nat.reduceSub, Nat.reduceAdd, Nat.zero_le, Nat.le_refl, i10, i01, kz0, kz1, eq_self, lt_le, Classical.not_not, Int32.reduceLT, Int32.reduceAdd, Int32.reduceSub, Int32.reduceMul, cl0, cl1, cl2, cl3, cl4, cl5, cl6, cl7, cl8, cl9, cl10, cl11, cl12, cl13, cl14, cl15, cl16, cl17, cl18, cl19, cl20, cl21, cl22, cl23, cl24, cl25, cl26, cl27, cl28, cl29, cl30, cl31, cl32, cl33, cl34, cl35, cl36, cl37, cl38, cl39, lg_cmp_eq, Kc_v, Kc_0, Sum.inl.injEq, Option.some.injEq, Value.int.injEq, exists_eq_left', Nat.reduceLT, hAe, i20, i30, kc0, kc1, kc2, kc3, kc4, kc5, kc6, kc7, kc8, kc9, kc10, kc11, kc12, kc13, kc14, kc15, kc16, kc17, kc18, kc19, kc20, kc21, kc22, kc23, kc24, kc25, kc26, kc27, kc28, kc29, kc30, kc31, kc32, kc33, kc34, kc35, kc36, kc37, kc38, kc39, kn3, kn4, kn18, kn21, kn23, kn24, kn25, kn26, kn27, kn29, kn30, kr0_0, kr0_1, kr0_2, kr0_3, kr0_4, kr0_5, kr0_7, kr0_8, kr0_9, kr0_10, kr1_0, kr2_0, kr5_0, kr5_1, kr6_0, kr6_1, kr7_0, kr7_1, kr8_0, kr9_0, kr10_0, kr11_0, kr12_0, kr13_0, kr14_0, kr15_0, kr16_0, kr17_0, kr19_0, kr19_1, kr22_0, kr22_1, kr22_2, kr22_3, kr22_4, kr22_5, kr22_7, kr22_8, kr25_0, kr25_1, kr25_2, kr26_0, kr26_1, kr26_2, kr29_0, kr29_1, kz, ki5_2, ki6_2, ki7_2, ki8_1, ki8_2, ki8_3, ki9_1, ki9_2, ki9_3, ki10_1, ki10_2, ki10_3, ki11_1, ki11_2, ki11_3, ki12_1, ki12_2, ki12_3, ki13_1, ki13_2, ki13_3, ki14_1, ki14_2, ki14_3, ki28_0, ki28_1, ki31_0, ki31_1, ki32_0, ki32_1, ki33_0, ki33_1, ki34_0, ki34_1, ki35_0, ki35_1, ki36_0, ki36_1, bq0, bqq, vq3, bs, bs2, bx0, bx9]
          intro t ht
          first | refine ⟨⟨?_, ?_, ?_, ?_, ?_, ?_, ?_, ?_, ?_, ?_, ?_, ?_⟩, rfl⟩ | refine ⟨?_, ?_, ?_, ?_, ?_, ?_, ?_, ?_, ?_, ?_, ?_, ?_⟩
          · (try simp only [K_pi, K_pl, K_pC, K_cW, K_mW])
            exact K_pT ht vk
          · (try simp only [Cn_pi hA (j := 18) (by decide), Cn_pi hA (j := 22) (by decide), Cn_pi hA (j := 30) (by decide), Cn_pl, Cn_pT, Cn_pr])
            exact vcn
          · (try simp only [Vq0_pi hA (j := 18) (by decide), Vq0_pi hA (j := 22) (by decide), Vq0_pi hA (j := 30) (by decide), Vq0_pl, Vq0_pT, Vq0_pr])
            exact v0
          · (try simp only [Vq1_pi hA (j := 18) (by decide), Vq1_pi hA (j := 22) (by decide), Vq1_pi hA (j := 30) (by decide), Vq1_pl, Vq1_pT, Vq1_pr])
            exact v1
          · (try simp only [Vq2_pi hA (j := 18) (by decide), Vq2_pi hA (j := 22) (by decide), Vq2_pi hA (j := 30) (by decide), Vq2_pl, Vq2_pT, Vq2_pr])
            exact v2
          · (try simp only [Vp_pi hA (j := 18) (by decide), Vp_pi hA (j := 30) (by decide), Vp_thr hA, Vp_pl, Vp_pT, Vp_pr])
            exact vp
          · (try simp only [Vl0_pi hA (j := 18) (by decide), Vl0_pi hA (j := 22) (by decide), Vl0_pi hA (j := 30) (by decide), Vl0_pl, Vl0_pT, Vl0_pr])
            exact vl0
          · (try simp only [Vl1_pi hA (j := 18) (by decide), Vl1_pi hA (j := 22) (by decide), Vl1_pi hA (j := 30) (by decide), Vl1_pl, Vl1_pT, Vl1_pr])
            exact vl1
          · (try simp only [Vlr_pi hA (j := 18) (by decide), Vlr_pi hA (j := 22) (by decide), Vlr_pi hA (j := 30) (by decide), Vlr_pl hA (j := 39) (by decide), Vlr_pT, Vlr_pr])
            exact vlr
          · (try simp only [Vsr_pi hA (j := 18) (by decide), Vsr_pi hA (j := 22) (by decide), Vsr_pi hA (j := 30) (by decide), Vsr_pl hA (j := 39) (by decide), Vsr_pT, Vsr_pr])
            exact vsr
          · (try simp only [Vc_pi hA (j := 22) (by decide), Vc_pl, Vc_pT, Vc_pr])
            exact vc
          · (try simp only [Tx_pi hA (j := 18) (by decide), Tx_pi hA (j := 22) (by decide), Tx_pi hA (j := 30) (by decide), Tx_pl])
            exact Tx_pT ht tx
        · skip
          simp only [o298_0, o298_2, o298_3, o298_4, o298_5, o298_6, o298_9, o298_10, o298_13, o298_16, o298_18, o298_19, o298_20, o298_22, o298_23, o298_24, o298_25, o66_0, o66_1, o66_2, o66_5, o66_7, o66_8, o66_11, o66_12, o66_15, o66_16, o66_18, o66_21, o66_24, o66_25, o66_28, o66_29, o66_32, o66_33, o66_34, o66_37, o66_38, o66_39, o66_41, o66_42, o66_45, o66_48, o66_51, o190_0, o190_1, o190_2, o190_5, o190_8, o190_9, o190_12, o190_15, o190_16, o190_19, o190_20, o190_21, o190_24, o190_25, o190_27, o190_30, o190_31, o190_34, o190_35, o190_38, o190_41, o190_42, o190_43, o190_44, o190_45, o190_46, o190_49, o190_52, o190_53, o190_54, o190_57, o190_60, o190_61, o190_62, o190_63, o190_64, o190_67, o190_68, o190_69, o190_70, o190_73, o190_74, o190_77, o190_80, hx_298_1, hx_298_2, c_X5_checkSlot, c_X8_isSlot, c_X8_isThrown, c_X8_isThrown_, c_X8_isThrown__, c_X8_isQueue, c_queueOf_bad, c_X5_checkAhead, c_queueOf_1, mc_pi, mc_pl, mc_pr, mc_pN, mc_pT, mc_pC, mn_pi, mn_pl, mn_pr, mn_pN, mn_pT, mn_pC, mi_pi, mi_pl, mi_pr, mi_pN, mi_pT, mi_pC, ml_pi, ml_pl, ml_pr, ml_pN, ml_pT, ml_pC, mr_pi, mr_pl, mr_pr, mr_pN, mr_pT, mr_pC, mt_pi, mt_pl, mt_pr, mt_pN, mt_pT, mt_pC, mz_pi, mz_pl, mz_pr, mz_pN, mz_pT, mz_pC, ma_pi, ma_pl, ma_pr, ma_pN, ma_pT, ma_pC, mcs_0, mcs_i, mcs_l, mcs_r, mcs_n, csum_rf, Kn_v, Kn_0, Kn_x, mrf_some, kok_0, true_and, and_true, false_and, and_false, true_or, or_true, or_false, false_or, not_true_eq_false, not_false_eq_true, true_implies, false_implies, implies_true, forall_const, if_true, if_false, and_self, Nat.reduceEqDiff, Nat.reduceLeDiff, Nat.reduceSub, Nat.reduceAdd, Nat.zero_le, Nat.le_refl, i10, i01, kz0, kz1, eq_self, lt_le, Classical.not_not, Int32.reduceLT, Int32.reduceAdd, Int32.reduceSub, Int32.reduceMul, cl0, cl1, cl2, cl3, cl4, cl5, cl6, cl7, cl8, cl9, cl10, cl11, cl12, cl13, cl14, cl15, cl16, cl17, cl18, cl19, cl20, cl21, cl22, cl23, cl24, cl25, cl26, cl27, cl28, cl29, cl30, cl31, cl32, cl33, cl34, cl35, cl36, cl37, cl38, cl39, lg_cmp_eq, Kc_v, Kc_0, Sum.inl.injEq, Option.some.injEq, Value.int.injEq, exists_eq_left', Nat.reduceLT, hAe, i20, i30, kc0, kc1, kc2, kc3, kc4, kc5, kc6, kc7, kc8, kc9, kc10, kc11, kc12, kc13, kc14, kc15, kc16, kc17, kc18, kc19, kc20, kc21, kc22, kc23, kc24, kc25, kc26, kc27, kc28, kc29, kc30, kc31, kc32, kc33, kc34, kc35, kc36, kc37, kc38, kc39, kn3, kn4, kn18, kn21, kn23, kn24, kn25, kn26, kn27, kn29, kn30, kr0_0, kr0_1, kr0_2, kr0_3, kr0_4, kr0_5, kr0_7, kr0_8, kr0_9, kr0_10, kr1_0, kr2_0, kr5_0, kr5_1, kr6_0, kr6_1, kr7_0, kr7_1, kr8_0, kr9_0, kr10_0, kr11_0, kr12_0, kr13_0, kr14_0, kr15_0, kr16_0, kr17_0, kr19_0, kr19_1, kr22_0, kr22_1, kr22_2, kr22_3, kr22_4, kr22_5, kr22_7, kr22_8, kr25_0, kr25_1, kr25_2, kr26_0, kr26_1, kr26_2, kr29_0, kr29_1, kz, ki5_2, ki6_2, ki7_2, ki8_1, ki8_2, ki8_3, ki9_1, ki9_2, ki9_3, ki10_1, ki10_2, ki10_3, ki11_1, ki11_2, ki11_3, ki12_1, ki12_2, ki12_3, ki13_1, ki13_2, ki13_3, ki14_1, ki14_2, ki14_3, ki28_0, ki28_1, ki31_0, ki31_1, ki32_0, ki32_1, ki33_0, ki33_1, ki34_0, ki34_1, ki35_0, ki35_1, ki36_0, ki36_1, bq0, bqq, vq3, bs, bs2, bx0, bx9]
          intro t ht
          first | refine ⟨⟨?_, ?_, ?_, ?_, ?_, ?_, ?_, ?_, ?_, ?_, ?_, ?_⟩, rfl⟩ | refine ⟨?_, ?_, ?_, ?_, ?_, ?_, ?_, ?_, ?_, ?_, ?_, ?_⟩
          · (try simp only [K_pi, K_pl, K_pC, K_cW, K_mW])
            exact K_pT ht vk
          · (try simp only [Cn_pi hA (j := 18) (by decide), Cn_pi hA (j := 22) (by decide), Cn_pi hA (j := 30) (by decide), Cn_pl, Cn_pT, Cn_pr])
            exact vcn
          · (try simp only [Vq0_pi hA (j := 18) (by decide), Vq0_pi hA (j := 22) (by decide), Vq0_pi hA (j := 30) (by decide), Vq0_pl, Vq0_pT, Vq0_pr])
            exact v0
          · (try simp only [Vq1_pi hA (j := 18) (by decide), Vq1_pi hA (j := 22) (by decide), Vq1_pi hA (j := 30) (by decide), Vq1_pl, Vq1_pT, Vq1_pr])
            exact v1
          · (try simp only [Vq2_pi hA (j := 18) (by decide), Vq2_pi hA (j := 22) (by decide), Vq2_pi hA (j := 30) (by decide), Vq2_pl, Vq2_pT, Vq2_pr])
            exact v2
          · (try simp only [Vp_pi hA (j := 18) (by decide), Vp_pi hA (j := 30) (by decide), Vp_thr hA, Vp_pl, Vp_pT, Vp_pr])
            exact vp
          · (try simp only [Vl0_pi hA (j := 18) (by decide), Vl0_pi hA (j := 22) (by decide), Vl0_pi hA (j := 30) (by decide), Vl0_pl, Vl0_pT, Vl0_pr])
            exact vl0
          · (try simp only [Vl1_pi hA (j := 18) (by decide), Vl1_pi hA (j := 22) (by decide), Vl1_pi hA (j := 30) (by decide), Vl1_pl, Vl1_pT, Vl1_pr])
            exact vl1
          · (try simp only [Vlr_pi hA (j := 18) (by decide), Vlr_pi hA (j := 22) (by decide), Vlr_pi hA (j := 30) (by decide), Vlr_pl hA (j := 39) (by decide), Vlr_pT, Vlr_pr])
            exact vlr
          · (try simp only [Vsr_pi hA (j := 18) (by decide), Vsr_pi hA (j := 22) (by decide), Vsr_pi hA (j := 30) (by decide), Vsr_pl hA (j := 39) (by decide), Vsr_pT, Vsr_pr])
            exact vsr
          · (try simp only [Vc_pi hA (j := 22) (by decide), Vc_pl, Vc_pT, Vc_pr])
            exact vc
          · (try simp only [Tx_pi hA (j := 18) (by decide), Tx_pi hA (j := 22) (by decide), Tx_pi hA (j := 30) (by decide), Tx_pl])
            exact Tx_pT ht tx
        · skip
          simp only [o298_0, o298_2, o298_3, o298_4, o298_5, o298_6, o298_9, o298_10, o298_13, o298_16, o298_18, o298_19, o298_20, o298_22, o298_23, o298_24, o298_25, o66_0, o66_1, o66_2, o66_5, o66_7, o66_8, o66_11, o66_12, o66_15, o66_16, o66_18, o66_21, o66_24, o66_25, o66_28, o66_29, o66_32, o66_33, o66_34, o66_37, o66_38, o66_39, o66_41, o66_42, o66_45, o66_48, o66_51, o190_0, o190_1, o190_2, o190_5, o190_8, o190_9, o190_12, o190_15, o190_16, o190_19, o190_20, o190_21, o190_24, o190_25, o190_27, o190_30, o190_31, o190_34, o190_35, o190_38, o190_41, o190_42, o190_43, o190_44, o190_45, o190_46, o190_49, o190_52, o190_53, o190_54, o190_57, o190_60, o190_61, o190_62, o190_63, o190_64, o190_67, o190_68, o190_69, o190_70, o190_73, o190_74, o190_77, o190_80, hx_298_1, hx_298_2, c_X5_checkSlot, c_X8_isSlot, c_X8_isThrown, c_X8_isThrown_, c_X8_isThrown__, c_X8_isQueue, c_queueOf_bad, c_X5_checkAhead, c_queueOf_2, mc_pi, mc_pl, mc_pr, mc_pN, mc_pT, mc_pC, mn_pi, mn_pl, mn_pr, mn_pN, mn_pT, mn_pC, mi_pi, mi_pl, mi_pr, mi_pN, mi_pT, mi_pC, ml_pi, ml_pl, ml_pr, ml_pN, ml_pT, ml_pC, mr_pi, mr_pl, mr_pr, mr_pN, mr_pT, mr_pC, mt_pi, mt_pl, mt_pr, mt_pN, mt_pT, mt_pC, mz_pi, mz_pl, mz_pr, mz_pN, mz_pT, mz_pC, ma_pi, ma_pl, ma_pr, ma_pN, ma_pT, ma_pC, mcs_0, mcs_i, mcs_l, mcs_r, mcs_n, csum_rf, Kn_v, Kn_0, Kn_x, mrf_some, kok_0, true_and, and_true, false_and, and_false, true_or, or_true, or_false, false_or, not_true_eq_false, not_false_eq_true, true_implies, false_implies, implies_true, forall_const, if_true, if_false, and_self, Nat.reduceEqDiff, Nat.reduceLeDiff, Nat.reduceSub, Nat.reduceAdd, Nat.zero_le, Nat.le_refl, i10, i01, kz0, kz1, eq_self, lt_le, Classical.not_not, Int32.reduceLT, Int32.reduceAdd, Int32.reduceSub, Int32.reduceMul, cl0, cl1, cl2, cl3, cl4, cl5, cl6, cl7, cl8, cl9, cl10, cl11, cl12, cl13, cl14, cl15, cl16, cl17, cl18, cl19, cl20, cl21, cl22, cl23, cl24, cl25, cl26, cl27, cl28, cl29, cl30, cl31, cl32, cl33, cl34, cl35, cl36, cl37, cl38, cl39, lg_cmp_eq, Kc_v, Kc_0, Sum.inl.injEq, Option.some.injEq, Value.int.injEq, exists_eq_left', Nat.reduceLT, hAe, i20, i30, kc0, kc1, kc2, kc3, kc4, kc5, kc6, kc7, kc8, kc9, kc10, kc11, kc12, kc13, kc14, kc15, kc16, kc17, kc18, kc19, kc20, kc21, kc22, kc23, kc24, kc25, kc26, kc27, kc28, kc29, kc30, kc31, kc32, kc33, kc34, kc35, kc36, kc37, kc38, kc39, kn3, kn4, kn18, kn21, kn23, kn24, kn25, kn26, kn27, kn29, kn30, kr0_0, kr0_1, kr0_2, kr0_3, kr0_4, kr0_5, kr0_7, kr0_8, kr0_9, kr0_10, kr1_0, kr2_0, kr5_0, kr5_1, kr6_0, kr6_1, kr7_0, kr7_1, kr8_0, kr9_0, kr10_0, kr11_0, kr12_0, kr13_0, kr14_0, kr15_0, kr16_0, kr17_0, kr19_0, kr19_1, kr22_0, kr22_1, kr22_2, kr22_3, kr22_4, kr22_5, kr22_7, kr22_8, kr25_0, kr25_1, kr25_2, kr26_0, kr26_1, kr26_2, kr29_0, kr29_1, kz, ki5_2, ki6_2, ki7_2, ki8_1, ki8_2, ki8_3, ki9_1, ki9_2, ki9_3, ki10_1, ki10_2, ki10_3, ki11_1, ki11_2, ki11_3, ki12_1, ki12_2, ki12_3, ki13_1, ki13_2, ki13_3, ki14_1, ki14_2, ki14_3, ki28_0, ki28_1, ki31_0, ki31_1, ki32_0, ki32_1, ki33_0, ki33_1, ki34_0, ki34_1, ki35_0, ki35_1, ki36_0, ki36_1, bq0, bqq, vq3, bs, bs2, bx0, bx9]
          intro t ht
          first | refine ⟨⟨?_, ?_, ?_, ?_, ?_, ?_, ?_, ?_, ?_, ?_, ?_, ?_⟩, rfl⟩ | refine ⟨?_, ?_, ?_, ?_, ?_, ?_, ?_, ?_, ?_, ?_, ?_, ?_⟩
          · (try simp only [K_pi, K_pl, K_pC, K_cW, K_mW])
            exact K_pT ht vk
          · (try simp only [Cn_pi hA (j := 18) (by decide), Cn_pi hA (j := 22) (by decide), Cn_pi hA (j := 30) (by decide), Cn_pl, Cn_pT, Cn_pr])
            exact vcn
          · (try simp only [Vq0_pi hA (j := 18) (by decide), Vq0_pi hA (j := 22) (by decide), Vq0_pi hA (j := 30) (by decide), Vq0_pl, Vq0_pT, Vq0_pr])
            exact v0
          · (try simp only [Vq1_pi hA (j := 18) (by decide), Vq1_pi hA (j := 22) (by decide), Vq1_pi hA (j := 30) (by decide), Vq1_pl, Vq1_pT, Vq1_pr])
            exact v1
          · (try simp only [Vq2_pi hA (j := 18) (by decide), Vq2_pi hA (j := 22) (by decide), Vq2_pi hA (j := 30) (by decide), Vq2_pl, Vq2_pT, Vq2_pr])
            exact v2
          · (try simp only [Vp_pi hA (j := 18) (by decide), Vp_pi hA (j := 30) (by decide), Vp_thr hA, Vp_pl, Vp_pT, Vp_pr])
            exact vp
          · (try simp only [Vl0_pi hA (j := 18) (by decide), Vl0_pi hA (j := 22) (by decide), Vl0_pi hA (j := 30) (by decide), Vl0_pl, Vl0_pT, Vl0_pr])
            exact vl0
          · (try simp only [Vl1_pi hA (j := 18) (by decide), Vl1_pi hA (j := 22) (by decide), Vl1_pi hA (j := 30) (by decide), Vl1_pl, Vl1_pT, Vl1_pr])
            exact vl1
          · (try simp only [Vlr_pi hA (j := 18) (by decide), Vlr_pi hA (j := 22) (by decide), Vlr_pi hA (j := 30) (by decide), Vlr_pl hA (j := 39) (by decide), Vlr_pT, Vlr_pr])
            exact vlr
          · (try simp only [Vsr_pi hA (j := 18) (by decide), Vsr_pi hA (j := 22) (by decide), Vsr_pi hA (j := 30) (by decide), Vsr_pl hA (j := 39) (by decide), Vsr_pT, Vsr_pr])
            exact vsr
          · (try simp only [Vc_pi hA (j := 22) (by decide), Vc_pl, Vc_pT, Vc_pr])
            exact vc
          · (try simp only [Tx_pi hA (j := 18) (by decide), Tx_pi hA (j := 22) (by decide), Tx_pi hA (j := 30) (by decide), Tx_pl])
            exact Tx_pT ht tx
      · have s1 : ¬ s < 0 := fun z => bs (Or.inl z)
        have s2 : s < 6 := Classical.byContradiction fun z => bs (Or.inr z)
        have hs := ix_ok s1 s2
        have hs2 := hs
        obtain ⟨⟨j0, j1, j2, j3⟩, d01, d02, d03, d10, d12, d13, d20, d21, d23, d30, d31, d32⟩ := hs2
        obtain ⟨l0, l1, l2, l3⟩ := ix_lt hs
        have vs0 := (vsr _ l0).1
        have vs1 := (vsr _ l1).1
        have vs2 := (vsr _ l2).1
        have vs3 := (vsr _ l3).1
        have bs2 : (¬ s < 0 ∧ s < 6) = True := eq_true ⟨s1, s2⟩
        rcases q_cases y1 y2 with rfl | rfl | rfl
        · skip
          simp only [o298_0, o298_2, o298_3, o298_4, o298_5, o298_6, o298_9, o298_10, o298_13, o298_16, o298_18, o298_19, o298_20, o298_22, o298_23, o298_24, o298_25, o66_0, o66_1, o66_2, o66_5, o66_7, o66_8, o66_11, o66_12, o66_15, o66_16, o66_18, o66_21, o66_24, o66_25, o66_28, o66_29, o66_32, o66_33, o66_34, o66_37, o66_38, o66_39, o66_41, o66_42, o66_45, o66_48, o66_51, o190_0, o190_1, o190_2, o190_5, o190_8, o190_9, o190_12, o190_15, o190_16, o190_19, o190_20, o190_21, o190_24, o190_25, o190_27, o190_30, o190_31, o190_34, o190_35, o190_38, o190_41, o190_42, o190_43, o190_44, o190_45, o190_46, o190_49, o190_52, o190_53, o190_54, o190_57, o190_60, o190_61, o190_62, o190_63, o190_64, o190_67, o190_68, o190_69, o190_70, o190_73, o190_74, o190_77, o190_80, hx_298_1, hx_298_2, c_X5_checkSlot, c_X8_isSlot, c_X8_isThrown, c_X8_isThrown_, c_X8_isThrown__, c_X8_isQueue, c_queueOf_bad, c_X5_checkAhead, c_queueOf_0, mc_pi, mc_pl, mc_pr, mc_pN, mc_pT, mc_pC, mn_pi, mn_pl, mn_pr, mn_pN, mn_pT, mn_pC, mi_pi, mi_pl, mi_pr, mi_pN, mi_pT, mi_pC, ml_pi, ml_pl, ml_pr, ml_pN, ml_pT, ml_pC, mr_pi, mr_pl, mr_pr, mr_pN, mr_pT, mr_pC, mt_pi, mt_pl, mt_pr, mt_pN, mt_pT, mt_pC, mz_pi, mz_pl, mz_pr, mz_pN, mz_pT, mz_pC, ma_pi, ma_pl, ma_pr, ma_pN, ma_pT, ma_pC, mcs_0, mcs_i, mcs_l, mcs_r, mcs_n, csum_rf, Kn_v, Kn_0, Kn_x, mrf_some, kok_0, true_and, and_true, false_and, and_false, true_or, or_true, or_false, false_or, not_true_eq_false, not_false_eq_true, true_implies, false_implies, implies_true, forall_const, if_true, if_false, and_self, Nat.reduceEqDiff, Nat.reduceLeDiff, Nat.reduceSub, Nat.reduceAdd, Nat.zero_le, Nat.le_refl, i10, i01, kz0, kz1, eq_self, lt_le, Classical.not_not, Int32.reduceLT, Int32.reduceAdd, Int32.reduceSub, Int32.reduceMul, cl0, cl1, cl2, cl3, cl4, cl5, cl6, cl7, cl8, cl9, cl10, cl11, cl12, cl13, cl14, cl15, cl16, cl17, cl18, cl19, cl20, cl21, cl22, cl23, cl24, cl25, cl26, cl27, cl28, cl29, cl30, cl31, cl32, cl33, cl34, cl35, cl36, cl37, cl38, cl39, lg_cmp_eq, Kc_v, Kc_0, Sum.inl.injEq, Option.some.injEq, Value.int.injEq, exists_eq_left', Nat.reduceLT, hAe, i20, i30, kc0, kc1, kc2, kc3, kc4, kc5, kc6, kc7, kc8, kc9, kc10, kc11, kc12, kc13, kc14, kc15, kc16, kc17, kc18, kc19, kc20, kc21, kc22, kc23, kc24, kc25, kc26, kc27, kc28, kc29, kc30, kc31, kc32, kc33, kc34, kc35, kc36, kc37, kc38, kc39, kn3, kn4, kn18, kn21, kn23, kn24, kn25, kn26, kn27, kn29, kn30, kr0_0, kr0_1, kr0_2, kr0_3, kr0_4, kr0_5, kr0_7, kr0_8, kr0_9, kr0_10, kr1_0, kr2_0, kr5_0, kr5_1, kr6_0, kr6_1, kr7_0, kr7_1, kr8_0, kr9_0, kr10_0, kr11_0, kr12_0, kr13_0, kr14_0, kr15_0, kr16_0, kr17_0, kr19_0, kr19_1, kr22_0, kr22_1, kr22_2, kr22_3, kr22_4, kr22_5, kr22_7, kr22_8, kr25_0, kr25_1, kr25_2, kr26_0, kr26_1, kr26_2, kr29_0, kr29_1, kz, ki5_2, ki6_2, ki7_2, ki8_1, ki8_2, ki8_3, ki9_1, ki9_2, ki9_3, ki10_1, ki10_2, ki10_3, ki11_1, ki11_2, ki11_3, ki12_1, ki12_2, ki12_3, ki13_1, ki13_2, ki13_3, ki14_1, ki14_2, ki14_3, ki28_0, ki28_1, ki31_0, ki31_1, ki32_0, ki32_1, ki33_0, ki33_1, ki34_0, ki34_1, ki35_0, ki35_1, ki36_0, ki36_1, bq0, bqq, vq3, s1, s2, bs2, hs, d01, d02, d03, d10, d12, d13, d20, d21, d23, d30, d31, d32, vs0, vs1, vs2, vs3, i64_inj, i64_back, fo0, fo1, fo2, fo3, nm_eq, bx0, bx9]
          intro t ht
          first | refine ⟨⟨?_, ?_, ?_, ?_, ?_, ?_, ?_, ?_, ?_, ?_, ?_, ?_⟩, rfl⟩ | refine ⟨?_, ?_, ?_, ?_, ?_, ?_, ?_, ?_, ?_, ?_, ?_, ?_⟩
          · (try simp only [K_pi, K_pl, K_pC, K_cW, K_mW])
            exact K_pT ht vk
          · (try simp only [Cn_pi hA (j := 18) (by decide), Cn_pi hA (j := 22) (by decide), Cn_pi hA (j := 30) (by decide), Cn_pl, Cn_pT, Cn_pr])
            exact vcn
          · (try simp only [Vq0_pi hA (j := 18) (by decide), Vq0_pi hA (j := 22) (by decide), Vq0_pi hA (j := 30) (by decide), Vq0_pl, Vq0_pT, Vq0_pr])
            exact v0
          · (try simp only [Vq1_pi hA (j := 18) (by decide), Vq1_pi hA (j := 22) (by decide), Vq1_pi hA (j := 30) (by decide), Vq1_pl, Vq1_pT, Vq1_pr])
            exact v1
          · (try simp only [Vq2_pi hA (j := 18) (by decide), Vq2_pi hA (j := 22) (by decide), Vq2_pi hA (j := 30) (by decide), Vq2_pl, Vq2_pT, Vq2_pr])
            exact v2
          · (try simp only [Vp_pi hA (j := 18) (by decide), Vp_pi hA (j := 30) (by decide), Vp_thr hA, Vp_pl, Vp_pT, Vp_pr])
            exact vp
          · (try simp only [Vl0_pi hA (j := 18) (by decide), Vl0_pi hA (j := 22) (by decide), Vl0_pi hA (j := 30) (by decide), Vl0_pl, Vl0_pT, Vl0_pr])
            exact vl0
          · (try simp only [Vl1_pi hA (j := 18) (by decide), Vl1_pi hA (j := 22) (by decide), Vl1_pi hA (j := 30) (by decide), Vl1_pl, Vl1_pT, Vl1_pr])
            exact vl1
          · (try simp only [Vlr_pi hA (j := 18) (by decide), Vlr_pi hA (j := 22) (by decide), Vlr_pi hA (j := 30) (by decide), Vlr_pl hA (j := 39) (by decide), Vlr_pT, Vlr_pr])
            exact vlr
          · (try simp only [Vsr_pi hA (j := 18) (by decide), Vsr_pi hA (j := 22) (by decide), Vsr_pi hA (j := 30) (by decide), Vsr_pl hA (j := 39) (by decide), Vsr_pT, Vsr_pr])
            exact vsr
          · (try simp only [Vc_pi hA (j := 22) (by decide), Vc_pl, Vc_pT, Vc_pr])
            exact vc
          · (try simp only [Tx_pi hA (j := 18) (by decide), Tx_pi hA (j := 22) (by decide), Tx_pi hA (j := 30) (by decide), Tx_pl])
            exact Tx_pT ht tx
        · skip
          simp only [o298_0, o298_2, o298_3, o298_4, o298_5, o298_6, o298_9, o298_10, o298_13, o298_16, o298_18, o298_19, o298_20, o298_22, o298_23, o298_24, o298_25, o66_0, o66_1, o66_2, o66_5, o66_7, o66_8, o66_11, o66_12, o66_15, o66_16, o66_18, o66_21, o66_24, o66_25, o66_28, o66_29, o66_32, o66_33, o66_34, o66_37, o66_38, o66_39, o66_41, o66_42, o66_45, o66_48, o66_51, o190_0, o190_1, o190_2, o190_5, o190_8, o190_9, o190_12, o190_15, o190_16, o190_19, o190_20, o190_21, o190_24, o190_25, o190_27, o190_30, o190_31, o190_34, o190_35, o190_38, o190_41, o190_42, o190_43, o190_44, o190_45, o190_46, o190_49, o190_52, o190_53, o190_54, o190_57, o190_60, o190_61, o190_62, o190_63, o190_64, o190_67, o190_68, o190_69, o190_70, o190_73, o190_74, o190_77, o190_80, hx_298_1, hx_298_2, c_X5_checkSlot, c_X8_isSlot, c_X8_isThrown, c_X8_isThrown_, c_X8_isThrown__, c_X8_isQueue, c_queueOf_bad, c_X5_checkAhead, c_queueOf_1, mc_pi, mc_pl, mc_pr, mc_pN, mc_pT, mc_pC, mn_pi, mn_pl, mn_pr, mn_pN, mn_pT, mn_pC, mi_pi, mi_pl, mi_pr, mi_pN, mi_pT, mi_pC, ml_pi, ml_pl, ml_pr, ml_pN, ml_pT, ml_pC, mr_pi, mr_pl, mr_pr, mr_pN, mr_pT, mr_pC, mt_pi, mt_pl, mt_pr, mt_pN, mt_pT, mt_pC, mz_pi, mz_pl, mz_pr, mz_pN, mz_pT, mz_pC, ma_pi, ma_pl, ma_pr, ma_pN, ma_pT, ma_pC, mcs_0, mcs_i, mcs_l, mcs_r, mcs_n, csum_rf, Kn_v, Kn_0, Kn_x, mrf_some, kok_0, true_and, and_true, false_and, and_false, true_or, or_true, or_false, false_or, not_true_eq_false, not_false_eq_true, true_implies, false_implies, implies_true, forall_const, if_true, if_false, and_self, Nat.reduceEqDiff, Nat.reduceLeDiff, Nat.reduceSub, Nat.reduceAdd, Nat.zero_le, Nat.le_refl, i10, i01, kz0, kz1, eq_self, lt_le, Classical.not_not, Int32.reduceLT, Int32.reduceAdd, Int32.reduceSub, Int32.reduceMul, cl0, cl1, cl2, cl3, cl4, cl5, cl6, cl7, cl8, cl9, cl10, cl11, cl12, cl13, cl14, cl15, cl16, cl17, cl18, cl19, cl20, cl21, cl22, cl23, cl24, cl25, cl26, cl27, cl28, cl29, cl30, cl31, cl32, cl33, cl34, cl35, cl36, cl37, cl38, cl39, lg_cmp_eq, Kc_v, Kc_0, Sum.inl.injEq, Option.some.injEq, Value.int.injEq, exists_eq_left', Nat.reduceLT, hAe, i20, i30, kc0, kc1, kc2, kc3, kc4, kc5, kc6, kc7, kc8, kc9, kc10, kc11, kc12, kc13, kc14, kc15, kc16, kc17, kc18, kc19, kc20, kc21, kc22, kc23, kc24, kc25, kc26, kc27, kc28, kc29, kc30, kc31, kc32, kc33, kc34, kc35, kc36, kc37, kc38, kc39, kn3, kn4, kn18, kn21, kn23, kn24, kn25, kn26, kn27, kn29, kn30, kr0_0, kr0_1, kr0_2, kr0_3, kr0_4, kr0_5, kr0_7, kr0_8, kr0_9, kr0_10, kr1_0, kr2_0, kr5_0, kr5_1, kr6_0, kr6_1, kr7_0, kr7_1, kr8_0, kr9_0, kr10_0, kr11_0, kr12_0, kr13_0, kr14_0, kr15_0, kr16_0, kr17_0, kr19_0, kr19_1, kr22_0, kr22_1, kr22_2, kr22_3, kr22_4, kr22_5, kr22_7, kr22_8, kr25_0, kr25_1, kr25_2, kr26_0, kr26_1, kr26_2, kr29_0, kr29_1, kz, ki5_2, ki6_2, ki7_2, ki8_1, ki8_2, ki8_3, ki9_1, ki9_2, ki9_3, ki10_1, ki10_2, ki10_3, ki11_1, ki11_2, ki11_3, ki12_1, ki12_2, ki12_3, ki13_1, ki13_2, ki13_3, ki14_1, ki14_2, ki14_3, ki28_0, ki28_1, ki31_0, ki31_1, ki32_0, ki32_1, ki33_0, ki33_1, ki34_0, ki34_1, ki35_0, ki35_1, ki36_0, ki36_1, bq0, bqq, vq3, s1, s2, bs2, hs, d01, d02, d03, d10, d12, d13, d20, d21, d23, d30, d31, d32, vs0, vs1, vs2, vs3, i64_inj, i64_back, fo0, fo1, fo2, fo3, nm_eq, bx0, bx9]
          intro t ht
          first | refine ⟨⟨?_, ?_, ?_, ?_, ?_, ?_, ?_, ?_, ?_, ?_, ?_, ?_⟩, rfl⟩ | refine ⟨?_, ?_, ?_, ?_, ?_, ?_, ?_, ?_, ?_, ?_, ?_, ?_⟩
          · (try simp only [K_pi, K_pl, K_pC, K_cW, K_mW])
            exact K_pT ht vk
          · (try simp only [Cn_pi hA (j := 18) (by decide), Cn_pi hA (j := 22) (by decide), Cn_pi hA (j := 30) (by decide), Cn_pl, Cn_pT, Cn_pr])
            exact vcn
          · (try simp only [Vq0_pi hA (j := 18) (by decide), Vq0_pi hA (j := 22) (by decide), Vq0_pi hA (j := 30) (by decide), Vq0_pl, Vq0_pT, Vq0_pr])
            exact v0
          · (try simp only [Vq1_pi hA (j := 18) (by decide), Vq1_pi hA (j := 22) (by decide), Vq1_pi hA (j := 30) (by decide), Vq1_pl, Vq1_pT, Vq1_pr])
            exact v1
          · (try simp only [Vq2_pi hA (j := 18) (by decide), Vq2_pi hA (j := 22) (by decide), Vq2_pi hA (j := 30) (by decide), Vq2_pl, Vq2_pT, Vq2_pr])
            exact v2
          · (try simp only [Vp_pi hA (j := 18) (by decide), Vp_pi hA (j := 30) (by decide), Vp_thr hA, Vp_pl, Vp_pT, Vp_pr])
            exact vp
          · (try simp only [Vl0_pi hA (j := 18) (by decide), Vl0_pi hA (j := 22) (by decide), Vl0_pi hA (j := 30) (by decide), Vl0_pl, Vl0_pT, Vl0_pr])
            exact vl0
          · (try simp only [Vl1_pi hA (j := 18) (by decide), Vl1_pi hA (j := 22) (by decide), Vl1_pi hA (j := 30) (by decide), Vl1_pl, Vl1_pT, Vl1_pr])
            exact vl1
          · (try simp only [Vlr_pi hA (j := 18) (by decide), Vlr_pi hA (j := 22) (by decide), Vlr_pi hA (j := 30) (by decide), Vlr_pl hA (j := 39) (by decide), Vlr_pT, Vlr_pr])
            exact vlr
          · (try simp only [Vsr_pi hA (j := 18) (by decide), Vsr_pi hA (j := 22) (by decide), Vsr_pi hA (j := 30) (by decide), Vsr_pl hA (j := 39) (by decide), Vsr_pT, Vsr_pr])
            exact vsr
          · (try simp only [Vc_pi hA (j := 22) (by decide), Vc_pl, Vc_pT, Vc_pr])
            exact vc
          · (try simp only [Tx_pi hA (j := 18) (by decide), Tx_pi hA (j := 22) (by decide), Tx_pi hA (j := 30) (by decide), Tx_pl])
            exact Tx_pT ht tx
        · skip
          simp only [o298_0, o298_2, o298_3, o298_4, o298_5, o298_6, o298_9, o298_10, o298_13, o298_16, o298_18, o298_19, o298_20, o298_22, o298_23, o298_24, o298_25, o66_0, o66_1, o66_2, o66_5, o66_7, o66_8, o66_11, o66_12, o66_15, o66_16, o66_18, o66_21, o66_24, o66_25, o66_28, o66_29, o66_32, o66_33, o66_34, o66_37, o66_38, o66_39, o66_41, o66_42, o66_45, o66_48, o66_51, o190_0, o190_1, o190_2, o190_5, o190_8, o190_9, o190_12, o190_15, o190_16, o190_19, o190_20, o190_21, o190_24, o190_25, o190_27, o190_30, o190_31, o190_34, o190_35, o190_38, o190_41, o190_42, o190_43, o190_44, o190_45, o190_46, o190_49, o190_52, o190_53, o190_54, o190_57, o190_60, o190_61, o190_62, o190_63, o190_64, o190_67, o190_68, o190_69, o190_70, o190_73, o190_74, o190_77, o190_80, hx_298_1, hx_298_2, c_X5_checkSlot, c_X8_isSlot, c_X8_isThrown, c_X8_isThrown_, c_X8_isThrown__, c_X8_isQueue, c_queueOf_bad, c_X5_checkAhead, c_queueOf_2, mc_pi, mc_pl, mc_pr, mc_pN, mc_pT, mc_pC, mn_pi, mn_pl, mn_pr, mn_pN, mn_pT, mn_pC, mi_pi, mi_pl, mi_pr, mi_pN, mi_pT, mi_pC, ml_pi, ml_pl, ml_pr, ml_pN, ml_pT, ml_pC, mr_pi, mr_pl, mr_pr, mr_pN, mr_pT, mr_pC, mt_pi, mt_pl, mt_pr, mt_pN, mt_pT, mt_pC, mz_pi, mz_pl, mz_pr, mz_pN, mz_pT, mz_pC, ma_pi, ma_pl, ma_pr, ma_pN, ma_pT, ma_pC, mcs_0, mcs_i, mcs_l, mcs_r, mcs_n, csum_rf, Kn_v, Kn_0, Kn_x, mrf_some, kok_0, true_and, and_true, false_and, and_false, true_or, or_true, or_false, false_or, not_true_eq_false, not_false_eq_true, true_implies, false_implies, implies_true, forall_const, if_true, if_false, and_self, Nat.reduceEqDiff, Nat.reduceLeDiff, Nat.reduceSub, Nat.reduceAdd, Nat.zero_le, Nat.le_refl, i10, i01, kz0, kz1, eq_self, lt_le, Classical.not_not, Int32.reduceLT, Int32.reduceAdd, Int32.reduceSub, Int32.reduceMul, cl0, cl1, cl2, cl3, cl4, cl5, cl6, cl7, cl8, cl9, cl10, cl11, cl12, cl13, cl14, cl15, cl16, cl17, cl18, cl19, cl20, cl21, cl22, cl23, cl24, cl25, cl26, cl27, cl28, cl29, cl30, cl31, cl32, cl33, cl34, cl35, cl36, cl37, cl38, cl39, lg_cmp_eq, Kc_v, Kc_0, Sum.inl.injEq, Option.some.injEq, Value.int.injEq, exists_eq_left', Nat.reduceLT, hAe, i20, i30, kc0, kc1, kc2, kc3, kc4, kc5, kc6, kc7, kc8, kc9, kc10, kc11, kc12, kc13, kc14, kc15, kc16, kc17, kc18, kc19, kc20, kc21, kc22, kc23, kc24, kc25, kc26, kc27, kc28, kc29, kc30, kc31, kc32, kc33, kc34, kc35, kc36, kc37, kc38, kc39, kn3, kn4, kn18, kn21, kn23, kn24, kn25, kn26, kn27, kn29, kn30, kr0_0, kr0_1, kr0_2, kr0_3, kr0_4, kr0_5, kr0_7, kr0_8, kr0_9, kr0_10, kr1_0, kr2_0, kr5_0, kr5_1, kr6_0, kr6_1, kr7_0, kr7_1, kr8_0, kr9_0, kr10_0, kr11_0, kr12_0, kr13_0, kr14_0, kr15_0, kr16_0, kr17_0, kr19_0, kr19_1, kr22_0, kr22_1, kr22_2, kr22_3, kr22_4, kr22_5, kr22_7, kr22_8, kr25_0, kr25_1, kr25_2, kr26_0, kr26_1, kr26_2, kr29_0, kr29_1, kz, ki5_2, ki6_2, ki7_2, ki8_1, ki8_2, ki8_3, ki9_1, ki9_2, ki9_3, ki10_1, ki10_2, ki10_3, ki11_1, ki11_2, ki11_3, ki12_1, ki12_2, ki12_3, ki13_1, ki13_2, ki13_3, ki14_1, ki14_2, ki14_3, ki28_0, ki28_1, ki31_0, ki31_1, ki32_0, ki32_1, ki33_0, ki33_1, ki34_0, ki34_1, ki35_0, ki35_1, ki36_0, ki36_1, bq0, bqq, vq3, s1, s2, bs2, hs, d01, d02, d03, d10, d12, d13, d20, d21, d23, d30, d31, d32, vs0, vs1, vs2, vs3, i64_inj, i64_back, fo0, fo1, fo2, fo3, nm_eq, bx0, bx9]
          intro t ht
          first | refine ⟨⟨?_, ?_, ?_, ?_, ?_, ?_, ?_, ?_, ?_, ?_, ?_, ?_⟩, rfl⟩ | refine ⟨?_, ?_, ?_, ?_, ?_, ?_, ?_, ?_, ?_, ?_, ?_, ?_⟩
          · (try simp only [K_pi, K_pl, K_pC, K_cW, K_mW])
            exact K_pT ht vk
          · (try simp only [Cn_pi hA (j := 18) (by decide), Cn_pi hA (j := 22) (by decide), Cn_pi hA (j := 30) (by decide), Cn_pl, Cn_pT, Cn_pr])
            exact vcn
          · (try simp only [Vq0_pi hA (j := 18) (by decide), Vq0_pi hA (j := 22) (by decide), Vq0_pi hA (j := 30) (by decide), Vq0_pl, Vq0_pT, Vq0_pr])
            exact v0
          · (try simp only [Vq1_pi hA (j := 18) (by decide), Vq1_pi hA (j := 22) (by decide), Vq1_pi hA (j := 30) (by decide), Vq1_pl, Vq1_pT, Vq1_pr])
            exact v1
          · (try simp only [Vq2_pi hA (j := 18) (by decide), Vq2_pi hA (j := 22) (by decide), Vq2_pi hA (j := 30) (by decide), Vq2_pl, Vq2_pT, Vq2_pr])
            exact v2
          · (try simp only [Vp_pi hA (j := 18) (by decide), Vp_pi hA (j := 30) (by decide), Vp_thr hA, Vp_pl, Vp_pT, Vp_pr])
            exact vp
          · (try simp only [Vl0_pi hA (j := 18) (by decide), Vl0_pi hA (j := 22) (by decide), Vl0_pi hA (j := 30) (by decide), Vl0_pl, Vl0_pT, Vl0_pr])
            exact vl0
          · (try simp only [Vl1_pi hA (j := 18) (by decide), Vl1_pi hA (j := 22) (by decide), Vl1_pi hA (j := 30) (by decide), Vl1_pl, Vl1_pT, Vl1_pr])
            exact vl1
          · (try simp only [Vlr_pi hA (j := 18) (by decide), Vlr_pi hA (j := 22) (by decide), Vlr_pi hA (j := 30) (by decide), Vlr_pl hA (j := 39) (by decide), Vlr_pT, Vlr_pr])
            exact vlr
          · (try simp only [Vsr_pi hA (j := 18) (by decide), Vsr_pi hA (j := 22) (by decide), Vsr_pi hA (j := 30) (by decide), Vsr_pl hA (j := 39) (by decide), Vsr_pT, Vsr_pr])
            exact vsr
          · (try simp only [Vc_pi hA (j := 22) (by decide), Vc_pl, Vc_pT, Vc_pr])
            exact vc
          · (try simp only [Tx_pi hA (j := 18) (by decide), Tx_pi hA (j := 22) (by decide), Tx_pi hA (j := 30) (by decide), Tx_pl])
            exact Tx_pT ht tx
  · by_cases bq : q < 0 ∨ ¬ q < 3
    · have bq2 : (¬ q < 0 ∧ q < 3) = False := nrng bq
      by_cases bs : (¬ s < 0 ∧ s < 6)
      all_goals
        simp only [o298_0, o298_2, o298_3, o298_4, o298_5, o298_6, o298_9, o298_10, o298_13, o298_16, o298_18, o298_19, o298_20, o298_22, o298_23, o298_24, o298_25, o66_0, o66_1, o66_2, o66_5, o66_7, o66_8, o66_11, o66_12, o66_15, o66_16, o66_18, o66_21, o66_24, o66_25, o66_28, o66_29, o66_32, o66_33, o66_34, o66_37, o66_38, o66_39, o66_41, o66_42, o66_45, o66_48, o66_51, o190_0, o190_1, o190_2, o190_5, o190_8, o190_9, o190_12, o190_15, o190_16, o190_19, o190_20, o190_21, o190_24, o190_25, o190_27, o190_30, o190_31, o190_34, o190_35, o190_38, o190_41, o190_42, o190_43, o190_44, o190_45, o190_46, o190_49, o190_52, o190_53, o190_54, o190_57, o190_60, o190_61, o190_62, o190_63, o190_64, o190_67, o190_68, o190_69, o190_70, o190_73, o190_74, o190_77, o190_80, hx_298_1, hx_298_2, c_X5_checkSlot, c_X8_isSlot, c_X8_isThrown, c_X8_isThrown_, c_X8_isThrown__, c_X8_isQueue, c_queueOf_bad, c_X5_checkAhead, mc_pi, mc_pl, mc_pr, mc_pN, mc_pT, mc_pC, mn_pi, mn_pl, mn_pr, mn_pN, mn_pT, mn_pC, mi_pi, mi_pl, mi_pr, mi_pN, mi_pT, mi_pC, ml_pi, ml_pl, ml_pr, ml_pN, ml_pT, ml_pC, mr_pi, mr_pl, mr_pr, mr_pN, mr_pT, mr_pC, mt_pi, mt_pl, mt_pr, mt_pN, mt_pT, mt_pC, mz_pi, mz_pl, mz_pr, mz_pN, mz_pT, mz_pC, ma_pi, ma_pl, ma_pr, ma_pN, ma_pT, ma_pC, mcs_0, mcs_i, mcs_l, mcs_r, mcs_n, csum_rf, Kn_v, Kn_0, Kn_x, mrf_some, kok_0, true_and, and_true, false_and, and_false, true_or, or_true, or_false, false_or, not_true_eq_false, not_false_eq_true, true_implies, false_implies, implies_true, forall_const, if_true, if_false, and_self, Nat.reduceEqDiff, Nat.reduceLeDiff, Nat.reduceSub, Nat.reduceAdd, Nat.zero_le, Nat.le_refl, i10, i01, kz0, kz1, eq_self, lt_le, Classical.not_not, Int32.reduceLT, Int32.reduceAdd, Int32.reduceSub, Int32.reduceMul, cl0, cl1, cl2, cl3, cl4, cl5, cl6, cl7, cl8, cl9, cl10, cl11, cl12, cl13, cl14, cl15, cl16, cl17, cl18, cl19, cl20, cl21, cl22, cl23, cl24, cl25, cl26, cl27, cl28, cl29, cl30, cl31, cl32, cl33, cl34, cl35, cl36, cl37, cl38, cl39, lg_cmp_eq, Kc_v, Kc_0, Sum.inl.injEq, Option.some.injEq, Value.int.injEq, exists_eq_left', Nat.reduceLT, hAe, i20, i30, kc0, kc1, kc2, kc3, kc4, kc5, kc6, kc7, kc8, kc9, kc10, kc11, kc12, kc13, kc14, kc15, kc16, kc17, kc18, kc19, kc20, kc21, kc22, kc23, kc24, kc25, kc26, kc27, kc28, kc29, kc30, kc31, kc32, kc33, kc34, kc35, kc36, kc37, kc38, kc39, kn3, kn4, kn18, kn21, kn23, kn24, kn25, kn26, kn27, kn29, kn30, kr0_0, kr0_1, kr0_2, kr0_3, kr0_4, kr0_5, kr0_7, kr0_8, kr0_9, kr0_10, kr1_0, kr2_0, kr5_0, kr5_1, kr6_0, kr6_1, kr7_0, kr7_1, kr8_0, kr9_0, kr10_0, kr11_0, kr12_0, kr13_0, kr14_0, kr15_0, kr16_0, kr17_0, kr19_0, kr19_1, kr22_0, kr22_1, kr22_2, kr22_3, kr22_4, kr22_5, kr22_7, kr22_8, kr25_0, kr25_1, kr25_2, kr26_0, kr26_1, kr26_2, kr29_0, kr29_1, kz, ki5_2, ki6_2, ki7_2, ki8_1, ki8_2, ki8_3, ki9_1, ki9_2, ki9_3, ki10_1, ki10_2, ki10_3, ki11_1, ki11_2, ki11_3, ki12_1, ki12_2, ki12_3, ki13_1, ki13_2, ki13_3, ki14_1, ki14_2, ki14_3, ki28_0, ki28_1, ki31_0, ki31_1, ki32_0, ki32_1, ki33_0, ki33_1, ki34_0, ki34_1, ki35_0, ki35_1, ki36_0, ki36_1, bq, bq2, bs, bx0, bx9]
        intro t ht
        first | refine ⟨⟨?_, ?_, ?_, ?_, ?_, ?_, ?_, ?_, ?_, ?_, ?_, ?_⟩, rfl⟩ | refine ⟨?_, ?_, ?_, ?_, ?_, ?_, ?_, ?_, ?_, ?_, ?_, ?_⟩
        · (try simp only [K_pi, K_pl, K_pC, K_cW, K_mW])
          exact K_pT ht vk
        · (try simp only [Cn_pi hA (j := 18) (by decide), Cn_pi hA (j := 22) (by decide), Cn_pi hA (j := 30) (by decide), Cn_pl, Cn_pT, Cn_pr])
          exact vcn
        · (try simp only [Vq0_pi hA (j := 18) (by decide), Vq0_pi hA (j := 22) (by decide), Vq0_pi hA (j := 30) (by decide), Vq0_pl, Vq0_pT, Vq0_pr])
          exact v0
        · (try simp only [Vq1_pi hA (j := 18) (by decide), Vq1_pi hA (j := 22) (by decide), Vq1_pi hA (j := 30) (by decide), Vq1_pl, Vq1_pT, Vq1_pr])
          exact v1
        · (try simp only [Vq2_pi hA (j := 18) (by decide), Vq2_pi hA (j := 22) (by decide), Vq2_pi hA (j := 30) (by decide), Vq2_pl, Vq2_pT, Vq2_pr])
          exact v2
        · (try simp only [Vp_pi hA (j := 18) (by decide), Vp_pi hA (j := 30) (by decide), Vp_thr hA, Vp_pl, Vp_pT, Vp_pr])
          exact vp
        · (try simp only [Vl0_pi hA (j := 18) (by decide), Vl0_pi hA (j := 22) (by decide), Vl0_pi hA (j := 30) (by decide), Vl0_pl, Vl0_pT, Vl0_pr])
          exact vl0
        · (try simp only [Vl1_pi hA (j := 18) (by decide), Vl1_pi hA (j := 22) (by decide), Vl1_pi hA (j := 30) (by decide), Vl1_pl, Vl1_pT, Vl1_pr])
          exact vl1
        · (try simp only [Vlr_pi hA (j := 18) (by decide), Vlr_pi hA (j := 22) (by decide), Vlr_pi hA (j := 30) (by decide), Vlr_pl hA (j := 39) (by decide), Vlr_pT, Vlr_pr])
          exact vlr
        · (try simp only [Vsr_pi hA (j := 18) (by decide), Vsr_pi hA (j := 22) (by decide), Vsr_pi hA (j := 30) (by decide), Vsr_pl hA (j := 39) (by decide), Vsr_pT, Vsr_pr])
          exact vsr
        · (try simp only [Vc_pi hA (j := 22) (by decide), Vc_pl, Vc_pT, Vc_pr])
          exact vc
        · (try simp only [Tx_pi hA (j := 18) (by decide), Tx_pi hA (j := 22) (by decide), Tx_pi hA (j := 30) (by decide), Tx_pl])
          exact Tx_pT ht tx
    · have y1 : ¬ q < 0 := fun z => bq (Or.inl z)
      have y2 : q < 3 := Classical.byContradiction fun z => bq (Or.inr z)
      have bq2 : (¬ q < 0 ∧ q < 3) = True := eq_true ⟨y1, y2⟩
      by_cases bs : s < 0 ∨ ¬ s < 6
      · have bs2 : (¬ s < 0 ∧ s < 6) = False := nrng bs
        rcases q_cases y1 y2 with rfl | rfl | rfl
        · skip
          simp only [o298_0, o298_2, o298_3, o298_4, o298_5, o298_6, o298_9, o298_10, o298_13, o298_16, o298_18, o298_19, o298_20, o298_22, o298_23, o298_24, o298_25, o66_0, o66_1, o66_2, o66_5, o66_7, o66_8, o66_11, o66_12, o66_15, o66_16, o66_18, o66_21, o66_24, o66_25, o66_28, o66_29, o66_32, o66_33, o66_34, o66_37, o66_38, o66_39, o66_41, o66_42, o66_45, o66_48, o66_51, o190_0, o190_1, o190_2, o190_5, o190_8, o190_9, o190_12, o190_15, o190_16, o190_19, o190_20, o190_21, o190_24, o190_25, o190_27, o190_30, o190_31, o190_34, o190_35, o190_38, o190_41, o190_42, o190_43, o190_44, o190_45, o190_46, o190_49, o190_52, o190_53, o190_54, o190_57, o190_60, o190_61, o190_62, o190_63, o190_64, o190_67, o190_68, o190_69, o190_70, o190_73, o190_74, o190_77, o190_80, hx_298_1, hx_298_2, c_X5_checkSlot, c_X8_isSlot, c_X8_isThrown, c_X8_isThrown_, c_X8_isThrown__, c_X8_isQueue, c_queueOf_bad, c_X5_checkAhead, c_queueOf_0, mc_pi, mc_pl, mc_pr, mc_pN, mc_pT, mc_pC, mn_pi, mn_pl, mn_pr, mn_pN, mn_pT, mn_pC, mi_pi, mi_pl, mi_pr, mi_pN, mi_pT, mi_pC, ml_pi, ml_pl, ml_pr, ml_pN, ml_pT, ml_pC, mr_pi, mr_pl, mr_pr, mr_pN, mr_pT, mr_pC, mt_pi, mt_pl, mt_pr, mt_pN, mt_pT, mt_pC, mz_pi, mz_pl, mz_pr, mz_pN, mz_pT, mz_pC, ma_pi, ma_pl, ma_pr, ma_pN, ma_pT, ma_pC, mcs_0, mcs_i, mcs_l, mcs_r, mcs_n, csum_rf, Kn_v, Kn_0, Kn_x, mrf_some, kok_0, true_and, and_true, false_and, and_false, true_or, or_true, or_false, false_or, not_true_eq_false, not_false_eq_true, true_implies, false_implies, implies_true, forall_const, if_true, if_false, and_self, Nat.reduceEqDiff, Nat.reduceLeDiff, Nat.reduceSub, Nat.reduceAdd, Nat.zero_le, Nat.le_refl, i10, i01, kz0, kz1, eq_self, lt_le, Classical.not_not, Int32.reduceLT, Int32.reduceAdd, Int32.reduceSub, Int32.reduceMul, cl0, cl1, cl2, cl3, cl4, cl5, cl6, cl7, cl8, cl9, cl10, cl11, cl12, cl13, cl14, cl15, cl16, cl17, cl18, cl19, cl20, cl21, cl22, cl23, cl24, cl25, cl26, cl27, cl28, cl29, cl30, cl31, cl32, cl33, cl34, cl35, cl36, cl37, cl38, cl39, lg_cmp_eq, Kc_v, Kc_0, Sum.inl.injEq, Option.some.injEq, Value.int.injEq, exists_eq_left', Nat.reduceLT, hAe, i20, i30, kc0, kc1, kc2, kc3, kc4, kc5, kc6, kc7, kc8, kc9, kc10, kc11, kc12, kc13, kc14, kc15, kc16, kc17, kc18, kc19, kc20, kc21, kc22, kc23, kc24, kc25, kc26, kc27, kc28, kc29, kc30, kc31, kc32, kc33, kc34, kc35, kc36, kc37, kc38, kc39, kn3, kn4, kn18, kn21, kn23, kn24, kn25, kn26, kn27, kn29, kn30, kr0_0, kr0_1, kr0_2, kr0_3, kr0_4, kr0_5, kr0_7, kr0_8, kr0_9, kr0_10, kr1_0, kr2_0, kr5_0, kr5_1, kr6_0, kr6_1, kr7_0, kr7_1, kr8_0, kr9_0, kr10_0, kr11_0, kr12_0, kr13_0, kr14_0, kr15_0, kr16_0, kr17_0, kr19_0, kr19_1, kr22_0, kr22_1, kr22_2, kr22_3, kr22_4, kr22_5, kr22_7, kr22_8, kr25_0, kr25_1, kr25_2, kr26_0, kr26_1, kr26_2, kr29_0, kr29_1, kz, ki5_2, ki6_2, ki7_2, ki8_1, ki8_2, ki8_3, ki9_1, ki9_2, ki9_3, ki10_1, ki10_2, ki10_3, ki11_1, ki11_2, ki11_3, ki12_1, ki12_2, ki12_3, ki13_1, ki13_2, ki13_3, ki14_1, ki14_2, ki14_3, ki28_0, ki28_1, ki31_0, ki31_1, ki32_0, ki32_1, ki33_0, ki33_1, ki34_0, ki34_1, ki35_0, ki35_1, ki36_0, ki36_1, bq0, bqq, vq3, bs, bs2, bx0, bx9]
          intro t ht
          first | refine ⟨⟨?_, ?_, ?_, ?_, ?_, ?_, ?_, ?_, ?_, ?_, ?_, ?_⟩, rfl⟩ | refine ⟨?_, ?_, ?_, ?_, ?_, ?_, ?_, ?_, ?_, ?_, ?_, ?_⟩
          · (try simp only [K_pi, K_pl, K_pC, K_cW, K_mW])
            exact K_pT ht vk
          · (try simp only [Cn_pi hA (j := 18) (by decide), Cn_pi hA (j := 22) (by decide), Cn_pi hA (j := 30) (by decide), Cn_pl, Cn_pT, Cn_pr])
            exact vcn
          · (try simp only [Vq0_pi hA (j := 18) (by decide), Vq0_pi hA (j := 22) (by decide), Vq0_pi hA (j := 30) (by decide), Vq0_pl, Vq0_pT, Vq0_pr])
            exact v0
          · (try simp only [Vq1_pi hA (j := 18) (by decide), Vq1_pi hA (j := 22) (by decide), Vq1_pi hA (j := 30) (by decide), Vq1_pl, Vq1_pT, Vq1_pr])
            exact v1
          · (try simp only [Vq2_pi hA (j := 18) (by decide), Vq2_pi hA (j := 22) (by decide), Vq2_pi hA (j := 30) (by decide), Vq2_pl, Vq2_pT, Vq2_pr])
            exact v2
          · (try simp only [Vp_pi hA (j := 18) (by decide), Vp_pi hA (j := 30) (by decide), Vp_thr hA, Vp_pl, Vp_pT, Vp_pr])
            exact vp
          · (try simp only [Vl0_pi hA (j := 18) (by decide), Vl0_pi hA (j := 22) (by decide), Vl0_pi hA (j := 30) (by decide), Vl0_pl, Vl0_pT, Vl0_pr])
            exact vl0
          · (try simp only [Vl1_pi hA (j := 18) (by decide), Vl1_pi hA (j := 22) (by decide), Vl1_pi hA (j := 30) (by decide), Vl1_pl, Vl1_pT, Vl1_pr])
            exact vl1
          · (try simp only [Vlr_pi hA (j := 18) (by decide), Vlr_pi hA (j := 22) (by decide), Vlr_pi hA (j := 30) (by decide), Vlr_pl hA (j := 39) (by decide), Vlr_pT, Vlr_pr])
            exact vlr
          · (try simp only [Vsr_pi hA (j := 18) (by decide), Vsr_pi hA (j := 22) (by decide), Vsr_pi hA (j := 30) (by decide), Vsr_pl hA (j := 39) (by decide), Vsr_pT, Vsr_pr])
            exact vsr
          · (try simp only [Vc_pi hA (j := 22) (by decide), Vc_pl, Vc_pT, Vc_pr])
            exact vc
          · (try simp only [Tx_pi hA (j := 18) (by decide), Tx_pi hA (j := 22) (by decide), Tx_pi hA (j := 30) (by decide), Tx_pl])
            exact Tx_pT ht tx
        · skip
          simp only [o298_0, o298_2, o298_3, o298_4, o298_5, o298_6, o298_9, o298_10, o298_13, o298_16, o298_18, o298_19, o298_20, o298_22, o298_23, o298_24, o298_25, o66_0, o66_1, o66_2, o66_5, o66_7, o66_8, o66_11, o66_12, o66_15, o66_16, o66_18, o66_21, o66_24, o66_25, o66_28, o66_29, o66_32, o66_33, o66_34, o66_37, o66_38, o66_39, o66_41, o66_42, o66_45, o66_48, o66_51, o190_0, o190_1, o190_2, o190_5, o190_8, o190_9, o190_12, o190_15, o190_16, o190_19, o190_20, o190_21, o190_24, o190_25, o190_27, o190_30, o190_31, o190_34, o190_35, o190_38, o190_41, o190_42, o190_43, o190_44, o190_45, o190_46, o190_49, o190_52, o190_53, o190_54, o190_57, o190_60, o190_61, o190_62, o190_63, o190_64, o190_67, o190_68, o190_69, o190_70, o190_73, o190_74, o190_77, o190_80, hx_298_1, hx_298_2, c_X5_checkSlot, c_X8_isSlot, c_X8_isThrown, c_X8_isThrown_, c_X8_isThrown__, c_X8_isQueue, c_queueOf_bad, c_X5_checkAhead, c_queueOf_1, mc_pi, mc_pl, mc_pr, mc_pN, mc_pT, mc_pC, mn_pi, mn_pl, mn_pr, mn_pN, mn_pT, mn_pC, mi_pi, mi_pl, mi_pr, mi_pN, mi_pT, mi_pC, ml_pi, ml_pl, ml_pr, ml_pN, ml_pT, ml_pC, mr_pi, mr_pl, mr_pr, mr_pN, mr_pT, mr_pC, mt_pi, mt_pl, mt_pr, mt_pN, mt_pT, mt_pC, mz_pi, mz_pl, mz_pr, mz_pN, mz_pT, mz_pC, ma_pi, ma_pl, ma_pr, ma_pN, ma_pT, ma_pC, mcs_0, mcs_i, mcs_l, mcs_r, mcs_n, csum_rf, Kn_v, Kn_0, Kn_x, mrf_some, kok_0, true_and, and_true, false_and, and_false, true_or, or_true, or_false, false_or, not_true_eq_false, not_false_eq_true, true_implies, false_implies, implies_true, forall_const, if_true, if_false, and_self, Nat.reduceEqDiff, Nat.reduceLeDiff, Nat.reduceSub, Nat.reduceAdd, Nat.zero_le, Nat.le_refl, i10, i01, kz0, kz1, eq_self, lt_le, Classical.not_not, Int32.reduceLT, Int32.reduceAdd, Int32.reduceSub, Int32.reduceMul, cl0, cl1, cl2, cl3, cl4, cl5, cl6, cl7, cl8, cl9, cl10, cl11, cl12, cl13, cl14, cl15, cl16, cl17, cl18, cl19, cl20, cl21, cl22, cl23, cl24, cl25, cl26, cl27, cl28, cl29, cl30, cl31, cl32, cl33, cl34, cl35, cl36, cl37, cl38, cl39, lg_cmp_eq, Kc_v, Kc_0, Sum.inl.injEq, Option.some.injEq, Value.int.injEq, exists_eq_left', Nat.reduceLT, hAe, i20, i30, kc0, kc1, kc2, kc3, kc4, kc5, kc6, kc7, kc8, kc9, kc10, kc11, kc12, kc13, kc14, kc15, kc16, kc17, kc18, kc19, kc20, kc21, kc22, kc23, kc24, kc25, kc26, kc27, kc28, kc29, kc30, kc31, kc32, kc33, kc34, kc35, kc36, kc37, kc38, kc39, kn3, kn4, kn18, kn21, kn23, kn24, kn25, kn26, kn27, kn29, kn30, kr0_0, kr0_1, kr0_2, kr0_3, kr0_4, kr0_5, kr0_7, kr0_8, kr0_9, kr0_10, kr1_0, kr2_0, kr5_0, kr5_1, kr6_0, kr6_1, kr7_0, kr7_1, kr8_0, kr9_0, kr10_0, kr11_0, kr12_0, kr13_0, kr14_0, kr15_0, kr16_0, kr17_0, kr19_0, kr19_1, kr22_0, kr22_1, kr22_2, kr22_3, kr22_4, kr22_5, kr22_7, kr22_8, kr25_0, kr25_1, kr25_2, kr26_0, kr26_1, kr26_2, kr29_0, kr29_1, kz, ki5_2, ki6_2, ki7_2, ki8_1, ki8_2, ki8_3, ki9_1, ki9_2, ki9_3, ki10_1, ki10_2, ki10_3, ki11_1, ki11_2, ki11_3, ki12_1, ki12_2, ki12_3, ki13_1, ki13_2, ki13_3, ki14_1, ki14_2, ki14_3, ki28_0, ki28_1, ki31_0, ki31_1, ki32_0, ki32_1, ki33_0, ki33_1, ki34_0, ki34_1, ki35_0, ki35_1, ki36_0, ki36_1, bq0, bqq, vq3, bs, bs2, bx0, bx9]
          intro t ht
          first | refine ⟨⟨?_, ?_, ?_, ?_, ?_, ?_, ?_, ?_, ?_, ?_, ?_, ?_⟩, rfl⟩ | refine ⟨?_, ?_, ?_, ?_, ?_, ?_, ?_, ?_, ?_, ?_, ?_, ?_⟩
          · (try simp only [K_pi, K_pl, K_pC, K_cW, K_mW])
            exact K_pT ht vk
          · (try simp only [Cn_pi hA (j := 18) (by decide), Cn_pi hA (j := 22) (by decide), Cn_pi hA (j := 30) (by decide), Cn_pl, Cn_pT, Cn_pr])
            exact vcn
          · (try simp only [Vq0_pi hA (j := 18) (by decide), Vq0_pi hA (j := 22) (by decide), Vq0_pi hA (j := 30) (by decide), Vq0_pl, Vq0_pT, Vq0_pr])
            exact v0
          · (try simp only [Vq1_pi hA (j := 18) (by decide), Vq1_pi hA (j := 22) (by decide), Vq1_pi hA (j := 30) (by decide), Vq1_pl, Vq1_pT, Vq1_pr])
            exact v1
          · (try simp only [Vq2_pi hA (j := 18) (by decide), Vq2_pi hA (j := 22) (by decide), Vq2_pi hA (j := 30) (by decide), Vq2_pl, Vq2_pT, Vq2_pr])
            exact v2
          · (try simp only [Vp_pi hA (j := 18) (by decide), Vp_pi hA (j := 30) (by decide), Vp_thr hA, Vp_pl, Vp_pT, Vp_pr])
            exact vp
          · (try simp only [Vl0_pi hA (j := 18) (by decide), Vl0_pi hA (j := 22) (by decide), Vl0_pi hA (j := 30) (by decide), Vl0_pl, Vl0_pT, Vl0_pr])
            exact vl0
          · (try simp only [Vl1_pi hA (j := 18) (by decide), Vl1_pi hA (j := 22) (by decide), Vl1_pi hA (j := 30) (by decide), Vl1_pl, Vl1_pT, Vl1_pr])
            exact vl1
          · (try simp only [Vlr_pi hA (j := 18) (by decide), Vlr_pi hA (j := 22) (by decide), Vlr_pi hA (j := 30) (by decide), Vlr_pl hA (j := 39) (by decide), Vlr_pT, Vlr_pr])
            exact vlr
          · (try simp only [Vsr_pi hA (j := 18) (by decide), Vsr_pi hA (j := 22) (by decide), Vsr_pi hA (j := 30) (by decide), Vsr_pl hA (j := 39) (by decide), Vsr_pT, Vsr_pr])
            exact vsr
          · (try simp only [Vc_pi hA (j := 22) (by decide), Vc_pl, Vc_pT, Vc_pr])
            exact vc
          · (try simp only [Tx_pi hA (j := 18) (by decide), Tx_pi hA (j := 22) (by decide), Tx_pi hA (j := 30) (by decide), Tx_pl])
            exact Tx_pT ht tx
        · skip
          simp only [o298_0, o298_2, o298_3, o298_4, o298_5, o298_6, o298_9, o298_10, o298_13, o298_16, o298_18, o298_19, o298_20, o298_22, o298_23, o298_24, o298_25, o66_0, o66_1, o66_2, o66_5, o66_7, o66_8, o66_11, o66_12, o66_15, o66_16, o66_18, o66_21, o66_24, o66_25, o66_28, o66_29, o66_32, o66_33, o66_34, o66_37, o66_38, o66_39, o66_41, o66_42, o66_45, o66_48, o66_51, o190_0, o190_1, o190_2, o190_5, o190_8, o190_9, o190_12, o190_15, o190_16, o190_19, o190_20, o190_21, o190_24, o190_25, o190_27, o190_30, o190_31, o190_34, o190_35, o190_38, o190_41, o190_42, o190_43, o190_44, o190_45, o190_46, o190_49, o190_52, o190_53, o190_54, o190_57, o190_60, o190_61, o190_62, o190_63, o190_64, o190_67, o190_68, o190_69, o190_70, o190_73, o190_74, o190_77, o190_80, hx_298_1, hx_298_2, c_X5_checkSlot, c_X8_isSlot, c_X8_isThrown, c_X8_isThrown_, c_X8_isThrown__, c_X8_isQueue, c_queueOf_bad, c_X5_checkAhead, c_queueOf_2, mc_pi, mc_pl, mc_pr, mc_pN, mc_pT, mc_pC, mn_pi, mn_pl, mn_pr, mn_pN, mn_pT, mn_pC, mi_pi, mi_pl, mi_pr, mi_pN, mi_pT, mi_pC, ml_pi, ml_pl, ml_pr, ml_pN, ml_pT, ml_pC, mr_pi, mr_pl, mr_pr, mr_pN, mr_pT, mr_pC, mt_pi, mt_pl, mt_pr, mt_pN, mt_pT, mt_pC, mz_pi, mz_pl, mz_pr, mz_pN, mz_pT, mz_pC, ma_pi, ma_pl, ma_pr, ma_pN, ma_pT, ma_pC, mcs_0, mcs_i, mcs_l, mcs_r, mcs_n, csum_rf, Kn_v, Kn_0, Kn_x, mrf_some, kok_0, true_and, and_true, false_and, and_false, true_or, or_true, or_false, false_or, not_true_eq_false, not_false_eq_true, true_implies, false_implies, implies_true, forall_const, if_true, if_false, and_self, Nat.reduceEqDiff, Nat.reduceLeDiff, Nat.reduceSub, Nat.reduceAdd, Nat.zero_le, Nat.le_refl, i10, i01, kz0, kz1, eq_self, lt_le, Classical.not_not, Int32.reduceLT, Int32.reduceAdd, Int32.reduceSub, Int32.reduceMul, cl0, cl1, cl2, cl3, cl4, cl5, cl6, cl7, cl8, cl9, cl10, cl11, cl12, cl13, cl14, cl15, cl16, cl17, cl18, cl19, cl20, cl21, cl22, cl23, cl24, cl25, cl26, cl27, cl28, cl29, cl30, cl31, cl32, cl33, cl34, cl35, cl36, cl37, cl38, cl39, lg_cmp_eq, Kc_v, Kc_0, Sum.inl.injEq, Option.some.injEq, Value.int.injEq, exists_eq_left', Nat.reduceLT, hAe, i20, i30, kc0, kc1, kc2, kc3, kc4, kc5, kc6, kc7, kc8, kc9, kc10, kc11, kc12, kc13, kc14, kc15, kc16, kc17, kc18, kc19, kc20, kc21, kc22, kc23, kc24, kc25, kc26, kc27, kc28, kc29, kc30, kc31, kc32, kc33, kc34, kc35, kc36, kc37, kc38, kc39, kn3, kn4, kn18, kn21, kn23, kn24, kn25, kn26, kn27, kn29, kn30, kr0_0, kr0_1, kr0_2, kr0_3, kr0_4, kr0_5, kr0_7, kr0_8, kr0_9, kr0_10, kr1_0, kr2_0, kr5_0, kr5_1, kr6_0, kr6_1, kr7_0, kr7_1, kr8_0, kr9_0, kr10_0, kr11_0, kr12_0, kr13_0, kr14_0, kr15_0, kr16_0, kr17_0, kr19_0, kr19_1, kr22_0, kr22_1, kr22_2, kr22_3, kr22_4, kr22_5, kr22_7, kr22_8, kr25_0, kr25_1, kr25_2, kr26_0, kr26_1, kr26_2, kr29_0, kr29_1, kz, ki5_2, ki6_2, ki7_2, ki8_1, ki8_2, ki8_3, ki9_1, ki9_2, ki9_3, ki10_1, ki10_2, ki10_3, ki11_1, ki11_2, ki11_3, ki12_1, ki12_2, ki12_3, ki13_1, ki13_2, ki13_3, ki14_1, ki14_2, ki14_3, ki28_0, ki28_1, ki31_0, ki31_1, ki32_0, ki32_1, ki33_0, ki33_1, ki34_0, ki34_1, ki35_0, ki35_1, ki36_0, ki36_1, bq0, bqq, vq3, bs, bs2, bx0, bx9]
          intro t ht
          first | refine ⟨⟨?_, ?_, ?_, ?_, ?_, ?_, ?_, ?_, ?_, ?_, ?_, ?_⟩, rfl⟩ | refine ⟨?_, ?_, ?_, ?_, ?_, ?_, ?_, ?_, ?_, ?_, ?_, ?_⟩
          · (try simp only [K_pi, K_pl, K_pC, K_cW, K_mW])
            exact K_pT ht vk
          · (try simp only [Cn_pi hA (j := 18) (by decide), Cn_pi hA (j := 22) (by decide), Cn_pi hA (j := 30) (by decide), Cn_pl, Cn_pT, Cn_pr])
            exact vcn
          · (try simp only [Vq0_pi hA (j := 18) (by decide), Vq0_pi hA (j := 22) (by decide), Vq0_pi hA (j := 30) (by decide), Vq0_pl, Vq0_pT, Vq0_pr])
            exact v0
          · (try simp only [Vq1_pi hA (j := 18) (by decide), Vq1_pi hA (j := 22) (by decide), Vq1_pi hA (j := 30) (by decide), Vq1_pl, Vq1_pT, Vq1_pr])
            exact v1
          · (try simp only [Vq2_pi hA (j := 18) (by decide), Vq2_pi hA (j := 22) (by decide), Vq2_pi hA (j := 30) (by decide), Vq2_pl, Vq2_pT, Vq2_pr])
            exact v2
          · (try simp only [Vp_pi hA (j := 18) (by decide), Vp_pi hA (j := 30) (by decide), Vp_thr hA, Vp_pl, Vp_pT, Vp_pr])
            exact vp
          · (try simp only [Vl0_pi hA (j := 18) (by decide), Vl0_pi hA (j := 22) (by decide), Vl0_pi hA (j := 30) (by decide), Vl0_pl, Vl0_pT, Vl0_pr])
            exact vl0
          · (try simp only [Vl1_pi hA (j := 18) (by decide), Vl1_pi hA (j := 22) (by decide), Vl1_pi hA (j := 30) (by decide), Vl1_pl, Vl1_pT, Vl1_pr])
            exact vl1
          · (try simp only [Vlr_pi hA (j := 18) (by decide), Vlr_pi hA (j := 22) (by decide), Vlr_pi hA (j := 30) (by decide), Vlr_pl hA (j := 39) (by decide), Vlr_pT, Vlr_pr])
            exact vlr
          · (try simp only [Vsr_pi hA (j := 18) (by decide), Vsr_pi hA (j := 22) (by decide), Vsr_pi hA (j := 30) (by decide), Vsr_pl hA (j := 39) (by decide), Vsr_pT, Vsr_pr])
            exact vsr
          · (try simp only [Vc_pi hA (j := 22) (by decide), Vc_pl, Vc_pT, Vc_pr])
            exact vc
          · (try simp only [Tx_pi hA (j := 18) (by decide), Tx_pi hA (j := 22) (by decide), Tx_pi hA (j := 30) (by decide), Tx_pl])
            exact Tx_pT ht tx
      · have s1 : ¬ s < 0 := fun z => bs (Or.inl z)
        have s2 : s < 6 := Classical.byContradiction fun z => bs (Or.inr z)
        have hs := ix_ok s1 s2
        have hs2 := hs
        obtain ⟨⟨j0, j1, j2, j3⟩, d01, d02, d03, d10, d12, d13, d20, d21, d23, d30, d31, d32⟩ := hs2
        obtain ⟨l0, l1, l2, l3⟩ := ix_lt hs
        have vs0 := (vsr _ l0).1
        have vs1 := (vsr _ l1).1
        have vs2 := (vsr _ l2).1
        have vs3 := (vsr _ l3).1
        have bs2 : (¬ s < 0 ∧ s < 6) = True := eq_true ⟨s1, s2⟩
        rcases q_cases y1 y2 with rfl | rfl | rfl
        · skip
          simp only [o298_0, o298_2, o298_3, o298_4, o298_5, o298_6, o298_9, o298_10, o298_13, o298_16, o298_18, o298_19, o298_20, o298_22, o298_23, o298_24, o298_25, o66_0, o66_1, o66_2, o66_5, o66_7, o66_8, o66_11, o66_12, o66_15, o66_16, o66_18, o66_21, o66_24, o66_25, o66_28, o66_29, o66_32, o66_33, o66_34, o66_37, o66_38, o66_39, o66_41, o66_42, o66_45, o66_48, o66_51, o190_0, o190_1, o190_2, o190_5, o190_8, o190_9, o190_12, o190_15, o190_16, o190_19, o190_20, o190_21, o190_24, o190_25, o190_27, o190_30, o190_31, o190_34, o190_35, o190_38, o190_41, o190_42, o190_43, o190_44, o190_45, o190_46, o190_49, o190_52, o190_53, o190_54, o190_57, o190_60, o190_61, o190_62, o190_63, o190_64, o190_67, o190_68, o190_69, o190_70, o190_73, o190_74, o190_77, o190_80, hx_298_1, hx_298_2, c_X5_checkSlot, c_X8_isSlot, c_X8_isThrown, c_X8_isThrown_, c_X8_isThrown__, c_X8_isQueue, c_queueOf_bad, c_X5_checkAhead, c_queueOf_0, mc_pi, mc_pl, mc_pr, mc_pN, mc_pT, mc_pC, mn_pi, mn_pl, mn_pr, mn_pN, mn_pT, mn_pC, mi_pi, mi_pl, mi_pr, mi_pN, mi_pT, mi_pC, ml_pi, ml_pl, ml_pr, ml_pN, ml_pT, ml_pC, mr_pi, mr_pl, mr_pr, mr_pN, mr_pT, mr_pC, mt_pi, mt_pl, mt_pr, mt_pN, mt_pT, mt_pC, mz_pi, mz_pl, mz_pr, mz_pN, mz_pT, mz_pC, ma_pi, ma_pl, ma_pr, ma_pN, ma_pT, ma_pC, mcs_0, mcs_i, mcs_l, mcs_r, mcs_n, csum_rf, Kn_v, Kn_0, Kn_x, mrf_some, kok_0, true_and, and_true, false_and, and_false, true_or, or_true, or_false, false_or, not_true_eq_false, not_false_eq_true, true_implies, false_implies, implies_true, forall_const, if_true, if_false, and_self, Nat.reduceEqDiff, Nat.reduceLeDiff, Nat.reduceSub, Nat.reduceAdd, Nat.zero_le, Nat.le_refl, i10, i01, kz0, kz1, eq_self, lt_le, Classical.not_not, Int32.reduceLT, Int32.reduceAdd, Int32.reduceSub, Int32.reduceMul, cl0, cl1, cl2, cl3, cl4, cl5, cl6, cl7, cl8, cl9, cl10, cl11, cl12, cl13, cl14, cl15, cl16, cl17, cl18, cl19, cl20, cl21, cl22, cl23, cl24, cl25, cl26, cl27, cl28, cl29, cl30, cl31, cl32, cl33, cl34, cl35, cl36, cl37, cl38, cl39, lg_cmp_eq, Kc_v, Kc_0, Sum.inl.injEq, Option.some.injEq, Value.int.injEq, exists_eq_left', Nat.reduceLT, hAe, i20, i30, kc0, kc1, kc2, kc3, kc4, kc5, kc6, kc7, kc8, kc9, kc10, kc11, kc12, kc13, kc14, kc15, kc16, kc17, kc18, kc19, kc20, kc21, kc22, kc23, kc24, kc25, kc26, kc27, kc28, kc29, kc30, kc31, kc32, kc33, kc34, kc35, kc36, kc37, kc38, kc39, kn3, kn4, kn18, kn21, kn23, kn24, kn25, kn26, kn27, kn29, kn30, kr0_0, kr0_1, kr0_2, kr0_3, kr0_4, kr0_5, kr0_7, kr0_8, kr0_9, kr0_10, kr1_0, kr2_0, kr5_0, kr5_1, kr6_0, kr6_1, kr7_0, kr7_1, kr8_0, kr9_0, kr10_0, kr11_0, kr12_0, kr13_0, kr14_0, kr15_0, kr16_0, kr17_0, kr19_0, kr19_1, kr22_0, kr22_1, kr22_2, kr22_3, kr22_4, kr22_5, kr22_7, kr22_8, kr25_0, kr25_1, kr25_2, kr26_0, kr26_1, kr26_2, kr29_0, kr29_1, kz, ki5_2, ki6_2, ki7_2, ki8_1, ki8_2, ki8_3, ki9_1, ki9_2, ki9_3, ki10_1, ki10_2, ki10_3, ki11_1, ki11_2, ki11_3, ki12_1, ki12_2, ki12_3, ki13_1, ki13_2, ki13_3, ki14_1, ki14_2, ki14_3, ki28_0, ki28_1, ki31_0, ki31_1, ki32_0, ki32_1, ki33_0, ki33_1, ki34_0, ki34_1, ki35_0, ki35_1, ki36_0, ki36_1, bq0, bqq, vq3, s1, s2, bs2, hs, d01, d02, d03, d10, d12, d13, d20, d21, d23, d30, d31, d32, vs0, vs1, vs2, vs3, i64_inj, i64_back, fo0, fo1, fo2, fo3, nm_eq, bx0, bx9]
          intro t ht
          first | refine ⟨⟨?_, ?_, ?_, ?_, ?_, ?_, ?_, ?_, ?_, ?_, ?_, ?_⟩, rfl⟩ | refine ⟨?_, ?_, ?_, ?_, ?_, ?_, ?_, ?_, ?_, ?_, ?_, ?_⟩
          · (try simp only [K_pi, K_pl, K_pC, K_cW, K_mW])
            exact K_pT ht vk
          · (try simp only [Cn_pi hA (j := 18) (by decide), Cn_pi hA (j := 22) (by decide), Cn_pi hA (j := 30) (by decide), Cn_pl, Cn_pT, Cn_pr])
            exact vcn
          · (try simp only [Vq0_pi hA (j := 18) (by decide), Vq0_pi hA (j := 22) (by decide), Vq0_pi hA (j := 30) (by decide), Vq0_pl, Vq0_pT, Vq0_pr])
            exact v0
          · (try simp only [Vq1_pi hA (j := 18) (by decide), Vq1_pi hA (j := 22) (by decide), Vq1_pi hA (j := 30) (by decide), Vq1_pl, Vq1_pT, Vq1_pr])
            exact v1
          · (try simp only [Vq2_pi hA (j := 18) (by decide), Vq2_pi hA (j := 22) (by decide), Vq2_pi hA (j := 30) (by decide), Vq2_pl, Vq2_pT, Vq2_pr])
            exact v2
          · (try simp only [Vp_pi hA (j := 18) (by decide), Vp_pi hA (j := 30) (by decide), Vp_thr hA, Vp_pl, Vp_pT, Vp_pr])
            exact vp
          · (try simp only [Vl0_pi hA (j := 18) (by decide), Vl0_pi hA (j := 22) (by decide), Vl0_pi hA (j := 30) (by decide), Vl0_pl, Vl0_pT, Vl0_pr])
            exact vl0
          · (try simp only [Vl1_pi hA (j := 18) (by decide), Vl1_pi hA (j := 22) (by decide), Vl1_pi hA (j := 30) (by decide), Vl1_pl, Vl1_pT, Vl1_pr])
            exact vl1
          · (try simp only [Vlr_pi hA (j := 18) (by decide), Vlr_pi hA (j := 22) (by decide), Vlr_pi hA (j := 30) (by decide), Vlr_pl hA (j := 39) (by decide), Vlr_pT, Vlr_pr])
            exact vlr
          · (try simp only [Vsr_pi hA (j := 18) (by decide), Vsr_pi hA (j := 22) (by decide), Vsr_pi hA (j := 30) (by decide), Vsr_pl hA (j := 39) (by decide), Vsr_pT, Vsr_pr])
            exact vsr
          · (try simp only [Vc_pi hA (j := 22) (by decide), Vc_pl, Vc_pT, Vc_pr])
            exact vc
          · (try simp only [Tx_pi hA (j := 18) (by decide), Tx_pi hA (j := 22) (by decide), Tx_pi hA (j := 30) (by decide), Tx_pl])
            exact Tx_pT ht tx
        · skip
          simp only [o298_0, o298_2, o298_3, o298_4, o298_5, o298_6, o298_9, o298_10, o298_13, o298_16, o298_18, o298_19, o298_20, o298_22, o298_23, o298_24, o298_25, o66_0, o66_1, o66_2, o66_5, o66_7, o66_8, o66_11, o66_12, o66_15, o66_16, o66_18, o66_21, o66_24, o66_25, o66_28, o66_29, o66_32, o66_33, o66_34, o66_37, o66_38, o66_39, o66_41, o66_42, o66_45, o66_48, o66_51, o190_0, o190_1, o190_2, o190_5, o190_8, o190_9, o190_12, o190_15, o190_16, o190_19, o190_20, o190_21, o190_24, o190_25, o190_27, o190_30, o190_31, o190_34, o190_35, o190_38, o190_41, o190_42, o190_43, o190_44, o190_45, o190_46, o190_49, o190_52, o190_53, o190_54, o190_57, o190_60, o190_61, o190_62, o190_63, o190_64, o190_67, o190_68, o190_69, o190_70, o190_73, o190_74, o190_77, o190_80, hx_298_1, hx_298_2, c_X5_checkSlot, c_X8_isSlot, c_X8_isThrown, c_X8_isThrown_, c_X8_isThrown__, c_X8_isQueue, c_queueOf_bad, c_X5_checkAhead, c_queueOf_1, mc_pi, mc_pl, mc_pr, mc_pN, mc_pT, mc_pC, mn_pi, mn_pl, mn_pr, mn_pN, mn_pT, mn_pC, mi_pi, mi_pl, mi_pr, mi_pN, mi_pT, mi_pC, ml_pi, ml_pl, ml_pr, ml_pN, ml_pT, ml_pC, mr_pi, mr_pl, mr_pr, mr_pN, mr_pT, mr_pC, mt_pi, mt_pl, mt_pr, mt_pN, mt_pT, mt_pC, mz_pi, mz_pl, mz_pr, mz_pN, mz_pT, mz_pC, ma_pi, ma_pl, ma_pr, ma_pN, ma_pT, ma_pC, mcs_0, mcs_i, mcs_l, mcs_r, mcs_n, csum_rf, Kn_v, Kn_0, Kn_x, mrf_some, kok_0, true_and, and_true, false_and, and_false, true_or, or_true, or_false, false_or, not_true_eq_false, not_false_eq_true, true_implies, false_implies, implies_true, forall_const, if_true, if_false, and_self, Nat.reduceEqDiff, Nat.reduceLeDiff, Nat.reduceSub, Nat.reduceAdd, Nat.zero_le, Nat.le_refl, i10, i01, kz0, kz1, eq_self, lt_le, Classical.not_not, Int32.reduceLT, Int32.reduceAdd, Int32.reduceSub, Int32.reduceMul, cl0, cl1, cl2, cl3, cl4, cl5, cl6, cl7, cl8, cl9, cl10, cl11, cl12, cl13, cl14, cl15, cl16, cl17, cl18, cl19, cl20, cl21, cl22, cl23, cl24, cl25, cl26, cl27, cl28, cl29, cl30, cl31, cl32, cl33, cl34, cl35, cl36, cl37, cl38, cl39, lg_cmp_eq, Kc_v, Kc_0, Sum.inl.injEq, Option.some.injEq, Value.int.injEq, exists_eq_left', Nat.reduceLT, hAe, i20, i30, kc0, kc1, kc2, kc3, kc4, kc5, kc6, kc7, kc8, kc9, kc10, kc11, kc12, kc13, kc14, kc15, kc16, kc17, kc18, kc19, kc20, kc21, kc22, kc23, kc24, kc25, kc26, kc27, kc28, kc29, kc30, kc31, kc32, kc33, kc34, kc35, kc36, kc37, kc38, kc39, kn3, kn4, kn18, kn21, kn23, kn24, kn25, kn26, kn27, kn29, kn30, kr0_0, kr0_1, kr0_2, kr0_3, kr0_4, kr0_5, kr0_7, kr0_8, kr0_9, kr0_10, kr1_0, kr2_0, kr5_0, kr5_1, kr6_0, kr6_1, kr7_0, kr7_1, kr8_0, kr9_0, kr10_0, kr11_0, kr12_0, kr13_0, kr14_0, kr15_0, kr16_0, kr17_0, kr19_0, kr19_1, kr22_0, kr22_1, kr22_2, kr22_3, kr22_4, kr22_5, kr22_7, kr22_8, kr25_0, kr25_1, kr25_2, kr26_0, kr26_1, kr26_2, kr29_0, kr29_1, kz, ki5_2, ki6_2, ki7_2, ki8_1, ki8_2, ki8_3, ki9_1, ki9_2, ki9_3, ki10_1, ki10_2, ki10_3, ki11_1, ki11_2, ki11_3, ki12_1, ki12_2, ki12_3, ki13_1, ki13_2, ki13_3, ki14_1, ki14_2, ki14_3, ki28_0, ki28_1, ki31_0, ki31_1, ki32_0, ki32_1, ki33_0, ki33_1, ki34_0, ki34_1, ki35_0, ki35_1, ki36_0, ki36_1, bq0, bqq, vq3, s1, s2, bs2, hs, d01, d02, d03, d10, d12, d13, d20, d21, d23, d30, d31, d32, vs0, vs1, vs2, vs3, i64_inj, i64_back, fo0, fo1, fo2, fo3, nm_eq, bx0, bx9]
          intro t ht
          first | refine ⟨⟨?_, ?_, ?_, ?_, ?_, ?_, ?_, ?_, ?_, ?_, ?_, ?_⟩, rfl⟩ | refine ⟨?_, ?_, ?_, ?_, ?_, ?_, ?_, ?_, ?_, ?_, ?_, ?_⟩
          · (try simp only [K_pi, K_pl, K_pC, K_cW, K_mW])
            exact K_pT ht vk
          · (try simp only [Cn_pi hA (j := 18) (by decide), Cn_pi hA (j := 22) (by decide), Cn_pi hA (j := 30) (by decide), Cn_pl, Cn_pT, Cn_pr])
            exact vcn
          · (try simp only [Vq0_pi hA (j := 18) (by decide), Vq0_pi hA (j := 22) (by decide), Vq0_pi hA (j := 30) (by decide), Vq0_pl, Vq0_pT, Vq0_pr])
            exact v0
          · (try simp only [Vq1_pi hA (j := 18) (by decide), Vq1_pi hA (j := 22) (by decide), Vq1_pi hA (j := 30) (by decide), Vq1_pl, Vq1_pT, Vq1_pr])
            exact v1
          · (try simp only [Vq2_pi hA (j := 18) (by decide), Vq2_pi hA (j := 22) (by decide), Vq2_pi hA (j := 30) (by decide), Vq2_pl, Vq2_pT, Vq2_pr])
            exact v2
          · (try simp only [Vp_pi hA (j := 18) (by decide), Vp_pi hA (j := 30) (by decide), Vp_thr hA, Vp_pl, Vp_pT, Vp_pr])
            exact vp
          · (try simp only [Vl0_pi hA (j := 18) (by decide), Vl0_pi hA (j := 22) (by decide), Vl0_pi hA (j := 30) (by decide), Vl0_pl, Vl0_pT, Vl0_pr])
            exact vl0
          · (try simp only [Vl1_pi hA (j := 18) (by decide), Vl1_pi hA (j := 22) (by decide), Vl1_pi hA (j := 30) (by decide), Vl1_pl, Vl1_pT, Vl1_pr])
            exact vl1
          · (try simp only [Vlr_pi hA (j := 18) (by decide), Vlr_pi hA (j := 22) (by decide), Vlr_pi hA (j := 30) (by decide), Vlr_pl hA (j := 39) (by decide), Vlr_pT, Vlr_pr])
            exact vlr
          · (try simp only [Vsr_pi hA (j := 18) (by decide), Vsr_pi hA (j := 22) (by decide), Vsr_pi hA (j := 30) (by decide), Vsr_pl hA (j := 39) (by decide), Vsr_pT, Vsr_pr])
            exact vsr
          · (try simp only [Vc_pi hA (j := 22) (by decide), Vc_pl, Vc_pT, Vc_pr])
            exact vc
          · (try simp only [Tx_pi hA (j := 18) (by decide), Tx_pi hA (j := 22) (by decide), Tx_pi hA (j := 30) (by decide), Tx_pl])
            exact Tx_pT ht tx
        · skip
          simp only [o298_0, o298_2, o298_3, o298_4, o298_5, o298_6, o298_9, o298_10, o298_13, o298_16, o298_18, o298_19, o298_20, o298_22, o298_23, o298_24, o298_25, o66_0, o66_1, o66_2, o66_5, o66_7, o66_8, o66_11, o66_12, o66_15, o66_16, o66_18, o66_21, o66_24, o66_25, o66_28, o66_29, o66_32, o66_33, o66_34, o66_37, o66_38, o66_39, o66_41, o66_42, o66_45, o66_48, o66_51, o190_0, o190_1, o190_2, o190_5, o190_8, o190_9, o190_12, o190_15, o190_16, o190_19, o190_20, o190_21, o190_24, o190_25, o190_27, o190_30, o190_31, o190_34, o190_35, o190_38, o190_41, o190_42, o190_43, o190_44, o190_45, o190_46, o190_49, o190_52, o190_53, o190_54, o190_57, o190_60, o190_61, o190_62, o190_63, o190_64, o190_67, o190_68, o190_69, o190_70, o190_73, o190_74, o190_77, o190_80, hx_298_1, hx_298_2, c_X5_checkSlot, c_X8_isSlot, c_X8_isThrown, c_X8_isThrown_, c_X8_isThrown__, c_X8_isQueue, c_queueOf_bad, c_X5_checkAhead, c_queueOf_2, mc_pi, mc_pl, mc_pr, mc_pN, mc_pT, mc_pC, mn_pi, mn_pl, mn_pr, mn_pN, mn_pT, mn_pC, mi_pi, mi_pl, mi_pr, mi_pN, mi_pT, mi_pC, ml_pi, ml_pl, ml_pr, ml_pN, ml_pT, ml_pC, mr_pi, mr_pl, mr_pr, mr_pN, mr_pT, mr_pC, mt_pi, mt_pl, mt_pr, mt_pN, mt_pT, mt_pC, mz_pi, mz_pl, mz_pr, mz_pN, mz_pT, mz_pC, ma_pi, ma_pl, ma_pr, ma_pN, ma_pT, ma_pC, mcs_0, mcs_i, mcs_l, mcs_r, mcs_n, csum_rf, Kn_v, Kn_0, Kn_x, mrf_some, kok_0, true_and, and_true, false_and, and_false, true_or, or_true, or_false, false_or, not_true_eq_false, not_false_eq_true, true_implies, false_implies, implies_true, forall_const, if_true, if_false, and_self, Nat.reduceEqDiff, Nat.reduceLeDiff, Nat.reduceSub, Nat.reduceAdd, Nat.zero_le, Nat.le_refl, i10, i01, kz0, kz1, eq_self, lt_le, Classical.not_not, Int32.reduceLT, Int32.reduceAdd, Int32.reduceSub, Int32.reduceMul, cl0, cl1, cl2, cl3, cl4, cl5, cl6, cl7, cl8, cl9, cl10, cl11, cl12, cl13, cl14, cl15, cl16, cl17, cl18, cl19, cl20, cl21, cl22, cl23, cl24, cl25, cl26, cl27, cl28, cl29, cl30, cl31, cl32, cl33, cl34, cl35, cl36, cl37, cl38, cl39, lg_cmp_eq, Kc_v, Kc_0, Sum.inl.injEq, Option.some.injEq, Value.int.injEq, exists_eq_left', Nat.reduceLT, hAe, i20, i30, kc0, kc1, kc2, kc3, kc4, kc5, kc6, kc7, kc8, kc9, kc10, kc11, kc12, kc13, kc14, kc15, kc16, kc17, kc18, kc19, kc20, kc21, kc22, kc23, kc24, kc25, kc26, kc27, kc28, kc29, kc30, kc31, kc32, kc33, kc34, kc35, kc36, kc37, kc38, kc39, kn3, kn4, kn18, kn21, kn23, kn24, kn25, kn26, kn27, kn29, kn30, kr0_0, kr0_1, kr0_2, kr0_3, kr0_4, kr0_5, kr0_7, kr0_8, kr0_9, kr0_10, kr1_0, kr2_0, kr5_0, kr5_1, kr6_0, kr6_1, kr7_0, kr7_1, kr8_0, kr9_0, kr10_0, kr11_0, kr12_0, kr13_0, kr14_0, kr15_0, kr16_0, kr17_0, kr19_0, kr19_1, kr22_0, kr22_1, kr22_2, kr22_3, kr22_4, kr22_5, kr22_7, kr22_8, kr25_0, kr25_1, kr25_2, kr26_0, kr26_1, kr26_2, kr29_0, kr29_1, kz, ki5_2, ki6_2, ki7_2, ki8_1, ki8_2, ki8_3, ki9_1, ki9_2, ki9_3, ki10_1, ki10_2, ki10_3, ki11_1, ki11_2, ki11_3, ki12_1, ki12_2, ki12_3, ki13_1, ki13_2, ki13_3, ki14_1, ki14_2, ki14_3, ki28_0, ki28_1, ki31_0, ki31_1, ki32_0, ki32_1, ki33_0, ki33_1, ki34_0, ki34_1, ki35_0, ki35_1, ki36_0, ki36_1, bq0, bqq, vq3, s1, s2, bs2, hs, d01, d02, d03, d10, d12, d13, d20, d21, d23, d30, d31, d32, vs0, vs1, vs2, vs3, i64_inj, i64_back, fo0, fo1, fo2, fo3, nm_eq, bx0, bx9]
          intro t ht
          first | refine ⟨⟨?_, ?_, ?_, ?_, ?_, ?_, ?_, ?_, ?_, ?_, ?_, ?_⟩, rfl⟩ | refine ⟨?_, ?_, ?_, ?_, ?_, ?_, ?_, ?_, ?_, ?_, ?_, ?_⟩
          · (try simp only [K_pi, K_pl, K_pC, K_cW, K_mW])
            exact K_pT ht vk
          · (try simp only [Cn_pi hA (j := 18) (by decide), Cn_pi hA (j := 22) (by decide), Cn_pi hA (j := 30) (by decide), Cn_pl, Cn_pT, Cn_pr])
            exact vcn
          · (try simp only [Vq0_pi hA (j := 18) (by decide), Vq0_pi hA (j := 22) (by decide), Vq0_pi hA (j := 30) (by decide), Vq0_pl, Vq0_pT, Vq0_pr])
            exact v0
          · (try simp only [Vq1_pi hA (j := 18) (by decide), Vq1_pi hA (j := 22) (by decide), Vq1_pi hA (j := 30) (by decide), Vq1_pl, Vq1_pT, Vq1_pr])
            exact v1
          · (try simp only [Vq2_pi hA (j := 18) (by decide), Vq2_pi hA (j := 22) (by decide), Vq2_pi hA (j := 30) (by decide), Vq2_pl, Vq2_pT, Vq2_pr])
            exact v2
          · (try simp only [Vp_pi hA (j := 18) (by decide), Vp_pi hA (j := 30) (by decide), Vp_thr hA, Vp_pl, Vp_pT, Vp_pr])
            exact vp
          · (try simp only [Vl0_pi hA (j := 18) (by decide), Vl0_pi hA (j := 22) (by decide), Vl0_pi hA (j := 30) (by decide), Vl0_pl, Vl0_pT, Vl0_pr])
            exact vl0
          · (try simp only [Vl1_pi hA (j := 18) (by decide), Vl1_pi hA (j := 22) (by decide), Vl1_pi hA (j := 30) (by decide), Vl1_pl, Vl1_pT, Vl1_pr])
            exact vl1
          · (try simp only [Vlr_pi hA (j := 18) (by decide), Vlr_pi hA (j := 22) (by decide), Vlr_pi hA (j := 30) (by decide), Vlr_pl hA (j := 39) (by decide), Vlr_pT, Vlr_pr])
            exact vlr
          · (try simp only [Vsr_pi hA (j := 18) (by decide), Vsr_pi hA (j := 22) (by decide), Vsr_pi hA (j := 30) (by decide), Vsr_pl hA (j := 39) (by decide), Vsr_pT, Vsr_pr])
            exact vsr
          · (try simp only [Vc_pi hA (j := 22) (by decide), Vc_pl, Vc_pT, Vc_pr])
            exact vc
          · (try simp only [Tx_pi hA (j := 18) (by decide), Tx_pi hA (j := 22) (by decide), Tx_pi hA (j := 30) (by decide), Tx_pl])
            exact Tx_pT ht tx
  · by_cases bq : q < 0 ∨ ¬ q < 3
    · have bq2 : (¬ q < 0 ∧ q < 3) = False := nrng bq
      by_cases bs : (¬ s < 0 ∧ s < 6)
      all_goals
        simp only [o298_0, o298_2, o298_3, o298_4, o298_5, o298_6, o298_9, o298_10, o298_13, o298_16, o298_18, o298_19, o298_20, o298_22, o298_23, o298_24, o298_25, o66_0, o66_1, o66_2, o66_5, o66_7, o66_8, o66_11, o66_12, o66_15, o66_16, o66_18, o66_21, o66_24, o66_25, o66_28, o66_29, o66_32, o66_33, o66_34, o66_37, o66_38, o66_39, o66_41, o66_42, o66_45, o66_48, o66_51, o190_0, o190_1, o190_2, o190_5, o190_8, o190_9, o190_12, o190_15, o190_16, o190_19, o190_20, o190_21, o190_24, o190_25, o190_27, o190_30, o190_31, o190_34, o190_35, o190_38, o190_41, o190_42, o190_43, o190_44, o190_45, o190_46, o190_49, o190_52, o190_53, o190_54, o190_57, o190_60, o190_61, o190_62, o190_63, o190_64, o190_67, o190_68, o190_69, o190_70, o190_73, o190_74, o190_77, o190_80, hx_298_1, hx_298_2, c_X5_checkSlot, c_X8_isSlot, c_X8_isThrown, c_X8_isThrown_, c_X8_isThrown__, c_X8_isQueue, c_queueOf_bad, c_X5_checkAhead, mc_pi, mc_pl, mc_pr, mc_pN, mc_pT, mc_pC, mn_pi, mn_pl, mn_pr, mn_pN, mn_pT, mn_pC, mi_pi, mi_pl, mi_pr, mi_pN, mi_pT, mi_pC, ml_pi, ml_pl, ml_pr, ml_pN, ml_pT, ml_pC, mr_pi, mr_pl, mr_pr, mr_pN, mr_pT, mr_pC, mt_pi, mt_pl, mt_pr, mt_pN, mt_pT, mt_pC, mz_pi, mz_pl, mz_pr, mz_pN, mz_pT, mz_pC, ma_pi, ma_pl, ma_pr, ma_pN, ma_pT, ma_pC, mcs_0, mcs_i, mcs_l, mcs_r, mcs_n, csum_rf, Kn_v, Kn_0, Kn_x, mrf_some, kok_0, true_and, and_true, false_and, and_false, true_or, or_true, or_false, false_or, not_true_eq_false, not_false_eq_true, true_implies, false_implies, implies_true, forall_const, if_true, if_false, and_self, Nat.reduceEqDiff, Nat.reduceLeDiff, Nat.reduceSub, Nat.reduceAdd, Nat.zero_le, Nat.le_refl, i10, i01, kz0, kz1, eq_self, lt_le, Classical.not_not, Int32.reduceLT, Int32.reduceAdd, Int32.reduceSub, Int32.reduceMul, cl0, cl1, cl2, cl3, cl4, cl5, cl6, cl7, cl8, cl9, cl10, cl11, cl12, cl13, cl14, cl15, cl16, cl17, cl18, cl19, cl20, cl21, cl22, cl23, cl24, cl25, cl26, cl27, cl28, cl29, cl30, cl31, cl32, cl33, cl34, cl35, cl36, cl37, cl38, cl39, lg_cmp_eq, Kc_v, Kc_0, Sum.inl.injEq, Option.some.injEq, Value.int.injEq, exists_eq_left', Nat.reduceLT, hAe, i20, i30, kc0, kc1, kc2, kc3, kc4, kc5, kc6, kc7, kc8, kc9, kc10, kc11, kc12, kc13, kc14, kc15, kc16, kc17, kc18, kc19, kc20, kc21, kc22, kc23, kc24, kc25, kc26, kc27, kc28, kc29, kc30, kc31, kc32, kc33, kc34, kc35, kc36, kc37, kc38, kc39, kn3, kn4, kn18, kn21, kn23, kn24, kn25, kn26, kn27, kn29, kn30, kr0_0, kr0_1, kr0_2, kr0_3, kr0_4, kr0_5, kr0_7, kr0_8, kr0_9, kr0_10, kr1_0, kr2_0, kr5_0, kr5_1, kr6_0, kr6_1, kr7_0, kr7_1, kr8_0, kr9_0, kr10_0, kr11_0, kr12_0, kr13_0, kr14_0, kr15_0, kr16_0, kr17_0, kr19_0, kr19_1, kr22_0, kr22_1, kr22_2, kr22_3, kr22_4, kr22_5, kr22_7, kr22_8, kr25_0, kr25_1, kr25_2, kr26_0, kr26_1, kr26_2, kr29_0, kr29_1, kz, ki5_2, ki6_2, ki7_2, ki8_1, ki8_2, ki8_3, ki9_1, ki9_2, ki9_3, ki10_1, ki10_2, ki10_3, ki11_1, ki11_2, ki11_3, ki12_1, ki12_2, ki12_3, ki13_1, ki13_2, ki13_3, ki14_1, ki14_2, ki14_3, ki28_0, ki28_1, ki31_0, ki31_1, ki32_0, ki32_1, ki33_0, ki33_1, ki34_0, ki34_1, ki35_0, ki35_1, ki36_0, ki36_1, bq, bq2, bs, bx0, bx9]
        intro t ht
        first | refine ⟨⟨?_, ?_, ?_, ?_, ?_, ?_, ?_, ?_, ?_, ?_, ?_, ?_⟩, rfl⟩ | refine ⟨?_, ?_, ?_, ?_, ?_, ?_, ?_, ?_, ?_, ?_, ?_, ?_⟩
        · (try simp only [K_pi, K_pl, K_pC, K_cW, K_mW])
          exact K_pT ht vk
        · (try simp only [Cn_pi hA (j := 18) (by decide), Cn_pi hA (j := 22) (by decide), Cn_pi hA (j := 30) (by decide), Cn_pl, Cn_pT, Cn_pr])
          exact vcn
        · (try simp only [Vq0_pi hA (j := 18) (by decide), Vq0_pi hA (j := 22) (by decide), Vq0_pi hA (j := 30) (by decide), Vq0_pl, Vq0_pT, Vq0_pr])
          exact v0
        · (try simp only [Vq1_pi hA (j := 18) (by decide), Vq1_pi hA (j := 22) (by decide), Vq1_pi hA (j := 30) (by decide), Vq1_pl, Vq1_pT, Vq1_pr])
          exact v1
        · (try simp only [Vq2_pi hA (j := 18) (by decide), Vq2_pi hA (j := 22) (by decide), Vq2_pi hA (j := 30) (by decide), Vq2_pl, Vq2_pT, Vq2_pr])
          exact v2
        · (try simp only [Vp_pi hA (j := 18) (by decide), Vp_pi hA (j := 30) (by decide), Vp_thr hA, Vp_pl, Vp_pT, Vp_pr])
          exact vp
        · (try simp only [Vl0_pi hA (j := 18) (by decide), Vl0_pi hA (j := 22) (by decide), Vl0_pi hA (j := 30) (by decide), Vl0_pl, Vl0_pT, Vl0_pr])
          exact vl0
        · (try simp only [Vl1_pi hA (j := 18) (by decide), Vl1_pi hA (j := 22) (by decide), Vl1_pi hA (j := 30) (by decide), Vl1_pl, Vl1_pT, Vl1_pr])
          exact vl1
        · (try simp only [Vlr_pi hA (j := 18) (by decide), Vlr_pi hA (j := 22) (by decide), Vlr_pi hA (j := 30) (by decide), Vlr_pl hA (j := 39) (by decide), Vlr_pT, Vlr_pr])
          exact vlr
        · (try simp only [Vsr_pi hA (j := 18) (by decide), Vsr_pi hA (j := 22) (by decide), Vsr_pi hA (j := 30) (by decide), Vsr_pl hA (j := 39) (by decide), Vsr_pT, Vsr_pr])
          exact vsr
        · (try simp only [Vc_pi hA (j := 22) (by decide), Vc_pl, Vc_pT, Vc_pr])
          exact vc
        · (try simp only [Tx_pi hA (j := 18) (by decide), Tx_pi hA (j := 22) (by decide), Tx_pi hA (j := 30) (by decide), Tx_pl])
          exact Tx_pT ht tx
    · have y1 : ¬ q < 0 := fun z => bq (Or.inl z)
      have y2 : q < 3 := Classical.byContradiction fun z => bq (Or.inr z)
      have bq2 : (¬ q < 0 ∧ q < 3) = True := eq_true ⟨y1, y2⟩
      by_cases bs : s < 0 ∨ ¬ s < 6
      · have bs2 : (¬ s < 0 ∧ s < 6) = False := nrng bs
        rcases q_cases y1 y2 with rfl | rfl | rfl
        · skip
          simp only [o298_0, o298_2, o298_3, o298_4, o298_5, o298_6, o298_9, o298_10, o298_13, o298_16, o298_18, o298_19, o298_20, o298_22, o298_23, o298_24, o298_25, o66_0, o66_1, o66_2, o66_5, o66_7, o66_8, o66_11, o66_12, o66_15, o66_16, o66_18, o66_21, o66_24, o66_25, o66_28, o66_29, o66_32, o66_33, o66_34, o66_37, o66_38, o66_39, o66_41, o66_42, o66_45, o66_48, o66_51, o190_0, o190_1, o190_2, o190_5, o190_8, o190_9, o190_12, o190_15, o190_16, o190_19, o190_20, o190_21, o190_24, o190_25, o190_27, o190_30, o190_31, o190_34, o190_35, o190_38, o190_41, o190_42, o190_43, o190_44, o190_45, o190_46, o190_49, o190_52, o190_53, o190_54, o190_57, o190_60, o190_61, o190_62, o190_63, o190_64, o190_67, o190_68, o190_69, o190_70, o190_73, o190_74, o190_77, o190_80, hx_298_1, hx_298_2, c_X5_checkSlot, c_X8_isSlot, c_X8_isThrown, c_X8_isThrown_, c_X8_isThrown__, c_X8_isQueue, c_queueOf_bad, c_X5_checkAhead, c_queueOf_0, mc_pi, mc_pl, mc_pr, mc_pN, mc_pT, mc_pC, mn_pi, mn_pl, mn_pr, mn_pN, mn_pT, mn_pC, mi_pi, mi_pl, mi_pr, mi_pN, mi_pT, mi_pC, ml_pi, ml_pl, ml_pr, ml_pN, ml_pT, ml_pC, mr_pi, mr_pl, mr_pr, mr_pN, mr_pT, mr_pC, mt_pi, mt_pl, mt_pr, mt_pN, mt_pT, mt_pC, mz_pi, mz_pl, mz_pr, mz_pN, mz_pT, mz_pC, ma_pi, ma_pl, ma_pr, ma_pN, ma_pT, ma_pC, mcs_0, mcs_i, mcs_l, mcs_r, mcs_n, csum_rf, Kn_v, Kn_0, Kn_x, mrf_some, kok_0, true_and, and_true, false_and, and_false, true_or, or_true, or_false, false_or, not_true_eq_false, not_false_eq_true, true_implies, false_implies, implies_true, forall_const, if_true, if_false, and_self, Nat.reduceEqDiff, Nat.reduceLeDiff, Nat.reduceSub, Nat.reduceAdd, Nat.zero_le, Nat.le_refl, i10, i01, kz0, kz1, eq_self, lt_le, Classical.not_not, Int32.reduceLT, Int32.reduceAdd, Int32.reduceSub, Int32.reduceMul, cl0, cl1, cl2, cl3, cl4, cl5, cl6, cl7, cl8, cl9, cl10, cl11, cl12, cl13, cl14, cl15, cl16, cl17, cl18, cl19, cl20, cl21, cl22, cl23, cl24, cl25, cl26, cl27, cl28, cl29, cl30, cl31, cl32, cl33, cl34, cl35, cl36, cl37, cl38, cl39, lg_cmp_eq, Kc_v, Kc_0, Sum.inl.injEq, Option.some.injEq, Value.int.injEq, exists_eq_left', Nat.reduceLT, hAe, i20, i30, kc0, kc1, kc2, kc3, kc4, kc5, kc6, kc7, kc8, kc9, kc10, kc11, kc12, kc13, kc14, kc15, kc16, kc17, kc18, kc19, kc20, kc21, kc22, kc23, kc24, kc25, kc26, kc27, kc28, kc29, kc30, kc31, kc32, kc33, kc34, kc35, kc36, kc37, kc38, kc39, kn3, kn4, kn18, kn21, kn23, kn24, kn25, kn26, kn27, kn29, kn30, kr0_0, kr0_1, kr0_2, kr0_3, kr0_4, kr0_5, kr0_7, kr0_8, kr0_9, kr0_10, kr1_0, kr2_0, kr5_0, kr5_1, kr6_0, kr6_1, kr7_0, kr7_1, kr8_0, kr9_0, kr10_0, kr11_0, kr12_0, kr13_0, kr14_0, kr15_0, kr16_0, kr17_0, kr19_0, kr19_1, kr22_0, kr22_1, kr22_2, kr22_3, kr22_4, kr22_5, kr22_7, kr22_8, kr25_0, kr25_1, kr25_2, kr26_0, kr26_1, kr26_2, kr29_0, kr29_1, kz, ki5_2, ki6_2, ki7_2, ki8_1, ki8_2, ki8_3, ki9_1, ki9_2, ki9_3, ki10_1, ki10_2, ki10_3, ki11_1, ki11_2, ki11_3, ki12_1, ki12_2, ki12_3, ki13_1, ki13_2, ki13_3, ki14_1, ki14_2, ki14_3, ki28_0, ki28_1, ki31_0, ki31_1, ki32_0, ki32_1, ki33_0, ki33_1, ki34_0, ki34_1, ki35_0, ki35_1, ki36_0, ki36_1, bq0, bqq, vq3, bs, bs2, bx0, bx9]
          intro t ht
          first | refine ⟨⟨?_, ?_, ?_, ?_, ?_, ?_, ?_, ?_, ?_, ?_, ?_, ?_⟩, rfl⟩ | refine ⟨?_, ?_, ?_, ?_, ?_, ?_, ?_, ?_, ?_, ?_, ?_, ?_⟩
          · (try simp only [K_pi, K_pl, K_pC, K_cW, K_mW])
            exact K_pT ht vk
          · (try simp only [Cn_pi hA (j := 18) (by decide), Cn_pi hA (j := 22) (by decide), Cn_pi hA (j := 30) (by decide), Cn_pl, Cn_pT, Cn_pr])
            exact vcn
          · (try simp only [Vq0_pi hA (j := 18) (by decide), Vq0_pi hA (j := 22) (by decide), Vq0_pi hA (j := 30) (by decide), Vq0_pl, Vq0_pT, Vq0_pr])
            exact v0
          · (try simp only [Vq1_pi hA (j := 18) (by decide), Vq1_pi hA (j := 22) (by decide), Vq1_pi hA (j := 30) (by decide), Vq1_pl, Vq1_pT, Vq1_pr])
            exact v1
          · (try simp only [Vq2_pi hA (j := 18) (by decide), Vq2_pi hA (j := 22) (by decide), Vq2_pi hA (j := 30) (by decide), Vq2_pl, Vq2_pT, Vq2_pr])
            exact v2
          · (try simp only [Vp_pi hA (j := 18) (by decide), Vp_pi hA (j := 30) (by decide), Vp_thr hA, Vp_pl, Vp_pT, Vp_pr])
            exact vp
          · (try simp only [Vl0_pi hA (j := 18) (by decide), Vl0_pi hA (j := 22) (by decide), Vl0_pi hA (j := 30) (by decide), Vl0_pl, Vl0_pT, Vl0_pr])
            exact vl0
          · (try simp only [Vl1_pi hA (j := 18) (by decide), Vl1_pi hA (j := 22) (by decide), Vl1_pi hA (j := 30) (by decide), Vl1_pl, Vl1_pT, Vl1_pr])
            exact vl1
          · (try simp only [Vlr_pi hA (j := 18) (by decide), Vlr_pi hA (j := 22) (by decide), Vlr_pi hA (j := 30) (by decide), Vlr_pl hA (j := 39) (by decide), Vlr_pT, Vlr_pr])
            exact vlr
          · (try simp only [Vsr_pi hA (j := 18) (by decide), Vsr_pi hA (j := 22) (by decide), Vsr_pi hA (j := 30) (by decide), Vsr_pl hA (j := 39) (by decide), Vsr_pT, Vsr_pr])
            exact vsr
          · (try simp only [Vc_pi hA (j := 22) (by decide), Vc_pl, Vc_pT, Vc_pr])
            exact vc
          · (try simp only [Tx_pi hA (j := 18) (by decide), Tx_pi hA (j := 22) (by decide), Tx_pi hA (j := 30) (by decide), Tx_pl])
            exact Tx_pT ht tx
        · skip
          simp only [o298_0, o298_2, o298_3, o298_4, o298_5, o298_6, o298_9, o298_10, o298_13, o298_16, o298_18, o298_19, o298_20, o298_22, o298_23, o298_24, o298_25, o66_0, o66_1, o66_2, o66_5, o66_7, o66_8, o66_11, o66_12, o66_15, o66_16, o66_18, o66_21, o66_24, o66_25, o66_28, o66_29, o66_32, o66_33, o66_34, o66_37, o66_38, o66_39, o66_41, o66_42, o66_45, o66_48, o66_51, o190_0, o190_1, o190_2, o190_5, o190_8, o190_9, o190_12, o190_15, o190_16, o190_19, o190_20, o190_21, o190_24, o190_25, o190_27, o190_30, o190_31, o190_34, o190_35, o190_38, o190_41, o190_42, o190_43, o190_44, o190_45, o190_46, o190_49, o190_52, o190_53, o190_54, o190_57, o190_60, o190_61, o190_62, o190_63, o190_64, o190_67, o190_68, o190_69, o190_70, o190_73, o190_74, o190_77, o190_80, hx_298_1, hx_298_2, c_X5_checkSlot, c_X8_isSlot, c_X8_isThrown, c_X8_isThrown_, c_X8_isThrown__, c_X8_isQueue, c_queueOf_bad, c_X5_checkAhead, c_queueOf_1, mc_pi, mc_pl, mc_pr, mc_pN, mc_pT, mc_pC, mn_pi, mn_pl, mn_pr, mn_pN, mn_pT, mn_pC, mi_pi, mi_pl, mi_pr, mi_pN, mi_pT, mi_pC, ml_pi, ml_pl, ml_pr, ml_pN, ml_pT, ml_pC, mr_pi, mr_pl, mr_pr, mr_pN, mr_pT, mr_pC, mt_pi, mt_pl, mt_pr, mt_pN, mt_pT, mt_pC, mz_pi, mz_pl, mz_pr, mz_pN, mz_pT, mz_pC, ma_pi, ma_pl, ma_pr, ma_pN, ma_pT, ma_pC, mcs_0, mcs_i, mcs_l, mcs_r, mcs_n, csum_rf, Kn_v, Kn_0, Kn_x, mrf_some, kok_0, true_and, and_true, false_and, and_false, true_or, or_true, or_false, false_or, not_true_eq_false, not_false_eq_true, true_implies, false_implies, implies_true, forall_const, if_true, if_false, and_self, Nat.reduceEqDiff, Nat.reduceLeDiff, Nat.reduceSub, Nat.reduceAdd, Nat.zero_le, Nat.le_refl, i10, i01, kz0, kz1, eq_self, lt_le, Classical.not_not, Int32.reduceLT, Int32.reduceAdd, Int32.reduceSub, Int32.reduceMul, cl0, cl1, cl2, cl3, cl4, cl5, cl6, cl7, cl8, cl9, cl10, cl11, cl12, cl13, cl14, cl15, cl16, cl17, cl18, cl19, cl20, cl21, cl22, cl23, cl24, cl25, cl26, cl27, cl28, cl29, cl30, cl31, cl32, cl33, cl34, cl35, cl36, cl37, cl38, cl39, lg_cmp_eq, Kc_v, Kc_0, Sum.inl.injEq, Option.some.injEq, Value.int.injEq, exists_eq_left', Nat.reduceLT, hAe, i20, i30, kc0, kc1, kc2, kc3, kc4, kc5, kc6, kc7, kc8, kc9, kc10, kc11, kc12, kc13, kc14, kc15, kc16, kc17, kc18, kc19, kc20, kc21, kc22, kc23, kc24, kc25, kc26, kc27, kc28, kc29, kc30, kc31, kc32, kc33, kc34, kc35, kc36, kc37, kc38, kc39, kn3, kn4, kn18, kn21, kn23, kn24, kn25, kn26, kn27, kn29, kn30, kr0_0, kr0_1, kr0_2, kr0_3, kr0_4, kr0_5, kr0_7, kr0_8, kr0_9, kr0_10, kr1_0, kr2_0, kr5_0, kr5_1, kr6_0, kr6_1, kr7_0, kr7_1, kr8_0, kr9_0, kr10_0, kr11_0, kr12_0, kr13_0, kr14_0, kr15_0, kr16_0, kr17_0, kr19_0, kr19_1, kr22_0, kr22_1, kr22_2, kr22_3, kr22_4, kr22_5, kr22_7, kr22_8, kr25_0, kr25_1, kr25_2, kr26_0, kr26_1, kr26_2, kr29_0, kr29_1, kz, ki5_2, ki6_2, ki7_2, ki8_1, ki8_2, ki8_3, ki9_1, ki9_2, ki9_3, ki10_1, ki10_2, ki10_3, ki11_1, ki11_2, ki11_3, ki12_1, ki12_2, ki12_3, ki13_1, ki13_2, ki13_3, ki14_1, ki14_2, ki14_3, ki28_0, ki28_1, ki31_0, ki31_1, ki32_0, ki32_1, ki33_0, ki33_1, ki34_0, ki34_1, ki35_0, ki35_1, ki36_0, ki36_1, bq0, bqq, vq3, bs, bs2, bx0, bx9]
          intro t ht
          first | refine ⟨⟨?_, ?_, ?_, ?_, ?_, ?_, ?_, ?_, ?_, ?_, ?_, ?_⟩, rfl⟩ | refine ⟨?_, ?_, ?_, ?_, ?_, ?_, ?_, ?_, ?_, ?_, ?_, ?_⟩
          · (try simp only [K_pi, K_pl, K_pC, K_cW, K_mW])
            exact K_pT ht vk
          · (try simp only [Cn_pi hA (j := 18) (by decide), Cn_pi hA (j := 22) (by decide), Cn_pi hA (j := 30) (by decide), Cn_pl, Cn_pT, Cn_pr])
            exact vcn
          · (try simp only [Vq0_pi hA (j := 18) (by decide), Vq0_pi hA (j := 22) (by decide), Vq0_pi hA (j := 30) (by decide), Vq0_pl, Vq0_pT, Vq0_pr])
            exact v0
          · (try simp only [Vq1_pi hA (j := 18) (by decide), Vq1_pi hA (j := 22) (by decide), Vq1_pi hA (j := 30) (by decide), Vq1_pl, Vq1_pT, Vq1_pr])
            exact v1
          · (try simp only [Vq2_pi hA (j := 18) (by decide), Vq2_pi hA (j := 22) (by decide), Vq2_pi hA (j := 30) (by decide), Vq2_pl, Vq2_pT, Vq2_pr])
            exact v2
          · (try simp only [Vp_pi hA (j := 18) (by decide), Vp_pi hA (j := 30) (by decide), Vp_thr hA, Vp_pl, Vp_pT, Vp_pr])
            exact vp
          · (try simp only [Vl0_pi hA (j := 18) (by decide), Vl0_pi hA (j := 22) (by decide), Vl0_pi hA (j := 30) (by decide), Vl0_pl, Vl0_pT, Vl0_pr])
            exact vl0
          · (try simp only [Vl1_pi hA (j := 18) (by decide), Vl1_pi hA (j := 22) (by decide), Vl1_pi hA (j := 30) (by decide), Vl1_pl, Vl1_pT, Vl1_pr])
            exact vl1
          · (try simp only [Vlr_pi hA (j := 18) (by decide), Vlr_pi hA (j := 22) (by decide), Vlr_pi hA (j := 30) (by decide), Vlr_pl hA (j := 39) (by decide), Vlr_pT, Vlr_pr])
            exact vlr
          · (try simp only [Vsr_pi hA (j := 18) (by decide), Vsr_pi hA (j := 22) (by decide), Vsr_pi hA (j := 30) (by decide), Vsr_pl hA (j := 39) (by decide), Vsr_pT, Vsr_pr])
            exact vsr
          · (try simp only [Vc_pi hA (j := 22) (by decide), Vc_pl, Vc_pT, Vc_pr])
            exact vc
          · (try simp only [Tx_pi hA (j := 18) (by decide), Tx_pi hA (j := 22) (by decide), Tx_pi hA (j := 30) (by decide), Tx_pl])
            exact Tx_pT ht tx
        · skip
          simp only [o298_0, o298_2, o298_3, o298_4, o298_5, o298_6, o298_9, o298_10, o298_13, o298_16, o298_18, o298_19, o298_20, o298_22, o298_23, o298_24, o298_25, o66_0, o66_1, o66_2, o66_5, o66_7, o66_8, o66_11, o66_12, o66_15, o66_16, o66_18, o66_21, o66_24, o66_25, o66_28, o66_29, o66_32, o66_33, o66_34, o66_37, o66_38, o66_39, o66_41, o66_42, o66_45, o66_48, o66_51, o190_0, o190_1, o190_2, o190_5, o190_8, o190_9, o190_12, o190_15, o190_16, o190_19, o190_20, o190_21, o190_24, o190_25, o190_27, o190_30, o190_31, o190_34, o190_35, o190_38, o190_41, o190_42, o190_43, o190_44, o190_45, o190_46, o190_49, o190_52, o190_53, o190_54, o190_57, o190_60, o190_61, o190_62, o190_63, o190_64, o190_67, o190_68, o190_69, o190_70, o190_73, o190_74, o190_77, o190_80, hx_298_1, hx_298_2, c_X5_checkSlot, c_X8_isSlot, c_X8_isThrown, c_X8_isThrown_, c_X8_isThrown__, c_X8_isQueue, c_queueOf_bad, c_X5_checkAhead, c_queueOf_2, mc_pi, mc_pl, mc_pr, mc_pN, mc_pT, mc_pC, mn_pi, mn_pl, mn_pr, mn_pN, mn_pT, mn_pC, mi_pi, mi_pl, mi_pr, mi_pN, mi_pT, mi_pC, ml_pi, ml_pl, ml_pr, ml_pN, ml_pT, ml_pC, mr_pi, mr_pl, mr_pr, mr_pN, mr_pT, mr_pC, mt_pi, mt_pl, mt_pr, mt_pN, mt_pT, mt_pC, mz_pi, mz_pl, mz_pr, mz_pN, mz_pT, mz_pC, ma_pi, ma_pl, ma_pr, ma_pN, ma_pT, ma_pC, mcs_0, mcs_i, mcs_l, mcs_r, mcs_n, csum_rf, Kn_v, Kn_0, Kn_x, mrf_some, kok_0, true_and, and_true, false_and, and_false, true_or, or_true, or_false, false_or, not_true_eq_false, not_false_eq_true, true_implies, false_implies, implies_true, forall_const, if_true, if_false, and_self, Nat.reduceEqDiff, Nat.reduceLeDiff, Nat.reduceSub, Nat.reduceAdd, Nat.zero_le, Nat.le_refl, i10, i01, kz0, kz1, eq_self, lt_le, Classical.not_not, Int32.reduceLT, Int32.reduceAdd, Int32.reduceSub, Int32.reduceMul, cl0, cl1, cl2, cl3, cl4, cl5, cl6, cl7, cl8, cl9, cl10, cl11, cl12, cl13, cl14, cl15, cl16, cl17, cl18, cl19, cl20, cl21, cl22, cl23, cl24, cl25, cl26, cl27, cl28, cl29, cl30, cl31, cl32, cl33, cl34, cl35, cl36, cl37, cl38, cl39, lg_cmp_eq, Kc_v, Kc_0, Sum.inl.injEq, Option.some.injEq, Value.int.injEq, exists_eq_left', Nat.reduceLT, hAe, i20, i30, kc0, kc1, kc2, kc3, kc4, kc5, kc6, kc7, kc8, kc9, kc10, kc11, kc12, kc13, kc14, kc15, kc16, kc17, kc18, kc19, kc20, kc21, kc22, kc23, kc24, kc25, kc26, kc27, kc28, kc29, kc30, kc31, kc32, kc33, kc34, kc35, kc36, kc37, kc38, kc39, kn3, kn4, kn18, kn21, kn23, kn24, kn25, kn26, kn27, kn29, kn30, kr0_0, kr0_1, kr0_2, kr0_3, kr0_4, kr0_5, kr0_7, kr0_8, kr0_9, kr0_10, kr1_0, kr2_0, kr5_0, kr5_1, kr6_0, kr6_1, kr7_0, kr7_1, kr8_0, kr9_0, kr10_0, kr11_0, kr12_0, kr13_0, kr14_0, kr15_0, kr16_0, kr17_0, kr19_0, kr19_1, kr22_0, kr22_1, kr22_2, kr22_3, kr22_4, kr22_5, kr22_7, kr22_8, kr25_0, kr25_1, kr25_2, kr26_0, kr26_1, kr26_2, kr29_0, kr29_1, kz, ki5_2, ki6_2, ki7_2, ki8_1, ki8_2, ki8_3, ki9_1, ki9_2, ki9_3, ki10_1, ki10_2, ki10_3, ki11_1, ki11_2, ki11_3, ki12_1, ki12_2, ki12_3, ki13_1, ki13_2, ki13_3, ki14_1, ki14_2, ki14_3, ki28_0, ki28_1, ki31_0, ki31_1, ki32_0, ki32_1, ki33_0, ki33_1, ki34_0, ki34_1, ki35_0, ki35_1, ki36_0, ki36_1, bq0, bqq, vq3, bs, bs2, bx0, bx9]
          intro t ht
          first | refine ⟨⟨?_, ?_, ?_, ?_, ?_, ?_, ?_, ?_, ?_, ?_, ?_, ?_⟩, rfl⟩ | refine ⟨?_, ?_, ?_, ?_, ?_, ?_, ?_, ?_, ?_, ?_, ?_, ?_⟩
          · (try simp only [K_pi, K_pl, K_pC, K_cW, K_mW])
            exact K_pT ht vk
          · (try simp only [Cn_pi hA (j := 18) (by decide), Cn_pi hA (j := 22) (by decide), Cn_pi hA (j := 30) (by decide), Cn_pl, Cn_pT, Cn_pr])
            exact vcn
          · (try simp only [Vq0_pi hA (j := 18) (by decide), Vq0_pi hA (j := 22) (by decide), Vq0_pi hA (j := 30) (by decide), Vq0_pl, Vq0_pT, Vq0_pr])
            exact v0
          · (try simp only [Vq1_pi hA (j := 18) (by decide), Vq1_pi hA (j := 22) (by decide), Vq1_pi hA (j := 30) (by decide), Vq1_pl, Vq1_pT, Vq1_pr])
            exact v1
          · (try simp only [Vq2_pi hA (j := 18) (by decide), Vq2_pi hA (j := 22) (by decide), Vq2_pi hA (j := 30) (by decide), Vq2_pl, Vq2_pT, Vq2_pr])
            exact v2
          · (try simp only [Vp_pi hA (j := 18) (by decide), Vp_pi hA (j := 30) (by decide), Vp_thr hA, Vp_pl, Vp_pT, Vp_pr])
            exact vp
          · (try simp only [Vl0_pi hA (j := 18) (by decide), Vl0_pi hA (j := 22) (by decide), Vl0_pi hA (j := 30) (by decide), Vl0_pl, Vl0_pT, Vl0_pr])
            exact vl0
          · (try simp only [Vl1_pi hA (j := 18) (by decide), Vl1_pi hA (j := 22) (by decide), Vl1_pi hA (j := 30) (by decide), Vl1_pl, Vl1_pT, Vl1_pr])
            exact vl1
          · (try simp only [Vlr_pi hA (j := 18) (by decide), Vlr_pi hA (j := 22) (by decide), Vlr_pi hA (j := 30) (by decide), Vlr_pl hA (j := 39) (by decide), Vlr_pT, Vlr_pr])
            exact vlr
          · (try simp only [Vsr_pi hA (j := 18) (by decide), Vsr_pi hA (j := 22) (by decide), Vsr_pi hA (j := 30) (by decide), Vsr_pl hA (j := 39) (by decide), Vsr_pT, Vsr_pr])
            exact vsr
          · (try simp only [Vc_pi hA (j := 22) (by decide), Vc_pl, Vc_pT, Vc_pr])
            exact vc
          · (try simp only [Tx_pi hA (j := 18) (by decide), Tx_pi hA (j := 22) (by decide), Tx_pi hA (j := 30) (by decide), Tx_pl])
            exact Tx_pT ht tx
      · have s1 : ¬ s < 0 := fun z => bs (Or.inl z)
        have s2 : s < 6 := Classical.byContradiction fun z => bs (Or.inr z)
        have hs := ix_ok s1 s2
        have hs2 := hs
        obtain ⟨⟨j0, j1, j2, j3⟩, d01, d02, d03, d10, d12, d13, d20, d21, d23, d30, d31, d32⟩ := hs2
        obtain ⟨l0, l1, l2, l3⟩ := ix_lt hs
        have vs0 := (vsr _ l0).1
        have vs1 := (vsr _ l1).1
        have vs2 := (vsr _ l2).1
        have vs3 := (vsr _ l3).1
        have bs2 : (¬ s < 0 ∧ s < 6) = True := eq_true ⟨s1, s2⟩
        rcases q_cases y1 y2 with rfl | rfl | rfl
        · have he := v0.1
          have hm := v0.2
          have hT : mT h (A 27) 0 (A 31) (A 34) = cT h (A 5) (A 8) (A 9) := he.symm
          have he2 := he
          simp only [cT, mT, Prod.mk.injEq] at he2
          obtain ⟨g1, g2, g3, g4, g5, g6, g7⟩ := he2
          replace g1 := g1.symm
          replace g2 := g2.symm
          replace g3 := g3.symm
          replace g4 := g4.symm
          replace g5 := g5.symm
          replace g6 := g6.symm
          replace g7 := g7.symm
          obtain ⟨hmk, har, hl0, hl9⟩ := qA_0 _ hm
          have hark : arok 0 (g_i h (A 5) 3) := fun z => absurd (by decide) z
          have n1 : ¬ A 8 = A 9 := fun z => absurd ((hAe 8 9 (by decide) (by decide)).mp z) (by decide)
          by_cases bl : x < lyF (cT h (A 5) (A 8) (A 9))
          · obtain ⟨i1, i2, hj⟩ := (qX_0 _ hm x (x_mem bx0 bx9)).resolve_left (fun z => z bl)
            have hj2 := hj.2.2
            have vlk := (vlr _ (rdy_lt hj)).symm
            simp only [o298_0, o298_2, o298_3, o298_4, o298_5, o298_6, o298_9, o298_10, o298_13, o298_16, o298_18, o298_19, o298_20, o298_22, o298_23, o298_24, o298_25, o66_0, o66_1, o66_2, o66_5, o66_7, o66_8, o66_11, o66_12, o66_15, o66_16, o66_18, o66_21, o66_24, o66_25, o66_28, o66_29, o66_32, o66_33, o66_34, o66_37, o66_38, o66_39, o66_41, o66_42, o66_45, o66_48, o66_51, o190_0, o190_1, o190_2, o190_5, o190_8, o190_9, o190_12, o190_15, o190_16, o190_19, o190_20, o190_21, o190_24, o190_25, o190_27, o190_30, o190_31, o190_34, o190_35, o190_38, o190_41, o190_42, o190_43, o190_44, o190_45, o190_46, o190_49, o190_52, o190_53, o190_54, o190_57, o190_60, o190_61, o190_62, o190_63, o190_64, o190_67, o190_68, o190_69, o190_70, o190_73, o190_74, o190_77, o190_80, hx_298_1, hx_298_2, c_X5_checkSlot, c_X8_isSlot, c_X8_isThrown, c_X8_isThrown_, c_X8_isThrown__, c_X8_isQueue, c_queueOf_bad, c_X5_checkAhead, c_queueOf_0, c_X1_lying (w := A 8) (r := A 9), c_X1_lyingAt (w := A 8) (r := A 9) (rw := A 1) (cs := A 3) (n := 16), c_X8_liesOf (x2 := A 25) (x3 := A 26) (a := A 27) (w := A 31) (r := A 34), c_X8_cellOf (x2 := A 25) (x3 := A 26) (a := A 27) (w := A 31) (r := A 34), c_X5_layNumber (rw := A 2) (cs := A 4), c_X8_laid (sr := A 24), c_X0_done (cs := A 18), c_X8_done (cs := A 30), mc_pi, mc_pl, mc_pr, mc_pN, mc_pT, mc_pC, mn_pi, mn_pl, mn_pr, mn_pN, mn_pT, mn_pC, mi_pi, mi_pl, mi_pr, mi_pN, mi_pT, mi_pC, ml_pi, ml_pl, ml_pr, ml_pN, ml_pT, ml_pC, mr_pi, mr_pl, mr_pr, mr_pN, mr_pT, mr_pC, mt_pi, mt_pl, mt_pr, mt_pN, mt_pT, mt_pC, mz_pi, mz_pl, mz_pr, mz_pN, mz_pT, mz_pC, ma_pi, ma_pl, ma_pr, ma_pN, ma_pT, ma_pC, mcs_0, mcs_i, mcs_l, mcs_r, mcs_n, csum_rf, Kn_v, Kn_0, Kn_x, mrf_some, kok_0, true_and, and_true, false_and, and_false, true_or, or_true, or_false, false_or, not_true_eq_false, not_false_eq_true, true_implies, false_implies, implies_true, forall_const, if_true, if_false, and_self, Nat.reduceEqDiff, Nat.reduceLeDiff, Nat.reduceSub, Nat.reduceAdd, Nat.zero_le, Nat.le_refl, i10, i01, kz0, kz1, eq_self, lt_le, Classical.not_not, Int32.reduceLT, Int32.reduceAdd, Int32.reduceSub, Int32.reduceMul, cl0, cl1, cl2, cl3, cl4, cl5, cl6, cl7, cl8, cl9, cl10, cl11, cl12, cl13, cl14, cl15, cl16, cl17, cl18, cl19, cl20, cl21, cl22, cl23, cl24, cl25, cl26, cl27, cl28, cl29, cl30, cl31, cl32, cl33, cl34, cl35, cl36, cl37, cl38, cl39, lg_cmp_eq, Kc_v, Kc_0, Sum.inl.injEq, Option.some.injEq, Value.int.injEq, exists_eq_left', Nat.reduceLT, hAe, i20, i30, kc0, kc1, kc2, kc3, kc4, kc5, kc6, kc7, kc8, kc9, kc10, kc11, kc12, kc13, kc14, kc15, kc16, kc17, kc18, kc19, kc20, kc21, kc22, kc23, kc24, kc25, kc26, kc27, kc28, kc29, kc30, kc31, kc32, kc33, kc34, kc35, kc36, kc37, kc38, kc39, kn3, kn4, kn18, kn21, kn23, kn24, kn25, kn26, kn27, kn29, kn30, kr0_0, kr0_1, kr0_2, kr0_3, kr0_4, kr0_5, kr0_7, kr0_8, kr0_9, kr0_10, kr1_0, kr2_0, kr5_0, kr5_1, kr6_0, kr6_1, kr7_0, kr7_1, kr8_0, kr9_0, kr10_0, kr11_0, kr12_0, kr13_0, kr14_0, kr15_0, kr16_0, kr17_0, kr19_0, kr19_1, kr22_0, kr22_1, kr22_2, kr22_3, kr22_4, kr22_5, kr22_7, kr22_8, kr25_0, kr25_1, kr25_2, kr26_0, kr26_1, kr26_2, kr29_0, kr29_1, kz, ki5_2, ki6_2, ki7_2, ki8_1, ki8_2, ki8_3, ki9_1, ki9_2, ki9_3, ki10_1, ki10_2, ki10_3, ki11_1, ki11_2, ki11_3, ki12_1, ki12_2, ki12_3, ki13_1, ki13_2, ki13_3, ki14_1, ki14_2, ki14_3, ki28_0, ki28_1, ki31_0, ki31_1, ki32_0, ki32_1, ki33_0, ki33_1, ki34_0, ki34_1, ki35_0, ki35_1, ki36_0, ki36_1, bq0, bqq, vq3, hT, g1, g2, g3, g4, g5, g6, g7, hark, Int32.reduceLT, cl0, cl1, cl2, s1, s2, bs2, hs, d01, d02, d03, d10, d12, d13, d20, d21, d23, d30, d31, d32, vs0, vs1, vs2, vs3, i64_inj, i64_back, fo0, fo1, fo2, fo3, nm_eq, cT0_pi hA (j := 18) (by decide), mT0_pi hA (j := 18) (by decide), cT0_pi hA (j := 22) (by decide), mT0_pi hA (j := 22) (by decide), cT0_pi hA (j := 30) (by decide), mT0_pi hA (j := 30) (by decide), cT0_pi hA (j := 24) (by decide), mT0_pi hA (j := 24) (by decide), cT0_pl, mT0_pl, cT0_pT, mT0_pT, cT0_cW hA, mT0_cW hA, mT0_mW hA, cT0_mW hA, i1, i2, hj, hj2, n1, vlk, bl, bx0, bx9]
            first | refine ⟨⟨?_, ?_, ?_, ?_, ?_, ?_, ?_, ?_, ?_, ?_, ?_, ?_⟩, rfl⟩ | refine ⟨?_, ?_, ?_, ?_, ?_, ?_, ?_, ?_, ?_, ?_, ?_, ?_⟩
            · (try simp only [K_pi, K_pl, K_pC, K_cW, K_mW])
              exact vk
            · (try simp only [Cn_pi hA (j := 18) (by decide), Cn_pi hA (j := 22) (by decide), Cn_pi hA (j := 30) (by decide), Cn_pi hA (j := 24) (by decide), Cn_pl, Cn_pT, Cn_pr])
              exact vcn
            · (try simp only [Vq0_pi hA (j := 18) (by decide), Vq0_pi hA (j := 22) (by decide), Vq0_pi hA (j := 30) (by decide), Vq0_pi hA (j := 24) (by decide), Vq0_pl, Vq0_pT, Vq0_pr])
              exact v0
            · (try simp only [Vq1_pi hA (j := 18) (by decide), Vq1_pi hA (j := 22) (by decide), Vq1_pi hA (j := 30) (by decide), Vq1_pi hA (j := 24) (by decide), Vq1_pl, Vq1_pT, Vq1_pr])
              exact v1
            · (try simp only [Vq2_pi hA (j := 18) (by decide), Vq2_pi hA (j := 22) (by decide), Vq2_pi hA (j := 30) (by decide), Vq2_pi hA (j := 24) (by decide), Vq2_pl, Vq2_pT, Vq2_pr])
              exact v2
            · (try simp only [Vp_pi hA (j := 18) (by decide), Vp_pi hA (j := 30) (by decide), Vp_pi hA (j := 24) (by decide), Vp_thr hA, Vp_pl, Vp_pT, Vp_pr])
              exact vp
            · (try simp only [Vl0_pi hA (j := 18) (by decide), Vl0_pi hA (j := 22) (by decide), Vl0_pi hA (j := 30) (by decide), Vl0_pi hA (j := 24) (by decide), Vl0_pl, Vl0_pT, Vl0_pr])
              exact vl0
            · (try simp only [Vl1_pi hA (j := 18) (by decide), Vl1_pi hA (j := 22) (by decide), Vl1_pi hA (j := 30) (by decide), Vl1_pi hA (j := 24) (by decide), Vl1_pl, Vl1_pT, Vl1_pr])
              exact vl1
            · (try simp only [Vlr_pi hA (j := 18) (by decide), Vlr_pi hA (j := 22) (by decide), Vlr_pi hA (j := 30) (by decide), Vlr_pi hA (j := 24) (by decide), Vlr_pl hA (j := 39) (by decide), Vlr_pl hA (j := 4) (by decide), Vlr_pT, Vlr_pr])
              exact vlr
            · simp only [Vsr_pi hA (j := 18) (by decide), Vsr_pi hA (j := 22) (by decide), Vsr_pi hA (j := 30) (by decide), Vsr_pl hA (j := 39) (by decide), Vsr_pT, Vsr_pr]
              refine Vsr_nest vsr (fun k => ?_) (fun k => ?_) <;> simp only [l_cW, l_mW, mi_pi, mi_pl, ml_pi, ml_pl, mi_pT, ml_pT, mi_pr, ml_pr, hAe, Nat.reduceLT, Nat.reduceEqDiff, false_and, and_false, true_and, and_true, if_false, if_true, eq_self]
            · refine Vc_of (c := 0) vc (by decide) (fun k => ?_) (fun k => ?_) <;> simp only [l_cW, l_mW, mi_pi, mi_pl, ml_pi, ml_pl, mi_pT, ml_pT, mi_pr, ml_pr, hAe, Nat.reduceLT, Nat.reduceEqDiff, false_and, and_false, true_and, and_true, if_false, if_true, eq_self]
            · (try simp only [Tx_pi hA (j := 18) (by decide), Tx_pi hA (j := 22) (by decide), Tx_pi hA (j := 30) (by decide), Tx_pi hA (j := 24) (by decide), Tx_pl])
              exact tx
          · skip
            simp only [o298_0, o298_2, o298_3, o298_4, o298_5, o298_6, o298_9, o298_10, o298_13, o298_16, o298_18, o298_19, o298_20, o298_22, o298_23, o298_24, o298_25, o66_0, o66_1, o66_2, o66_5, o66_7, o66_8, o66_11, o66_12, o66_15, o66_16, o66_18, o66_21, o66_24, o66_25, o66_28, o66_29, o66_32, o66_33, o66_34, o66_37, o66_38, o66_39, o66_41, o66_42, o66_45, o66_48, o66_51, o190_0, o190_1, o190_2, o190_5, o190_8, o190_9, o190_12, o190_15, o190_16, o190_19, o190_20, o190_21, o190_24, o190_25, o190_27, o190_30, o190_31, o190_34, o190_35, o190_38, o190_41, o190_42, o190_43, o190_44, o190_45, o190_46, o190_49, o190_52, o190_53, o190_54, o190_57, o190_60, o190_61, o190_62, o190_63, o190_64, o190_67, o190_68, o190_69, o190_70, o190_73, o190_74, o190_77, o190_80, hx_298_1, hx_298_2, c_X5_checkSlot, c_X8_isSlot, c_X8_isThrown, c_X8_isThrown_, c_X8_isThrown__, c_X8_isQueue, c_queueOf_bad, c_X5_checkAhead, c_queueOf_0, c_X1_lying (w := A 8) (r := A 9), c_ref_5 (cs := A 18), c_X8_liesOf (x2 := A 25) (x3 := A 26) (a := A 27) (w := A 31) (r := A 34), c_X8_no (cs := A 30), mc_pi, mc_pl, mc_pr, mc_pN, mc_pT, mc_pC, mn_pi, mn_pl, mn_pr, mn_pN, mn_pT, mn_pC, mi_pi, mi_pl, mi_pr, mi_pN, mi_pT, mi_pC, ml_pi, ml_pl, ml_pr, ml_pN, ml_pT, ml_pC, mr_pi, mr_pl, mr_pr, mr_pN, mr_pT, mr_pC, mt_pi, mt_pl, mt_pr, mt_pN, mt_pT, mt_pC, mz_pi, mz_pl, mz_pr, mz_pN, mz_pT, mz_pC, ma_pi, ma_pl, ma_pr, ma_pN, ma_pT, ma_pC, mcs_0, mcs_i, mcs_l, mcs_r, mcs_n, csum_rf, Kn_v, Kn_0, Kn_x, mrf_some, kok_0, true_and, and_true, false_and, and_false, true_or, or_true, or_false, false_or, not_true_eq_false, not_false_eq_true, true_implies, false_implies, implies_true, forall_const, if_true, if_false, and_self, Nat.reduceEqDiff, Nat.reduceLeDiff, Nat.reduceSub, Nat.reduceAdd, Nat.zero_le, Nat.le_refl, i10, i01, kz0, kz1, eq_self, lt_le, Classical.not_not, Int32.reduceLT, Int32.reduceAdd, Int32.reduceSub, Int32.reduceMul, cl0, cl1, cl2, cl3, cl4, cl5, cl6, cl7, cl8, cl9, cl10, cl11, cl12, cl13, cl14, cl15, cl16, cl17, cl18, cl19, cl20, cl21, cl22, cl23, cl24, cl25, cl26, cl27, cl28, cl29, cl30, cl31, cl32, cl33, cl34, cl35, cl36, cl37, cl38, cl39, lg_cmp_eq, Kc_v, Kc_0, Sum.inl.injEq, Option.some.injEq, Value.int.injEq, exists_eq_left', Nat.reduceLT, hAe, i20, i30, kc0, kc1, kc2, kc3, kc4, kc5, kc6, kc7, kc8, kc9, kc10, kc11, kc12, kc13, kc14, kc15, kc16, kc17, kc18, kc19, kc20, kc21, kc22, kc23, kc24, kc25, kc26, kc27, kc28, kc29, kc30, kc31, kc32, kc33, kc34, kc35, kc36, kc37, kc38, kc39, kn3, kn4, kn18, kn21, kn23, kn24, kn25, kn26, kn27, kn29, kn30, kr0_0, kr0_1, kr0_2, kr0_3, kr0_4, kr0_5, kr0_7, kr0_8, kr0_9, kr0_10, kr1_0, kr2_0, kr5_0, kr5_1, kr6_0, kr6_1, kr7_0, kr7_1, kr8_0, kr9_0, kr10_0, kr11_0, kr12_0, kr13_0, kr14_0, kr15_0, kr16_0, kr17_0, kr19_0, kr19_1, kr22_0, kr22_1, kr22_2, kr22_3, kr22_4, kr22_5, kr22_7, kr22_8, kr25_0, kr25_1, kr25_2, kr26_0, kr26_1, kr26_2, kr29_0, kr29_1, kz, ki5_2, ki6_2, ki7_2, ki8_1, ki8_2, ki8_3, ki9_1, ki9_2, ki9_3, ki10_1, ki10_2, ki10_3, ki11_1, ki11_2, ki11_3, ki12_1, ki12_2, ki12_3, ki13_1, ki13_2, ki13_3, ki14_1, ki14_2, ki14_3, ki28_0, ki28_1, ki31_0, ki31_1, ki32_0, ki32_1, ki33_0, ki33_1, ki34_0, ki34_1, ki35_0, ki35_1, ki36_0, ki36_1, bq0, bqq, vq3, hT, g1, g2, g3, g4, g5, g6, g7, hark, Int32.reduceLT, cl0, cl1, cl2, s1, s2, bs2, hs, d01, d02, d03, d10, d12, d13, d20, d21, d23, d30, d31, d32, vs0, vs1, vs2, vs3, i64_inj, i64_back, fo0, fo1, fo2, fo3, nm_eq, cT0_pi hA (j := 18) (by decide), mT0_pi hA (j := 18) (by decide), cT0_pi hA (j := 22) (by decide), mT0_pi hA (j := 22) (by decide), cT0_pi hA (j := 30) (by decide), mT0_pi hA (j := 30) (by decide), cT0_pi hA (j := 24) (by decide), mT0_pi hA (j := 24) (by decide), cT0_pl, mT0_pl, cT0_pT, mT0_pT, cT0_cW hA, mT0_cW hA, mT0_mW hA, cT0_mW hA, bl, bx0, bx9, v18, cl5]
            first | refine ⟨⟨?_, ?_, ?_, ?_, ?_, ?_, ?_, ?_, ?_, ?_, ?_, ?_⟩, rfl⟩ | refine ⟨?_, ?_, ?_, ?_, ?_, ?_, ?_, ?_, ?_, ?_, ?_, ?_⟩
            · (try simp only [K_pi, K_pl, K_pC, K_cW, K_mW])
              exact vk
            · (try simp only [Cn_pi hA (j := 18) (by decide), Cn_pi hA (j := 22) (by decide), Cn_pi hA (j := 30) (by decide), Cn_pl, Cn_pT, Cn_pr])
              exact vcn
            · (try simp only [Vq0_pi hA (j := 18) (by decide), Vq0_pi hA (j := 22) (by decide), Vq0_pi hA (j := 30) (by decide), Vq0_pl, Vq0_pT, Vq0_pr])
              exact v0
            · (try simp only [Vq1_pi hA (j := 18) (by decide), Vq1_pi hA (j := 22) (by decide), Vq1_pi hA (j := 30) (by decide), Vq1_pl, Vq1_pT, Vq1_pr])
              exact v1
            · (try simp only [Vq2_pi hA (j := 18) (by decide), Vq2_pi hA (j := 22) (by decide), Vq2_pi hA (j := 30) (by decide), Vq2_pl, Vq2_pT, Vq2_pr])
              exact v2
            · (try simp only [Vp_pi hA (j := 18) (by decide), Vp_pi hA (j := 30) (by decide), Vp_thr hA, Vp_pl, Vp_pT, Vp_pr])
              exact vp
            · (try simp only [Vl0_pi hA (j := 18) (by decide), Vl0_pi hA (j := 22) (by decide), Vl0_pi hA (j := 30) (by decide), Vl0_pl, Vl0_pT, Vl0_pr])
              exact vl0
            · (try simp only [Vl1_pi hA (j := 18) (by decide), Vl1_pi hA (j := 22) (by decide), Vl1_pi hA (j := 30) (by decide), Vl1_pl, Vl1_pT, Vl1_pr])
              exact vl1
            · (try simp only [Vlr_pi hA (j := 18) (by decide), Vlr_pi hA (j := 22) (by decide), Vlr_pi hA (j := 30) (by decide), Vlr_pl hA (j := 39) (by decide), Vlr_pT, Vlr_pr])
              exact vlr
            · (try simp only [Vsr_pi hA (j := 18) (by decide), Vsr_pi hA (j := 22) (by decide), Vsr_pi hA (j := 30) (by decide), Vsr_pl hA (j := 39) (by decide), Vsr_pT, Vsr_pr])
              exact vsr
            · refine Vc_of (c := 5) vc (by decide) (fun k => ?_) (fun k => ?_) <;> simp only [l_cW, l_mW, mi_pi, mi_pl, ml_pi, ml_pl, mi_pT, ml_pT, mi_pr, ml_pr, hAe, Nat.reduceLT, Nat.reduceEqDiff, false_and, and_false, true_and, and_true, if_false, if_true, eq_self]
            · (try simp only [Tx_pi hA (j := 18) (by decide), Tx_pi hA (j := 22) (by decide), Tx_pi hA (j := 30) (by decide), Tx_pl])
              exact tx
        · have he := v1.1
          have hm := v1.2
          have hT : mT h (A 27) 1 (A 32) (A 35) = cT h (A 6) (A 10) (A 11) := he.symm
          have he2 := he
          simp only [cT, mT, Prod.mk.injEq] at he2
          obtain ⟨g1, g2, g3, g4, g5, g6, g7⟩ := he2
          replace g1 := g1.symm
          replace g2 := g2.symm
          replace g3 := g3.symm
          replace g4 := g4.symm
          replace g5 := g5.symm
          replace g6 := g6.symm
          replace g7 := g7.symm
          obtain ⟨hmk, har, hl0, hl9⟩ := qA_1 _ hm
          have hark : arok 1 (g_i h (A 6) 3) := fun z => absurd (by decide) z
          have n1 : ¬ A 10 = A 11 := fun z => absurd ((hAe 10 11 (by decide) (by decide)).mp z) (by decide)
          by_cases bl : x < lyF (cT h (A 6) (A 10) (A 11))
          · obtain ⟨i1, i2, hj⟩ := (qX_1 _ hm x (x_mem bx0 bx9)).resolve_left (fun z => z bl)
            have hj2 := hj.2.2
            have vlk := (vlr _ (rdy_lt hj)).symm
            simp only [o298_0, o298_2, o298_3, o298_4, o298_5, o298_6, o298_9, o298_10, o298_13, o298_16, o298_18, o298_19, o298_20, o298_22, o298_23, o298_24, o298_25, o66_0, o66_1, o66_2, o66_5, o66_7, o66_8, o66_11, o66_12, o66_15, o66_16, o66_18, o66_21, o66_24, o66_25, o66_28, o66_29, o66_32, o66_33, o66_34, o66_37, o66_38, o66_39, o66_41, o66_42, o66_45, o66_48, o66_51, o190_0, o190_1, o190_2, o190_5, o190_8, o190_9, o190_12, o190_15, o190_16, o190_19, o190_20, o190_21, o190_24, o190_25, o190_27, o190_30, o190_31, o190_34, o190_35, o190_38, o190_41, o190_42, o190_43, o190_44, o190_45, o190_46, o190_49, o190_52, o190_53, o190_54, o190_57, o190_60, o190_61, o190_62, o190_63, o190_64, o190_67, o190_68, o190_69, o190_70, o190_73, o190_74, o190_77, o190_80, hx_298_1, hx_298_2, c_X5_checkSlot, c_X8_isSlot, c_X8_isThrown, c_X8_isThrown_, c_X8_isThrown__, c_X8_isQueue, c_queueOf_bad, c_X5_checkAhead, c_queueOf_1, c_X1_lying (w := A 10) (r := A 11), c_X1_lyingAt (w := A 10) (r := A 11) (rw := A 1) (cs := A 3) (n := 16), c_X8_liesOf (x2 := A 25) (x3 := A 26) (a := A 27) (w := A 32) (r := A 35), c_X8_cellOf (x2 := A 25) (x3 := A 26) (a := A 27) (w := A 32) (r := A 35), c_X5_layNumber (rw := A 2) (cs := A 4), c_X8_laid (sr := A 24), c_X0_done (cs := A 18), c_X8_done (cs := A 30), mc_pi, mc_pl, mc_pr, mc_pN, mc_pT, mc_pC, mn_pi, mn_pl, mn_pr, mn_pN, mn_pT, mn_pC, mi_pi, mi_pl, mi_pr, mi_pN, mi_pT, mi_pC, ml_pi, ml_pl, ml_pr, ml_pN, ml_pT, ml_pC, mr_pi, mr_pl, mr_pr, mr_pN, mr_pT, mr_pC, mt_pi, mt_pl, mt_pr, mt_pN, mt_pT, mt_pC, mz_pi, mz_pl, mz_pr, mz_pN, mz_pT, mz_pC, ma_pi, ma_pl, ma_pr, ma_pN, ma_pT, ma_pC, mcs_0, mcs_i, mcs_l, mcs_r, mcs_n, csum_rf, Kn_v, Kn_0, Kn_x, mrf_some, kok_0, true_and, and_true, false_and, and_false, true_or, or_true, or_false, false_or, not_true_eq_false, not_false_eq_true, true_implies, false_implies, implies_true, forall_const, if_true, if_false, and_self, Nat.reduceEqDiff, Nat.reduceLeDiff, Nat.reduceSub, Nat.reduceAdd, Nat.zero_le, Nat.le_refl, i10, i01, kz0, kz1, eq_self, lt_le, Classical.not_not, Int32.reduceLT, Int32.reduceAdd, Int32.reduceSub, Int32.reduceMul, cl0, cl1, cl2, cl3, cl4, cl5, cl6, cl7, cl8, cl9, cl10, cl11, cl12, cl13, cl14, cl15, cl16, cl17, cl18, cl19, cl20, cl21, cl22, cl23, cl24, cl25, cl26, cl27, cl28, cl29, cl30, cl31, cl32, cl33, cl34, cl35, cl36, cl37, cl38, cl39, lg_cmp_eq, Kc_v, Kc_0, Sum.inl.injEq, Option.some.injEq, Value.int.injEq, exists_eq_left', Nat.reduceLT, hAe, i20, i30, kc0, kc1, kc2, kc3, kc4, kc5, kc6, kc7, kc8, kc9, kc10, kc11, kc12, kc13, kc14, kc15, kc16, kc17, kc18, kc19, kc20, kc21, kc22, kc23, kc24, kc25, kc26, kc27, kc28, kc29, kc30, kc31, kc32, kc33, kc34, kc35, kc36, kc37, kc38, kc39, kn3, kn4, kn18, kn21, kn23, kn24, kn25, kn26, kn27, kn29, kn30, kr0_0, kr0_1, kr0_2, kr0_3, kr0_4, kr0_5, kr0_7, kr0_8, kr0_9, kr0_10, kr1_0, kr2_0, kr5_0, kr5_1, kr6_0, kr6_1, kr7_0, kr7_1, kr8_0, kr9_0, kr10_0, kr11_0, kr12_0, kr13_0, kr14_0, kr15_0, kr16_0, kr17_0, kr19_0, kr19_1, kr22_0, kr22_1, kr22_2, kr22_3, kr22_4, kr22_5, kr22_7, kr22_8, kr25_0, kr25_1, kr25_2, kr26_0, kr26_1, kr26_2, kr29_0, kr29_1, kz, ki5_2, ki6_2, ki7_2, ki8_1, ki8_2, ki8_3, ki9_1, ki9_2, ki9_3, ki10_1, ki10_2, ki10_3, ki11_1, ki11_2, ki11_3, ki12_1, ki12_2, ki12_3, ki13_1, ki13_2, ki13_3, ki14_1, ki14_2, ki14_3, ki28_0, ki28_1, ki31_0, ki31_1, ki32_0, ki32_1, ki33_0, ki33_1, ki34_0, ki34_1, ki35_0, ki35_1, ki36_0, ki36_1, bq0, bqq, vq3, hT, g1, g2, g3, g4, g5, g6, g7, hark, Int32.reduceLT, cl0, cl1, cl2, s1, s2, bs2, hs, d01, d02, d03, d10, d12, d13, d20, d21, d23, d30, d31, d32, vs0, vs1, vs2, vs3, i64_inj, i64_back, fo0, fo1, fo2, fo3, nm_eq, cT1_pi hA (j := 18) (by decide), mT1_pi hA (j := 18) (by decide), cT1_pi hA (j := 22) (by decide), mT1_pi hA (j := 22) (by decide), cT1_pi hA (j := 30) (by decide), mT1_pi hA (j := 30) (by decide), cT1_pi hA (j := 24) (by decide), mT1_pi hA (j := 24) (by decide), cT1_pl, mT1_pl, cT1_pT, mT1_pT, cT1_cW hA, mT1_cW hA, mT1_mW hA, cT1_mW hA, i1, i2, hj, hj2, n1, vlk, bl, bx0, bx9]
            first | refine ⟨⟨?_, ?_, ?_, ?_, ?_, ?_, ?_, ?_, ?_, ?_, ?_, ?_⟩, rfl⟩ | refine ⟨?_, ?_, ?_, ?_, ?_, ?_, ?_, ?_, ?_, ?_, ?_, ?_⟩
            · (try simp only [K_pi, K_pl, K_pC, K_cW, K_mW])
              exact vk
            · (try simp only [Cn_pi hA (j := 18) (by decide), Cn_pi hA (j := 22) (by decide), Cn_pi hA (j := 30) (by decide), Cn_pi hA (j := 24) (by decide), Cn_pl, Cn_pT, Cn_pr])
              exact vcn
            · (try simp only [Vq0_pi hA (j := 18) (by decide), Vq0_pi hA (j := 22) (by decide), Vq0_pi hA (j := 30) (by decide), Vq0_pi hA (j := 24) (by decide), Vq0_pl, Vq0_pT, Vq0_pr])
              exact v0
            · (try simp only [Vq1_pi hA (j := 18) (by decide), Vq1_pi hA (j := 22) (by decide), Vq1_pi hA (j := 30) (by decide), Vq1_pi hA (j := 24) (by decide), Vq1_pl, Vq1_pT, Vq1_pr])
              exact v1
            · (try simp only [Vq2_pi hA (j := 18) (by decide), Vq2_pi hA (j := 22) (by decide), Vq2_pi hA (j := 30) (by decide), Vq2_pi hA (j := 24) (by decide), Vq2_pl, Vq2_pT, Vq2_pr])
              exact v2
            · (try simp only [Vp_pi hA (j := 18) (by decide), Vp_pi hA (j := 30) (by decide), Vp_pi hA (j := 24) (by decide), Vp_thr hA, Vp_pl, Vp_pT, Vp_pr])
              exact vp
            · (try simp only [Vl0_pi hA (j := 18) (by decide), Vl0_pi hA (j := 22) (by decide), Vl0_pi hA (j := 30) (by decide), Vl0_pi hA (j := 24) (by decide), Vl0_pl, Vl0_pT, Vl0_pr])
              exact vl0
            · (try simp only [Vl1_pi hA (j := 18) (by decide), Vl1_pi hA (j := 22) (by decide), Vl1_pi hA (j := 30) (by decide), Vl1_pi hA (j := 24) (by decide), Vl1_pl, Vl1_pT, Vl1_pr])
              exact vl1
            · (try simp only [Vlr_pi hA (j := 18) (by decide), Vlr_pi hA (j := 22) (by decide), Vlr_pi hA (j := 30) (by decide), Vlr_pi hA (j := 24) (by decide), Vlr_pl hA (j := 39) (by decide), Vlr_pl hA (j := 4) (by decide), Vlr_pT, Vlr_pr])
              exact vlr
            · simp only [Vsr_pi hA (j := 18) (by decide), Vsr_pi hA (j := 22) (by decide), Vsr_pi hA (j := 30) (by decide), Vsr_pl hA (j := 39) (by decide), Vsr_pT, Vsr_pr]
              refine Vsr_nest vsr (fun k => ?_) (fun k => ?_) <;> simp only [l_cW, l_mW, mi_pi, mi_pl, ml_pi, ml_pl, mi_pT, ml_pT, mi_pr, ml_pr, hAe, Nat.reduceLT, Nat.reduceEqDiff, false_and, and_false, true_and, and_true, if_false, if_true, eq_self]
            · refine Vc_of (c := 0) vc (by decide) (fun k => ?_) (fun k => ?_) <;> simp only [l_cW, l_mW, mi_pi, mi_pl, ml_pi, ml_pl, mi_pT, ml_pT, mi_pr, ml_pr, hAe, Nat.reduceLT, Nat.reduceEqDiff, false_and, and_false, true_and, and_true, if_false, if_true, eq_self]
            · (try simp only [Tx_pi hA (j := 18) (by decide), Tx_pi hA (j := 22) (by decide), Tx_pi hA (j := 30) (by decide), Tx_pi hA (j := 24) (by decide), Tx_pl])
              exact tx
          · skip
            simp only [o298_0, o298_2, o298_3, o298_4, o298_5, o298_6, o298_9, o298_10, o298_13, o298_16, o298_18, o298_19, o298_20, o298_22, o298_23, o298_24, o298_25, o66_0, o66_1, o66_2, o66_5, o66_7, o66_8, o66_11, o66_12, o66_15, o66_16, o66_18, o66_21, o66_24, o66_25, o66_28, o66_29, o66_32, o66_33, o66_34, o66_37, o66_38, o66_39, o66_41, o66_42, o66_45, o66_48, o66_51, o190_0, o190_1, o190_2, o190_5, o190_8, o190_9, o190_12, o190_15, o190_16, o190_19, o190_20, o190_21, o190_24, o190_25, o190_27, o190_30, o190_31, o190_34, o190_35, o190_38, o190_41, o190_42, o190_43, o190_44, o190_45, o190_46, o190_49, o190_52, o190_53, o190_54, o190_57, o190_60, o190_61, o190_62, o190_63, o190_64, o190_67, o190_68, o190_69, o190_70, o190_73, o190_74, o190_77, o190_80, hx_298_1, hx_298_2, c_X5_checkSlot, c_X8_isSlot, c_X8_isThrown, c_X8_isThrown_, c_X8_isThrown__, c_X8_isQueue, c_queueOf_bad, c_X5_checkAhead, c_queueOf_1, c_X1_lying (w := A 10) (r := A 11), c_ref_5 (cs := A 18), c_X8_liesOf (x2 := A 25) (x3 := A 26) (a := A 27) (w := A 32) (r := A 35), c_X8_no (cs := A 30), mc_pi, mc_pl, mc_pr, mc_pN, mc_pT, mc_pC, mn_pi, mn_pl, mn_pr, mn_pN, mn_pT, mn_pC, mi_pi, mi_pl, mi_pr, mi_pN, mi_pT, mi_pC, ml_pi, ml_pl, ml_pr, ml_pN, ml_pT, ml_pC, mr_pi, mr_pl, mr_pr, mr_pN, mr_pT, mr_pC, mt_pi, mt_pl, mt_pr, mt_pN, mt_pT, mt_pC, mz_pi, mz_pl, mz_pr, mz_pN, mz_pT, mz_pC, ma_pi, ma_pl, ma_pr, ma_pN, ma_pT, ma_pC, mcs_0, mcs_i, mcs_l, mcs_r, mcs_n, csum_rf, Kn_v, Kn_0, Kn_x, mrf_some, kok_0, true_and, and_true, false_and, and_false, true_or, or_true, or_false, false_or, not_true_eq_false, not_false_eq_true, true_implies, false_implies, implies_true, forall_const, if_true, if_false, and_self, Nat.reduceEqDiff, Nat.reduceLeDiff, Nat.reduceSub, Nat.reduceAdd, Nat.zero_le, Nat.le_refl, i10, i01, kz0, kz1, eq_self, lt_le, Classical.not_not, Int32.reduceLT, Int32.reduceAdd, Int32.reduceSub, Int32.reduceMul, cl0, cl1, cl2, cl3, cl4, cl5, cl6, cl7, cl8, cl9, cl10, cl11, cl12, cl13, cl14, cl15, cl16, cl17, cl18, cl19, cl20, cl21, cl22, cl23, cl24, cl25, cl26, cl27, cl28, cl29, cl30, cl31, cl32, cl33, cl34, cl35, cl36, cl37, cl38, cl39, lg_cmp_eq, Kc_v, Kc_0, Sum.inl.injEq, Option.some.injEq, Value.int.injEq, exists_eq_left', Nat.reduceLT, hAe, i20, i30, kc0, kc1, kc2, kc3, kc4, kc5, kc6, kc7, kc8, kc9, kc10, kc11, kc12, kc13, kc14, kc15, kc16, kc17, kc18, kc19, kc20, kc21, kc22, kc23, kc24, kc25, kc26, kc27, kc28, kc29, kc30, kc31, kc32, kc33, kc34, kc35, kc36, kc37, kc38, kc39, kn3, kn4, kn18, kn21, kn23, kn24, kn25, kn26, kn27, kn29, kn30, kr0_0, kr0_1, kr0_2, kr0_3, kr0_4, kr0_5, kr0_7, kr0_8, kr0_9, kr0_10, kr1_0, kr2_0, kr5_0, kr5_1, kr6_0, kr6_1, kr7_0, kr7_1, kr8_0, kr9_0, kr10_0, kr11_0, kr12_0, kr13_0, kr14_0, kr15_0, kr16_0, kr17_0, kr19_0, kr19_1, kr22_0, kr22_1, kr22_2, kr22_3, kr22_4, kr22_5, kr22_7, kr22_8, kr25_0, kr25_1, kr25_2, kr26_0, kr26_1, kr26_2, kr29_0, kr29_1, kz, ki5_2, ki6_2, ki7_2, ki8_1, ki8_2, ki8_3, ki9_1, ki9_2, ki9_3, ki10_1, ki10_2, ki10_3, ki11_1, ki11_2, ki11_3, ki12_1, ki12_2, ki12_3, ki13_1, ki13_2, ki13_3, ki14_1, ki14_2, ki14_3, ki28_0, ki28_1, ki31_0, ki31_1, ki32_0, ki32_1, ki33_0, ki33_1, ki34_0, ki34_1, ki35_0, ki35_1, ki36_0, ki36_1, bq0, bqq, vq3, hT, g1, g2, g3, g4, g5, g6, g7, hark, Int32.reduceLT, cl0, cl1, cl2, s1, s2, bs2, hs, d01, d02, d03, d10, d12, d13, d20, d21, d23, d30, d31, d32, vs0, vs1, vs2, vs3, i64_inj, i64_back, fo0, fo1, fo2, fo3, nm_eq, cT1_pi hA (j := 18) (by decide), mT1_pi hA (j := 18) (by decide), cT1_pi hA (j := 22) (by decide), mT1_pi hA (j := 22) (by decide), cT1_pi hA (j := 30) (by decide), mT1_pi hA (j := 30) (by decide), cT1_pi hA (j := 24) (by decide), mT1_pi hA (j := 24) (by decide), cT1_pl, mT1_pl, cT1_pT, mT1_pT, cT1_cW hA, mT1_cW hA, mT1_mW hA, cT1_mW hA, bl, bx0, bx9, v18, cl5]
            first | refine ⟨⟨?_, ?_, ?_, ?_, ?_, ?_, ?_, ?_, ?_, ?_, ?_, ?_⟩, rfl⟩ | refine ⟨?_, ?_, ?_, ?_, ?_, ?_, ?_, ?_, ?_, ?_, ?_, ?_⟩
            · (try simp only [K_pi, K_pl, K_pC, K_cW, K_mW])
              exact vk
            · (try simp only [Cn_pi hA (j := 18) (by decide), Cn_pi hA (j := 22) (by decide), Cn_pi hA (j := 30) (by decide), Cn_pl, Cn_pT, Cn_pr])
              exact vcn
            · (try simp only [Vq0_pi hA (j := 18) (by decide), Vq0_pi hA (j := 22) (by decide), Vq0_pi hA (j := 30) (by decide), Vq0_pl, Vq0_pT, Vq0_pr])
              exact v0
            · (try simp only [Vq1_pi hA (j := 18) (by decide), Vq1_pi hA (j := 22) (by decide), Vq1_pi hA (j := 30) (by decide), Vq1_pl, Vq1_pT, Vq1_pr])
              exact v1
            · (try simp only [Vq2_pi hA (j := 18) (by decide), Vq2_pi hA (j := 22) (by decide), Vq2_pi hA (j := 30) (by decide), Vq2_pl, Vq2_pT, Vq2_pr])
              exact v2
            · (try simp only [Vp_pi hA (j := 18) (by decide), Vp_pi hA (j := 30) (by decide), Vp_thr hA, Vp_pl, Vp_pT, Vp_pr])
              exact vp
            · (try simp only [Vl0_pi hA (j := 18) (by decide), Vl0_pi hA (j := 22) (by decide), Vl0_pi hA (j := 30) (by decide), Vl0_pl, Vl0_pT, Vl0_pr])
              exact vl0
            · (try simp only [Vl1_pi hA (j := 18) (by decide), Vl1_pi hA (j := 22) (by decide), Vl1_pi hA (j := 30) (by decide), Vl1_pl, Vl1_pT, Vl1_pr])
              exact vl1
            · (try simp only [Vlr_pi hA (j := 18) (by decide), Vlr_pi hA (j := 22) (by decide), Vlr_pi hA (j := 30) (by decide), Vlr_pl hA (j := 39) (by decide), Vlr_pT, Vlr_pr])
              exact vlr
            · (try simp only [Vsr_pi hA (j := 18) (by decide), Vsr_pi hA (j := 22) (by decide), Vsr_pi hA (j := 30) (by decide), Vsr_pl hA (j := 39) (by decide), Vsr_pT, Vsr_pr])
              exact vsr
            · refine Vc_of (c := 5) vc (by decide) (fun k => ?_) (fun k => ?_) <;> simp only [l_cW, l_mW, mi_pi, mi_pl, ml_pi, ml_pl, mi_pT, ml_pT, mi_pr, ml_pr, hAe, Nat.reduceLT, Nat.reduceEqDiff, false_and, and_false, true_and, and_true, if_false, if_true, eq_self]
            · (try simp only [Tx_pi hA (j := 18) (by decide), Tx_pi hA (j := 22) (by decide), Tx_pi hA (j := 30) (by decide), Tx_pl])
              exact tx
        · have he := v2.1
          have hm := v2.2
          have hT : mT h (A 27) 2 (A 33) (A 36) = cT h (A 7) (A 12) (A 13) := he.symm
          have he2 := he
          simp only [cT, mT, Prod.mk.injEq] at he2
          obtain ⟨g1, g2, g3, g4, g5, g6, g7⟩ := he2
          replace g1 := g1.symm
          replace g2 := g2.symm
          replace g3 := g3.symm
          replace g4 := g4.symm
          replace g5 := g5.symm
          replace g6 := g6.symm
          replace g7 := g7.symm
          obtain ⟨hmk, har, hl0, hl9⟩ := qA_2 _ hm
          have hark : arok 2 (g_i h (A 7) 3) := fun _ => har
          have n1 : ¬ A 12 = A 13 := fun z => absurd ((hAe 12 13 (by decide) (by decide)).mp z) (by decide)
          by_cases bl : x < lyF (cT h (A 7) (A 12) (A 13))
          · obtain ⟨i1, i2, hj⟩ := (qX_2 _ hm x (x_mem bx0 bx9)).resolve_left (fun z => z bl)
            have hj2 := hj.2.2
            have vlk := (vlr _ (rdy_lt hj)).symm
            simp only [o298_0, o298_2, o298_3, o298_4, o298_5, o298_6, o298_9, o298_10, o298_13, o298_16, o298_18, o298_19, o298_20, o298_22, o298_23, o298_24, o298_25, o66_0, o66_1, o66_2, o66_5, o66_7, o66_8, o66_11, o66_12, o66_15, o66_16, o66_18, o66_21, o66_24, o66_25, o66_28, o66_29, o66_32, o66_33, o66_34, o66_37, o66_38, o66_39, o66_41, o66_42, o66_45, o66_48, o66_51, o190_0, o190_1, o190_2, o190_5, o190_8, o190_9, o190_12, o190_15, o190_16, o190_19, o190_20, o190_21, o190_24, o190_25, o190_27, o190_30, o190_31, o190_34, o190_35, o190_38, o190_41, o190_42, o190_43, o190_44, o190_45, o190_46, o190_49, o190_52, o190_53, o190_54, o190_57, o190_60, o190_61, o190_62, o190_63, o190_64, o190_67, o190_68, o190_69, o190_70, o190_73, o190_74, o190_77, o190_80, hx_298_1, hx_298_2, c_X5_checkSlot, c_X8_isSlot, c_X8_isThrown, c_X8_isThrown_, c_X8_isThrown__, c_X8_isQueue, c_queueOf_bad, c_X5_checkAhead, c_queueOf_2, c_X1_lying (w := A 12) (r := A 13), c_X1_lyingAt (w := A 12) (r := A 13) (rw := A 1) (cs := A 3) (n := 16), c_X8_liesOf (x2 := A 25) (x3 := A 26) (a := A 27) (w := A 33) (r := A 36), c_X8_cellOf (x2 := A 25) (x3 := A 26) (a := A 27) (w := A 33) (r := A 36), c_X5_layNumber (rw := A 2) (cs := A 4), c_X8_laid (sr := A 24), c_X0_done (cs := A 18), c_X8_done (cs := A 30), mc_pi, mc_pl, mc_pr, mc_pN, mc_pT, mc_pC, mn_pi, mn_pl, mn_pr, mn_pN, mn_pT, mn_pC, mi_pi, mi_pl, mi_pr, mi_pN, mi_pT, mi_pC, ml_pi, ml_pl, ml_pr, ml_pN, ml_pT, ml_pC, mr_pi, mr_pl, mr_pr, mr_pN, mr_pT, mr_pC, mt_pi, mt_pl, mt_pr, mt_pN, mt_pT, mt_pC, mz_pi, mz_pl, mz_pr, mz_pN, mz_pT, mz_pC, ma_pi, ma_pl, ma_pr, ma_pN, ma_pT, ma_pC, mcs_0, mcs_i, mcs_l, mcs_r, mcs_n, csum_rf, Kn_v, Kn_0, Kn_x, mrf_some, kok_0, true_and, and_true, false_and, and_false, true_or, or_true, or_false, false_or, not_true_eq_false, not_false_eq_true, true_implies, false_implies, implies_true, forall_const, if_true, if_false, and_self, Nat.reduceEqDiff, Nat.reduceLeDiff, Nat.reduceSub, Nat.reduceAdd, Nat.zero_le, Nat.le_refl, i10, i01, kz0, kz1, eq_self, lt_le, Classical.not_not, Int32.reduceLT, Int32.reduceAdd, Int32.reduceSub, Int32.reduceMul, cl0, cl1, cl2, cl3, cl4, cl5, cl6, cl7, cl8, cl9, cl10, cl11, cl12, cl13, cl14, cl15, cl16, cl17, cl18, cl19, cl20, cl21, cl22, cl23, cl24, cl25, cl26, cl27, cl28, cl29, cl30, cl31, cl32, cl33, cl34, cl35, cl36, cl37, cl38, cl39, lg_cmp_eq, Kc_v, Kc_0, Sum.inl.injEq, Option.some.injEq, Value.int.injEq, exists_eq_left', Nat.reduceLT, hAe, i20, i30, kc0, kc1, kc2, kc3, kc4, kc5, kc6, kc7, kc8, kc9, kc10, kc11, kc12, kc13, kc14, kc15, kc16, kc17, kc18, kc19, kc20, kc21, kc22, kc23, kc24, kc25, kc26, kc27, kc28, kc29, kc30, kc31, kc32, kc33, kc34, kc35, kc36, kc37, kc38, kc39, kn3, kn4, kn18, kn21, kn23, kn24, kn25, kn26, kn27, kn29, kn30, kr0_0, kr0_1, kr0_2, kr0_3, kr0_4, kr0_5, kr0_7, kr0_8, kr0_9, kr0_10, kr1_0, kr2_0, kr5_0, kr5_1, kr6_0, kr6_1, kr7_0, kr7_1, kr8_0, kr9_0, kr10_0, kr11_0, kr12_0, kr13_0, kr14_0, kr15_0, kr16_0, kr17_0, kr19_0, kr19_1, kr22_0, kr22_1, kr22_2, kr22_3, kr22_4, kr22_5, kr22_7, kr22_8, kr25_0, kr25_1, kr25_2, kr26_0, kr26_1, kr26_2, kr29_0, kr29_1, kz, ki5_2, ki6_2, ki7_2, ki8_1, ki8_2, ki8_3, ki9_1, ki9_2, ki9_3, ki10_1, ki10_2, ki10_3, ki11_1, ki11_2, ki11_3, ki12_1, ki12_2, ki12_3, ki13_1, ki13_2, ki13_3, ki14_1, ki14_2, ki14_3, ki28_0, ki28_1, ki31_0, ki31_1, ki32_0, ki32_1, ki33_0, ki33_1, ki34_0, ki34_1, ki35_0, ki35_1, ki36_0, ki36_1, bq0, bqq, vq3, hT, g1, g2, g3, g4, g5, g6, g7, hark, Int32.reduceLT, cl0, cl1, cl2, s1, s2, bs2, hs, d01, d02, d03, d10, d12, d13, d20, d21, d23, d30, d31, d32, vs0, vs1, vs2, vs3, i64_inj, i64_back, fo0, fo1, fo2, fo3, nm_eq, cT2_pi hA (j := 18) (by decide), mT2_pi hA (j := 18) (by decide), cT2_pi hA (j := 22) (by decide), mT2_pi hA (j := 22) (by decide), cT2_pi hA (j := 30) (by decide), mT2_pi hA (j := 30) (by decide), cT2_pi hA (j := 24) (by decide), mT2_pi hA (j := 24) (by decide), cT2_pl, mT2_pl, cT2_pT, mT2_pT, cT2_cW hA, mT2_cW hA, mT2_mW hA, cT2_mW hA, i1, i2, hj, hj2, n1, vlk, bl, bx0, bx9]
            first | refine ⟨⟨?_, ?_, ?_, ?_, ?_, ?_, ?_, ?_, ?_, ?_, ?_, ?_⟩, rfl⟩ | refine ⟨?_, ?_, ?_, ?_, ?_, ?_, ?_, ?_, ?_, ?_, ?_, ?_⟩
            · (try simp only [K_pi, K_pl, K_pC, K_cW, K_mW])
              exact vk
            · (try simp only [Cn_pi hA (j := 18) (by decide), Cn_pi hA (j := 22) (by decide), Cn_pi hA (j := 30) (by decide), Cn_pi hA (j := 24) (by decide), Cn_pl, Cn_pT, Cn_pr])
              exact vcn
            · (try simp only [Vq0_pi hA (j := 18) (by decide), Vq0_pi hA (j := 22) (by decide), Vq0_pi hA (j := 30) (by decide), Vq0_pi hA (j := 24) (by decide), Vq0_pl, Vq0_pT, Vq0_pr])
              exact v0
            · (try simp only [Vq1_pi hA (j := 18) (by decide), Vq1_pi hA (j := 22) (by decide), Vq1_pi hA (j := 30) (by decide), Vq1_pi hA (j := 24) (by decide), Vq1_pl, Vq1_pT, Vq1_pr])
              exact v1
            · (try simp only [Vq2_pi hA (j := 18) (by decide), Vq2_pi hA (j := 22) (by decide), Vq2_pi hA (j := 30) (by decide), Vq2_pi hA (j := 24) (by decide), Vq2_pl, Vq2_pT, Vq2_pr])
              exact v2
            · (try simp only [Vp_pi hA (j := 18) (by decide), Vp_pi hA (j := 30) (by decide), Vp_pi hA (j := 24) (by decide), Vp_thr hA, Vp_pl, Vp_pT, Vp_pr])
              exact vp
            · (try simp only [Vl0_pi hA (j := 18) (by decide), Vl0_pi hA (j := 22) (by decide), Vl0_pi hA (j := 30) (by decide), Vl0_pi hA (j := 24) (by decide), Vl0_pl, Vl0_pT, Vl0_pr])
              exact vl0
            · (try simp only [Vl1_pi hA (j := 18) (by decide), Vl1_pi hA (j := 22) (by decide), Vl1_pi hA (j := 30) (by decide), Vl1_pi hA (j := 24) (by decide), Vl1_pl, Vl1_pT, Vl1_pr])
              exact vl1
            · (try simp only [Vlr_pi hA (j := 18) (by decide), Vlr_pi hA (j := 22) (by decide), Vlr_pi hA (j := 30) (by decide), Vlr_pi hA (j := 24) (by decide), Vlr_pl hA (j := 39) (by decide), Vlr_pl hA (j := 4) (by decide), Vlr_pT, Vlr_pr])
              exact vlr
            · simp only [Vsr_pi hA (j := 18) (by decide), Vsr_pi hA (j := 22) (by decide), Vsr_pi hA (j := 30) (by decide), Vsr_pl hA (j := 39) (by decide), Vsr_pT, Vsr_pr]
              refine Vsr_nest vsr (fun k => ?_) (fun k => ?_) <;> simp only [l_cW, l_mW, mi_pi, mi_pl, ml_pi, ml_pl, mi_pT, ml_pT, mi_pr, ml_pr, hAe, Nat.reduceLT, Nat.reduceEqDiff, false_and, and_false, true_and, and_true, if_false, if_true, eq_self]
            · refine Vc_of (c := 0) vc (by decide) (fun k => ?_) (fun k => ?_) <;> simp only [l_cW, l_mW, mi_pi, mi_pl, ml_pi, ml_pl, mi_pT, ml_pT, mi_pr, ml_pr, hAe, Nat.reduceLT, Nat.reduceEqDiff, false_and, and_false, true_and, and_true, if_false, if_true, eq_self]
            · (try simp only [Tx_pi hA (j := 18) (by decide), Tx_pi hA (j := 22) (by decide), Tx_pi hA (j := 30) (by decide), Tx_pi hA (j := 24) (by decide), Tx_pl])
              exact tx
          · skip
            simp only [o298_0, o298_2, o298_3, o298_4, o298_5, o298_6, o298_9, o298_10, o298_13, o298_16, o298_18, o298_19, o298_20, o298_22, o298_23, o298_24, o298_25, o66_0, o66_1, o66_2, o66_5, o66_7, o66_8, o66_11, o66_12, o66_15, o66_16, o66_18, o66_21, o66_24, o66_25, o66_28, o66_29, o66_32, o66_33, o66_34, o66_37, o66_38, o66_39, o66_41, o66_42, o66_45, o66_48, o66_51, o190_0, o190_1, o190_2, o190_5, o190_8, o190_9, o190_12, o190_15, o190_16, o190_19, o190_20, o190_21, o190_24, o190_25, o190_27, o190_30, o190_31, o190_34, o190_35, o190_38, o190_41, o190_42, o190_43, o190_44, o190_45, o190_46, o190_49, o190_52, o190_53, o190_54, o190_57, o190_60, o190_61, o190_62, o190_63, o190_64, o190_67, o190_68, o190_69, o190_70, o190_73, o190_74, o190_77, o190_80, hx_298_1, hx_298_2, c_X5_checkSlot, c_X8_isSlot, c_X8_isThrown, c_X8_isThrown_, c_X8_isThrown__, c_X8_isQueue, c_queueOf_bad, c_X5_checkAhead, c_queueOf_2, c_X1_lying (w := A 12) (r := A 13), c_ref_5 (cs := A 18), c_X8_liesOf (x2 := A 25) (x3 := A 26) (a := A 27) (w := A 33) (r := A 36), c_X8_no (cs := A 30), mc_pi, mc_pl, mc_pr, mc_pN, mc_pT, mc_pC, mn_pi, mn_pl, mn_pr, mn_pN, mn_pT, mn_pC, mi_pi, mi_pl, mi_pr, mi_pN, mi_pT, mi_pC, ml_pi, ml_pl, ml_pr, ml_pN, ml_pT, ml_pC, mr_pi, mr_pl, mr_pr, mr_pN, mr_pT, mr_pC, mt_pi, mt_pl, mt_pr, mt_pN, mt_pT, mt_pC, mz_pi, mz_pl, mz_pr, mz_pN, mz_pT, mz_pC, ma_pi, ma_pl, ma_pr, ma_pN, ma_pT, ma_pC, mcs_0, mcs_i, mcs_l, mcs_r, mcs_n, csum_rf, Kn_v, Kn_0, Kn_x, mrf_some, kok_0, true_and, and_true, false_and, and_false, true_or, or_true, or_false, false_or, not_true_eq_false, not_false_eq_true, true_implies, false_implies, implies_true, forall_const, if_true, if_false, and_self, Nat.reduceEqDiff, Nat.reduceLeDiff, Nat.reduceSub, Nat.reduceAdd, Nat.zero_le, Nat.le_refl, i10, i01, kz0, kz1, eq_self, lt_le, Classical.not_not, Int32.reduceLT, Int32.reduceAdd, Int32.reduceSub, Int32.reduceMul, cl0, cl1, cl2, cl3, cl4, cl5, cl6, cl7, cl8, cl9, cl10, cl11, cl12, cl13, cl14, cl15, cl16, cl17, cl18, cl19, cl20, cl21, cl22, cl23, cl24, cl25, cl26, cl27, cl28, cl29, cl30, cl31, cl32, cl33, cl34, cl35, cl36, cl37, cl38, cl39, lg_cmp_eq, Kc_v, Kc_0, Sum.inl.injEq, Option.some.injEq, Value.int.injEq, exists_eq_left', Nat.reduceLT, hAe, i20, i30, kc0, kc1, kc2, kc3, kc4, kc5, kc6, kc7, kc8, kc9, kc10, kc11, kc12, kc13, kc14, kc15, kc16, kc17, kc18, kc19, kc20, kc21, kc22, kc23, kc24, kc25, kc26, kc27, kc28, kc29, kc30, kc31, kc32, kc33, kc34, kc35, kc36, kc37, kc38, kc39, kn3, kn4, kn18, kn21, kn23, kn24, kn25, kn26, kn27, kn29, kn30, kr0_0, kr0_1, kr0_2, kr0_3, kr0_4, kr0_5, kr0_7, kr0_8, kr0_9, kr0_10, kr1_0, kr2_0, kr5_0, kr5_1, kr6_0, kr6_1, kr7_0, kr7_1, kr8_0, kr9_0, kr10_0, kr11_0, kr12_0, kr13_0, kr14_0, kr15_0, kr16_0, kr17_0, kr19_0, kr19_1, kr22_0, kr22_1, kr22_2, kr22_3, kr22_4, kr22_5, kr22_7, kr22_8, kr25_0, kr25_1, kr25_2, kr26_0, kr26_1, kr26_2, kr29_0, kr29_1, kz, ki5_2, ki6_2, ki7_2, ki8_1, ki8_2, ki8_3, ki9_1, ki9_2, ki9_3, ki10_1, ki10_2, ki10_3, ki11_1, ki11_2, ki11_3, ki12_1, ki12_2, ki12_3, ki13_1, ki13_2, ki13_3, ki14_1, ki14_2, ki14_3, ki28_0, ki28_1, ki31_0, ki31_1, ki32_0, ki32_1, ki33_0, ki33_1, ki34_0, ki34_1, ki35_0, ki35_1, ki36_0, ki36_1, bq0, bqq, vq3, hT, g1, g2, g3, g4, g5, g6, g7, hark, Int32.reduceLT, cl0, cl1, cl2, s1, s2, bs2, hs, d01, d02, d03, d10, d12, d13, d20, d21, d23, d30, d31, d32, vs0, vs1, vs2, vs3, i64_inj, i64_back, fo0, fo1, fo2, fo3, nm_eq, cT2_pi hA (j := 18) (by decide), mT2_pi hA (j := 18) (by decide), cT2_pi hA (j := 22) (by decide), mT2_pi hA (j := 22) (by decide), cT2_pi hA (j := 30) (by decide), mT2_pi hA (j := 30) (by decide), cT2_pi hA (j := 24) (by decide), mT2_pi hA (j := 24) (by decide), cT2_pl, mT2_pl, cT2_pT, mT2_pT, cT2_cW hA, mT2_cW hA, mT2_mW hA, cT2_mW hA, bl, bx0, bx9, v18, cl5]
            first | refine ⟨⟨?_, ?_, ?_, ?_, ?_, ?_, ?_, ?_, ?_, ?_, ?_, ?_⟩, rfl⟩ | refine ⟨?_, ?_, ?_, ?_, ?_, ?_, ?_, ?_, ?_, ?_, ?_, ?_⟩
            · (try simp only [K_pi, K_pl, K_pC, K_cW, K_mW])
              exact vk
            · (try simp only [Cn_pi hA (j := 18) (by decide), Cn_pi hA (j := 22) (by decide), Cn_pi hA (j := 30) (by decide), Cn_pl, Cn_pT, Cn_pr])
              exact vcn
            · (try simp only [Vq0_pi hA (j := 18) (by decide), Vq0_pi hA (j := 22) (by decide), Vq0_pi hA (j := 30) (by decide), Vq0_pl, Vq0_pT, Vq0_pr])
              exact v0
            · (try simp only [Vq1_pi hA (j := 18) (by decide), Vq1_pi hA (j := 22) (by decide), Vq1_pi hA (j := 30) (by decide), Vq1_pl, Vq1_pT, Vq1_pr])
              exact v1
            · (try simp only [Vq2_pi hA (j := 18) (by decide), Vq2_pi hA (j := 22) (by decide), Vq2_pi hA (j := 30) (by decide), Vq2_pl, Vq2_pT, Vq2_pr])
              exact v2
            · (try simp only [Vp_pi hA (j := 18) (by decide), Vp_pi hA (j := 30) (by decide), Vp_thr hA, Vp_pl, Vp_pT, Vp_pr])
              exact vp
            · (try simp only [Vl0_pi hA (j := 18) (by decide), Vl0_pi hA (j := 22) (by decide), Vl0_pi hA (j := 30) (by decide), Vl0_pl, Vl0_pT, Vl0_pr])
              exact vl0
            · (try simp only [Vl1_pi hA (j := 18) (by decide), Vl1_pi hA (j := 22) (by decide), Vl1_pi hA (j := 30) (by decide), Vl1_pl, Vl1_pT, Vl1_pr])
              exact vl1
            · (try simp only [Vlr_pi hA (j := 18) (by decide), Vlr_pi hA (j := 22) (by decide), Vlr_pi hA (j := 30) (by decide), Vlr_pl hA (j := 39) (by decide), Vlr_pT, Vlr_pr])
              exact vlr
            · (try simp only [Vsr_pi hA (j := 18) (by decide), Vsr_pi hA (j := 22) (by decide), Vsr_pi hA (j := 30) (by decide), Vsr_pl hA (j := 39) (by decide), Vsr_pT, Vsr_pr])
              exact vsr
            · refine Vc_of (c := 5) vc (by decide) (fun k => ?_) (fun k => ?_) <;> simp only [l_cW, l_mW, mi_pi, mi_pl, ml_pi, ml_pl, mi_pT, ml_pT, mi_pr, ml_pr, hAe, Nat.reduceLT, Nat.reduceEqDiff, false_and, and_false, true_and, and_true, if_false, if_true, eq_self]
            · (try simp only [Tx_pi hA (j := 18) (by decide), Tx_pi hA (j := 22) (by decide), Tx_pi hA (j := 30) (by decide), Tx_pl])
              exact tx

theorem hx_299_1 {l rest : List Value} {bc bs : Nat} {Q : MR → MH → Prop} {h : MH} : Kc Ok 299 6 9 l rest bc bs Q (.inr 1) h ↔ ∀ q : Nat, Ok 299 16 l [.ref q] h bc bs Q := Kc_x (by decide +kernel) (by decide +kernel)
theorem hx_299_2 {l rest : List Value} {bc bs : Nat} {Q : MR → MH → Prop} {h : MH} : Kc Ok 299 6 9 l rest bc bs Q (.inr 2) h ↔ ∀ q : Nat, Ok 299 20 l [.ref q] h bc bs Q := Kc_x (by decide +kernel) (by decide +kernel)
theorem op_mend {A : Nat → Nat} {h : MH} (R : Rl A h) {q x s : Int32} : Ok 299 0 [.ref (A 0), .int q, .int x, .int s, .ref (A 39), mk0] [] h 3 18 (fun r h1 => ∃ k : Int32, r = .inl (some (.int k)) ∧ g_c h1 (A 22) = 9 ∧ Ok 191 0 [.ref (A 22), .int q, .int x, .int s, mk0, mk0] [] h1 0 0 (fun r2 h2 => ∃ b : Int32, r2 = .inl (some (.int b)) ∧ Rl A h2 ∧ g_i h2 (A 22) 9 = k ∧ (k = 0 → g_l h2 (A 39) 0 = b.toInt64))) := by
  obtain ⟨vk, vcn, v0, v1, v2, vp, vl0, vl1, vlr, vsr, vc, tx⟩ := R
  have vk0 := vk
  have vcn0 := vcn
  (refine K_el vk0 ?_; intros hA kc0 kc1 kc2 kc3 kc4 kc5 kc6 kc7 kc8 kc9 kc10 kc11 kc12 kc13 kc14 kc15 kc16 kc17 kc18 kc19 kc20 kc21 kc22 kc23 kc24 kc25 kc26 kc27 kc28 kc29 kc30 kc31 kc32 kc33 kc34 kc35 kc36 kc37 kc38 kc39 kz kt kn3 kn4 kn18 kn21 kn23 kn24 kn25 kn26 kn27 kn29 kn30 kr0_0 kr0_1 kr0_2 kr0_3 kr0_4 kr0_5 kr0_7 kr0_8 kr0_9 kr0_10 kr1_0 kr2_0 kr5_0 kr5_1 kr6_0 kr6_1 kr7_0 kr7_1 kr8_0 kr9_0 kr10_0 kr11_0 kr12_0 kr13_0 kr14_0 kr15_0 kr16_0 kr17_0 kr19_0 kr19_1 kr22_0 kr22_1 kr22_2 kr22_3 kr22_4 kr22_5 kr22_7 kr22_8 kr25_0 kr25_1 kr25_2 kr26_0 kr26_1 kr26_2 kr29_0 kr29_1)
  (refine Cn_el vcn0 ?_; intros ki5_2 ki6_2 ki7_2 ki8_1 ki8_2 ki8_3 ki9_1 ki9_2 ki9_3 ki10_1 ki10_2 ki10_3 ki11_1 ki11_2 ki11_3 ki12_1 ki12_2 ki12_3 ki13_1 ki13_2 ki13_3 ki14_1 ki14_2 ki14_3 ki28_0 ki28_1 ki31_0 ki31_1 ki32_0 ki32_1 ki33_0 ki33_1 ki34_0 ki34_1 ki35_0 ki35_1 ki36_0 ki36_1)
  have hAe : ∀ i j, i < 40 → j < 40 → (A i = A j ↔ i = j) := hA
  by_cases bx0 : x < 0 <;> by_cases bx9 : 9 < x
  · exact absurd (Int32.lt_trans bx9 bx0) (by decide)
  · by_cases bq : q < 0 ∨ ¬ q < 3
    · have bq2 : (¬ q < 0 ∧ q < 3) = False := nrng bq
      by_cases bs : (¬ s < 0 ∧ s < 6)
      all_goals
        simp only [o299_0, o299_2, o299_3, o299_4, o299_5, o299_6, o299_9, o299_10, o299_13, o299_16, o299_18, o299_19, o299_20, o299_22, o299_23, o299_24, o299_25, o67_0, o67_1, o67_2, o67_5, o67_7, o67_8, o67_11, o67_12, o67_15, o67_16, o67_18, o67_21, o67_24, o67_25, o67_28, o67_29, o67_32, o67_33, o67_34, o67_37, o67_39, o67_40, o67_41, o67_42, o67_45, o67_48, o67_51, o67_52, o67_55, o67_56, o67_59, o191_0, o191_1, o191_2, o191_5, o191_8, o191_9, o191_12, o191_15, o191_16, o191_19, o191_20, o191_21, o191_24, o191_25, o191_27, o191_30, o191_31, o191_34, o191_35, o191_38, o191_41, o191_42, o191_43, o191_44, o191_45, o191_46, o191_49, o191_52, o191_53, o191_54, o191_57, o191_58, o191_59, o191_62, o191_63, o191_64, o191_65, o191_68, o191_69, o191_71, o191_72, o191_75, o191_76, o191_77, o191_78, o191_81, o191_82, o191_83, o191_86, o191_87, o191_88, o191_90, o191_91, o191_92, o191_95, o191_96, o191_99, o191_100, o191_103, o191_104, o191_107, hx_299_1, hx_299_2, c_X5_checkSlot, c_X8_isSlot, c_X8_isThrown, c_X8_isThrown_, c_X8_isThrown__, c_X8_isQueue, c_queueOf_bad, c_X5_checkAhead, mc_pi, mc_pl, mc_pr, mc_pN, mc_pT, mc_pC, mn_pi, mn_pl, mn_pr, mn_pN, mn_pT, mn_pC, mi_pi, mi_pl, mi_pr, mi_pN, mi_pT, mi_pC, ml_pi, ml_pl, ml_pr, ml_pN, ml_pT, ml_pC, mr_pi, mr_pl, mr_pr, mr_pN, mr_pT, mr_pC, mt_pi, mt_pl, mt_pr, mt_pN, mt_pT, mt_pC, mz_pi, mz_pl, mz_pr, mz_pN, mz_pT, mz_pC, ma_pi, ma_pl, ma_pr, ma_pN, ma_pT, ma_pC, mcs_0, mcs_i, mcs_l, mcs_r, mcs_n, csum_rf, Kn_v, Kn_0, Kn_x, mrf_some, kok_0, true_and, and_true, false_and, and_false, true_or, or_true, or_false, false_or, not_true_eq_false, not_false_eq_true, true_implies, false_implies, implies_true, forall_const, if_true, if_false, and_self, Nat.reduceEqDiff, Nat.reduceLeDiff, Nat.reduceSub, Nat.reduceAdd, Nat.zero_le, Nat.le_refl, i10, i01, kz0, kz1, eq_self, lt_le, Classical.not_not, Int32.reduceLT, Int32.reduceAdd, Int32.reduceSub, Int32.reduceMul, cl0, cl1, cl2, cl3, cl4, cl5, cl6, cl7, cl8, cl9, cl10, cl11, cl12, cl13, cl14, cl15, cl16, cl17, cl18, cl19, cl20, cl21, cl22, cl23, cl24, cl25, cl26, cl27, cl28, cl29, cl30, cl31, cl32, cl33, cl34, cl35, cl36, cl37, cl38, cl39, lg_cmp_eq, Kc_v, Kc_0, Sum.inl.injEq, Option.some.injEq, Value.int.injEq, exists_eq_left', Nat.reduceLT, hAe, i20, i30, kc0, kc1, kc2, kc3, kc4, kc5, kc6, kc7, kc8, kc9, kc10, kc11, kc12, kc13, kc14, kc15, kc16, kc17, kc18, kc19, kc20, kc21, kc22, kc23, kc24, kc25, kc26, kc27, kc28, kc29, kc30, kc31, kc32, kc33, kc34, kc35, kc36, kc37, kc38, kc39, kn3, kn4, kn18, kn21, kn23, kn24, kn25, kn26, kn27, kn29, kn30, kr0_0, kr0_1, kr0_2, kr0_3, kr0_4, kr0_5, kr0_7, kr0_8, kr0_9, kr0_10, kr1_0, kr2_0, kr5_0, kr5_1, kr6_0, kr6_1, kr7_0, kr7_1, kr8_0, kr9_0, kr10_0, kr11_0, kr12_0, kr13_0, kr14_0, kr15_0, kr16_0, kr17_0, kr19_0, kr19_1, kr22_0, kr22_1, kr22_2, kr22_3, kr22_4, kr22_5, kr22_7, kr22_8, kr25_0, kr25_1, kr25_2, kr26_0, kr26_1, kr26_2, kr29_0, kr29_1, kz, ki5_2, ki6_2, ki7_2, ki8_1, ki8_2, ki8_3, ki9_1, ki9_2, ki9_3, ki10_1, ki10_2, ki10_3, ki11_1, ki11_2, ki11_3, ki12_1, ki12_2, ki12_3, ki13_1, ki13_2, ki13_3, ki14_1, ki14_2, ki14_3, ki28_0, ki28_1, ki31_0, ki31_1, ki32_0, ki32_1, ki33_0, ki33_1, ki34_0, ki34_1, ki35_0, ki35_1, ki36_0, ki36_1, bq, bq2, bs, bx0, bx9]
        intro t ht
        first | refine ⟨⟨?_, ?_, ?_, ?_, ?_, ?_, ?_, ?_, ?_, ?_, ?_, ?_⟩, rfl⟩ | refine ⟨?_, ?_, ?_, ?_, ?_, ?_, ?_, ?_, ?_, ?_, ?_, ?_⟩
        · (try simp only [K_pi, K_pl, K_pC, K_cW, K_mW])
          exact K_pT ht vk
        · (try simp only [Cn_pi hA (j := 18) (by decide), Cn_pi hA (j := 22) (by decide), Cn_pi hA (j := 30) (by decide), Cn_pl, Cn_pT, Cn_pr])
          exact vcn
        · (try simp only [Vq0_pi hA (j := 18) (by decide), Vq0_pi hA (j := 22) (by decide), Vq0_pi hA (j := 30) (by decide), Vq0_pl, Vq0_pT, Vq0_pr])
          exact v0
        · (try simp only [Vq1_pi hA (j := 18) (by decide), Vq1_pi hA (j := 22) (by decide), Vq1_pi hA (j := 30) (by decide), Vq1_pl, Vq1_pT, Vq1_pr])
          exact v1
        · (try simp only [Vq2_pi hA (j := 18) (by decide), Vq2_pi hA (j := 22) (by decide), Vq2_pi hA (j := 30) (by decide), Vq2_pl, Vq2_pT, Vq2_pr])
          exact v2
        · (try simp only [Vp_pi hA (j := 18) (by decide), Vp_pi hA (j := 30) (by decide), Vp_thr hA, Vp_pl, Vp_pT, Vp_pr])
          exact vp
        · (try simp only [Vl0_pi hA (j := 18) (by decide), Vl0_pi hA (j := 22) (by decide), Vl0_pi hA (j := 30) (by decide), Vl0_pl, Vl0_pT, Vl0_pr])
          exact vl0
        · (try simp only [Vl1_pi hA (j := 18) (by decide), Vl1_pi hA (j := 22) (by decide), Vl1_pi hA (j := 30) (by decide), Vl1_pl, Vl1_pT, Vl1_pr])
          exact vl1
        · (try simp only [Vlr_pi hA (j := 18) (by decide), Vlr_pi hA (j := 22) (by decide), Vlr_pi hA (j := 30) (by decide), Vlr_pl hA (j := 39) (by decide), Vlr_pT, Vlr_pr])
          exact vlr
        · (try simp only [Vsr_pi hA (j := 18) (by decide), Vsr_pi hA (j := 22) (by decide), Vsr_pi hA (j := 30) (by decide), Vsr_pl hA (j := 39) (by decide), Vsr_pT, Vsr_pr])
          exact vsr
        · (try simp only [Vc_pi hA (j := 22) (by decide), Vc_pl, Vc_pT, Vc_pr])
          exact vc
        · (try simp only [Tx_pi hA (j := 18) (by decide), Tx_pi hA (j := 22) (by decide), Tx_pi hA (j := 30) (by decide), Tx_pl])
          exact Tx_pT ht tx
    · have y1 : ¬ q < 0 := fun z => bq (Or.inl z)
      have y2 : q < 3 := Classical.byContradiction fun z => bq (Or.inr z)
      have bq2 : (¬ q < 0 ∧ q < 3) = True := eq_true ⟨y1, y2⟩
      by_cases bs : s < 0 ∨ ¬ s < 6
      · have bs2 : (¬ s < 0 ∧ s < 6) = False := nrng bs
        rcases q_cases y1 y2 with rfl | rfl | rfl
        · skip
          simp only [o299_0, o299_2, o299_3, o299_4, o299_5, o299_6, o299_9, o299_10, o299_13, o299_16, o299_18, o299_19, o299_20, o299_22, o299_23, o299_24, o299_25, o67_0, o67_1, o67_2, o67_5, o67_7, o67_8, o67_11, o67_12, o67_15, o67_16, o67_18, o67_21, o67_24, o67_25, o67_28, o67_29, o67_32, o67_33, o67_34, o67_37, o67_39, o67_40, o67_41, o67_42, o67_45, o67_48, o67_51, o67_52, o67_55, o67_56, o67_59, o191_0, o191_1, o191_2, o191_5, o191_8, o191_9, o191_12, o191_15, o191_16, o191_19, o191_20, o191_21, o191_24, o191_25, o191_27, o191_30, o191_31, o191_34, o191_35, o191_38, o191_41, o191_42, o191_43, o191_44, o191_45, o191_46, o191_49, o191_52, o191_53, o191_54, o191_57, o191_58, o191_59, o191_62, o191_63, o191_64, o191_65, o191_68, o191_69, o191_71, o191_72, o191_75, o191_76, o191_77, o191_78, o191_81, o191_82, o191_83, o191_86, o191_87, o191_88, o191_90, o191_91, o191_92, o191_95, o191_96, o191_99, o191_100, o191_103, o191_104, o191_107, hx_299_1, hx_299_2, c_X5_checkSlot, c_X8_isSlot, c_X8_isThrown, c_X8_isThrown_, c_X8_isThrown__, c_X8_isQueue, c_queueOf_bad, c_X5_checkAhead, c_queueOf_0, mc_pi, mc_pl, mc_pr, mc_pN, mc_pT, mc_pC, mn_pi, mn_pl, mn_pr, mn_pN, mn_pT, mn_pC, mi_pi, mi_pl, mi_pr, mi_pN, mi_pT, mi_pC, ml_pi, ml_pl, ml_pr, ml_pN, ml_pT, ml_pC, mr_pi, mr_pl, mr_pr, mr_pN, mr_pT, mr_pC, mt_pi, mt_pl, mt_pr, mt_pN, mt_pT, mt_pC, mz_pi, mz_pl, mz_pr, mz_pN, mz_pT, mz_pC, ma_pi, ma_pl, ma_pr, ma_pN, ma_pT, ma_pC, mcs_0, mcs_i, mcs_l, mcs_r, mcs_n, csum_rf, Kn_v, Kn_0, Kn_x, mrf_some, kok_0, true_and, and_true, false_and, and_false, true_or, or_true, or_false, false_or, not_true_eq_false, not_false_eq_true, true_implies, false_implies, implies_true, forall_const, if_true, if_false, and_self, Nat.reduceEqDiff, Nat.reduceLeDiff, Nat.reduceSub, Nat.reduceAdd, Nat.zero_le, Nat.le_refl, i10, i01, kz0, kz1, eq_self, lt_le, Classical.not_not, Int32.reduceLT, Int32.reduceAdd, Int32.reduceSub, Int32.reduceMul, cl0, cl1, cl2, cl3, cl4, cl5, cl6, cl7, cl8, cl9, cl10, cl11, cl12, cl13, cl14, cl15, cl16, cl17, cl18, cl19, cl20, cl21, cl22, cl23, cl24, cl25, cl26, cl27, cl28, cl29, cl30, cl31, cl32, cl33, cl34, cl35, cl36, cl37, cl38, cl39, lg_cmp_eq, Kc_v, Kc_0, Sum.inl.injEq, Option.some.injEq, Value.int.injEq, exists_eq_left', Nat.reduceLT, hAe, i20, i30, kc0, kc1, kc2, kc3, kc4, kc5, kc6, kc7, kc8, kc9, kc10, kc11, kc12, kc13, kc14, kc15, kc16, kc17, kc18, kc19, kc20, kc21, kc22, kc23, kc24, kc25, kc26, kc27, kc28, kc29, kc30, kc31, kc32, kc33, kc34, kc35, kc36, kc37, kc38, kc39, kn3, kn4, kn18, kn21, kn23, kn24, kn25, kn26, kn27, kn29, kn30, kr0_0, kr0_1, kr0_2, kr0_3, kr0_4, kr0_5, kr0_7, kr0_8, kr0_9, kr0_10, kr1_0, kr2_0, kr5_0, kr5_1, kr6_0, kr6_1, kr7_0, kr7_1, kr8_0, kr9_0, kr10_0, kr11_0, kr12_0, kr13_0, kr14_0, kr15_0, kr16_0, kr17_0, kr19_0, kr19_1, kr22_0, kr22_1, kr22_2, kr22_3, kr22_4, kr22_5, kr22_7, kr22_8, kr25_0, kr25_1, kr25_2, kr26_0, kr26_1, kr26_2, kr29_0, kr29_1, kz, ki5_2, ki6_2, ki7_2, ki8_1, ki8_2, ki8_3, ki9_1, ki9_2, ki9_3, ki10_1, ki10_2, ki10_3, ki11_1, ki11_2, ki11_3, ki12_1, ki12_2, ki12_3, ki13_1, ki13_2, ki13_3, ki14_1, ki14_2, ki14_3, ki28_0, ki28_1, ki31_0, ki31_1, ki32_0, ki32_1, ki33_0, ki33_1, ki34_0, ki34_1, ki35_0, ki35_1, ki36_0, ki36_1, bq0, bqq, vq3, bs, bs2, bx0, bx9]
          intro t ht
          first | refine ⟨⟨?_, ?_, ?_, ?_, ?_, ?_, ?_, ?_, ?_, ?_, ?_, ?_⟩, rfl⟩ | refine ⟨?_, ?_, ?_, ?_, ?_, ?_, ?_, ?_, ?_, ?_, ?_, ?_⟩
          · (try simp only [K_pi, K_pl, K_pC, K_cW, K_mW])
            exact K_pT ht vk
          · (try simp only [Cn_pi hA (j := 18) (by decide), Cn_pi hA (j := 22) (by decide), Cn_pi hA (j := 30) (by decide), Cn_pl, Cn_pT, Cn_pr])
            exact vcn
          · (try simp only [Vq0_pi hA (j := 18) (by decide), Vq0_pi hA (j := 22) (by decide), Vq0_pi hA (j := 30) (by decide), Vq0_pl, Vq0_pT, Vq0_pr])
            exact v0
          · (try simp only [Vq1_pi hA (j := 18) (by decide), Vq1_pi hA (j := 22) (by decide), Vq1_pi hA (j := 30) (by decide), Vq1_pl, Vq1_pT, Vq1_pr])
            exact v1
          · (try simp only [Vq2_pi hA (j := 18) (by decide), Vq2_pi hA (j := 22) (by decide), Vq2_pi hA (j := 30) (by decide), Vq2_pl, Vq2_pT, Vq2_pr])
            exact v2
          · (try simp only [Vp_pi hA (j := 18) (by decide), Vp_pi hA (j := 30) (by decide), Vp_thr hA, Vp_pl, Vp_pT, Vp_pr])
            exact vp
          · (try simp only [Vl0_pi hA (j := 18) (by decide), Vl0_pi hA (j := 22) (by decide), Vl0_pi hA (j := 30) (by decide), Vl0_pl, Vl0_pT, Vl0_pr])
            exact vl0
          · (try simp only [Vl1_pi hA (j := 18) (by decide), Vl1_pi hA (j := 22) (by decide), Vl1_pi hA (j := 30) (by decide), Vl1_pl, Vl1_pT, Vl1_pr])
            exact vl1
          · (try simp only [Vlr_pi hA (j := 18) (by decide), Vlr_pi hA (j := 22) (by decide), Vlr_pi hA (j := 30) (by decide), Vlr_pl hA (j := 39) (by decide), Vlr_pT, Vlr_pr])
            exact vlr
          · (try simp only [Vsr_pi hA (j := 18) (by decide), Vsr_pi hA (j := 22) (by decide), Vsr_pi hA (j := 30) (by decide), Vsr_pl hA (j := 39) (by decide), Vsr_pT, Vsr_pr])
            exact vsr
          · (try simp only [Vc_pi hA (j := 22) (by decide), Vc_pl, Vc_pT, Vc_pr])
            exact vc
          · (try simp only [Tx_pi hA (j := 18) (by decide), Tx_pi hA (j := 22) (by decide), Tx_pi hA (j := 30) (by decide), Tx_pl])
            exact Tx_pT ht tx
        · skip
          simp only [o299_0, o299_2, o299_3, o299_4, o299_5, o299_6, o299_9, o299_10, o299_13, o299_16, o299_18, o299_19, o299_20, o299_22, o299_23, o299_24, o299_25, o67_0, o67_1, o67_2, o67_5, o67_7, o67_8, o67_11, o67_12, o67_15, o67_16, o67_18, o67_21, o67_24, o67_25, o67_28, o67_29, o67_32, o67_33, o67_34, o67_37, o67_39, o67_40, o67_41, o67_42, o67_45, o67_48, o67_51, o67_52, o67_55, o67_56, o67_59, o191_0, o191_1, o191_2, o191_5, o191_8, o191_9, o191_12, o191_15, o191_16, o191_19, o191_20, o191_21, o191_24, o191_25, o191_27, o191_30, o191_31, o191_34, o191_35, o191_38, o191_41, o191_42, o191_43, o191_44, o191_45, o191_46, o191_49, o191_52, o191_53, o191_54, o191_57, o191_58, o191_59, o191_62, o191_63, o191_64, o191_65, o191_68, o191_69, o191_71, o191_72, o191_75, o191_76, o191_77, o191_78, o191_81, o191_82, o191_83, o191_86, o191_87, o191_88, o191_90, o191_91, o191_92, o191_95, o191_96, o191_99, o191_100, o191_103, o191_104, o191_107, hx_299_1, hx_299_2, c_X5_checkSlot, c_X8_isSlot, c_X8_isThrown, c_X8_isThrown_, c_X8_isThrown__, c_X8_isQueue, c_queueOf_bad, c_X5_checkAhead, c_queueOf_1, mc_pi, mc_pl, mc_pr, mc_pN, mc_pT, mc_pC, mn_pi, mn_pl, mn_pr, mn_pN, mn_pT, mn_pC, mi_pi, mi_pl, mi_pr, mi_pN, mi_pT, mi_pC, ml_pi, ml_pl, ml_pr, ml_pN, ml_pT, ml_pC, mr_pi, mr_pl, mr_pr, mr_pN, mr_pT, mr_pC, mt_pi, mt_pl, mt_pr, mt_pN, mt_pT, mt_pC, mz_pi, mz_pl, mz_pr, mz_pN, mz_pT, mz_pC, ma_pi, ma_pl, ma_pr, ma_pN, ma_pT, ma_pC, mcs_0, mcs_i, mcs_l, mcs_r, mcs_n, csum_rf, Kn_v, Kn_0, Kn_x, mrf_some, kok_0, true_and, and_true, false_and, and_false, true_or, or_true, or_false, false_or, not_true_eq_false, not_false_eq_true, true_implies, false_implies, implies_true, forall_const, if_true, if_false, and_self, Nat.reduceEqDiff, Nat.reduceLeDiff, Nat.reduceSub, Nat.reduceAdd, Nat.zero_le, Nat.le_refl, i10, i01, kz0, kz1, eq_self, lt_le, Classical.not_not, Int32.reduceLT, Int32.reduceAdd, Int32.reduceSub, Int32.reduceMul, cl0, cl1, cl2, cl3, cl4, cl5, cl6, cl7, cl8, cl9, cl10, cl11, cl12, cl13, cl14, cl15, cl16, cl17, cl18, cl19, cl20, cl21, cl22, cl23, cl24, cl25, cl26, cl27, cl28, cl29, cl30, cl31, cl32, cl33, cl34, cl35, cl36, cl37, cl38, cl39, lg_cmp_eq, Kc_v, Kc_0, Sum.inl.injEq, Option.some.injEq, Value.int.injEq, exists_eq_left', Nat.reduceLT, hAe, i20, i30, kc0, kc1, kc2, kc3, kc4, kc5, kc6, kc7, kc8, kc9, kc10, kc11, kc12, kc13, kc14, kc15, kc16, kc17, kc18, kc19, kc20, kc21, kc22, kc23, kc24, kc25, kc26, kc27, kc28, kc29, kc30, kc31, kc32, kc33, kc34, kc35, kc36, kc37, kc38, kc39, kn3, kn4, kn18, kn21, kn23, kn24, kn25, kn26, kn27, kn29, kn30, kr0_0, kr0_1, kr0_2, kr0_3, kr0_4, kr0_5, kr0_7, kr0_8, kr0_9, kr0_10, kr1_0, kr2_0, kr5_0, kr5_1, kr6_0, kr6_1, kr7_0, kr7_1, kr8_0, kr9_0, kr10_0, kr11_0, kr12_0, kr13_0, kr14_0, kr15_0, kr16_0, kr17_0, kr19_0, kr19_1, kr22_0, kr22_1, kr22_2, kr22_3, kr22_4, kr22_5, kr22_7, kr22_8, kr25_0, kr25_1, kr25_2, kr26_0, kr26_1, kr26_2, kr29_0, kr29_1, kz, ki5_2, ki6_2, ki7_2, ki8_1, ki8_2, ki8_3, ki9_1, ki9_2, ki9_3, ki10_1, ki10_2, ki10_3, ki11_1, ki11_2, ki11_3, ki12_1, ki12_2, ki12_3, ki13_1, ki13_2, ki13_3, ki14_1, ki14_2, ki14_3, ki28_0, ki28_1, ki31_0, ki31_1, ki32_0, ki32_1, ki33_0, ki33_1, ki34_0, ki34_1, ki35_0, ki35_1, ki36_0, ki36_1, bq0, bqq, vq3, bs, bs2, bx0, bx9]
          intro t ht
          first | refine ⟨⟨?_, ?_, ?_, ?_, ?_, ?_, ?_, ?_, ?_, ?_, ?_, ?_⟩, rfl⟩ | refine ⟨?_, ?_, ?_, ?_, ?_, ?_, ?_, ?_, ?_, ?_, ?_, ?_⟩
          · (try simp only [K_pi, K_pl, K_pC, K_cW, K_mW])
            exact K_pT ht vk
          · (try simp only [Cn_pi hA (j := 18) (by decide), Cn_pi hA (j := 22) (by decide), Cn_pi hA (j := 30) (by decide), Cn_pl, Cn_pT, Cn_pr])
            exact vcn
          · (try simp only [Vq0_pi hA (j := 18) (by decide), Vq0_pi hA (j := 22) (by decide), Vq0_pi hA (j := 30) (by decide), Vq0_pl, Vq0_pT, Vq0_pr])
            exact v0
          · (try simp only [Vq1_pi hA (j := 18) (by decide), Vq1_pi hA (j := 22) (by decide), Vq1_pi hA (j := 30) (by decide), Vq1_pl, Vq1_pT, Vq1_pr])
            exact v1
          · (try simp only [Vq2_pi hA (j := 18) (by decide), Vq2_pi hA (j := 22) (by decide), Vq2_pi hA (j := 30) (by decide), Vq2_pl, Vq2_pT, Vq2_pr])
            exact v2
          · (try simp only [Vp_pi hA (j := 18) (by decide), Vp_pi hA (j := 30) (by decide), Vp_thr hA, Vp_pl, Vp_pT, Vp_pr])
            exact vp
          · (try simp only [Vl0_pi hA (j := 18) (by decide), Vl0_pi hA (j := 22) (by decide), Vl0_pi hA (j := 30) (by decide), Vl0_pl, Vl0_pT, Vl0_pr])
            exact vl0
          · (try simp only [Vl1_pi hA (j := 18) (by decide), Vl1_pi hA (j := 22) (by decide), Vl1_pi hA (j := 30) (by decide), Vl1_pl, Vl1_pT, Vl1_pr])
            exact vl1
          · (try simp only [Vlr_pi hA (j := 18) (by decide), Vlr_pi hA (j := 22) (by decide), Vlr_pi hA (j := 30) (by decide), Vlr_pl hA (j := 39) (by decide), Vlr_pT, Vlr_pr])
            exact vlr
          · (try simp only [Vsr_pi hA (j := 18) (by decide), Vsr_pi hA (j := 22) (by decide), Vsr_pi hA (j := 30) (by decide), Vsr_pl hA (j := 39) (by decide), Vsr_pT, Vsr_pr])
            exact vsr
          · (try simp only [Vc_pi hA (j := 22) (by decide), Vc_pl, Vc_pT, Vc_pr])
            exact vc
          · (try simp only [Tx_pi hA (j := 18) (by decide), Tx_pi hA (j := 22) (by decide), Tx_pi hA (j := 30) (by decide), Tx_pl])
            exact Tx_pT ht tx
        · skip
          simp only [o299_0, o299_2, o299_3, o299_4, o299_5, o299_6, o299_9, o299_10, o299_13, o299_16, o299_18, o299_19, o299_20, o299_22, o299_23, o299_24, o299_25, o67_0, o67_1, o67_2, o67_5, o67_7, o67_8, o67_11, o67_12, o67_15, o67_16, o67_18, o67_21, o67_24, o67_25, o67_28, o67_29, o67_32, o67_33, o67_34, o67_37, o67_39, o67_40, o67_41, o67_42, o67_45, o67_48, o67_51, o67_52, o67_55, o67_56, o67_59, o191_0, o191_1, o191_2, o191_5, o191_8, o191_9, o191_12, o191_15, o191_16, o191_19, o191_20, o191_21, o191_24, o191_25, o191_27, o191_30, o191_31, o191_34, o191_35, o191_38, o191_41, o191_42, o191_43, o191_44, o191_45, o191_46, o191_49, o191_52, o191_53, o191_54, o191_57, o191_58, o191_59, o191_62, o191_63, o191_64, o191_65, o191_68, o191_69, o191_71, o191_72, o191_75, o191_76, o191_77, o191_78, o191_81, o191_82, o191_83, o191_86, o191_87, o191_88, o191_90, o191_91, o191_92, o191_95, o191_96, o191_99, o191_100, o191_103, o191_104, o191_107, hx_299_1, hx_299_2, c_X5_checkSlot, c_X8_isSlot, c_X8_isThrown, c_X8_isThrown_, c_X8_isThrown__, c_X8_isQueue, c_queueOf_bad, c_X5_checkAhead, c_queueOf_2, mc_pi, mc_pl, mc_pr, mc_pN, mc_pT, mc_pC, mn_pi, mn_pl, mn_pr, mn_pN, mn_pT, mn_pC, mi_pi, mi_pl, mi_pr, mi_pN, mi_pT, mi_pC, ml_pi, ml_pl, ml_pr, ml_pN, ml_pT, ml_pC, mr_pi, mr_pl, mr_pr, mr_pN, mr_pT, mr_pC, mt_pi, mt_pl, mt_pr, mt_pN, mt_pT, mt_pC, mz_pi, mz_pl, mz_pr, mz_pN, mz_pT, mz_pC, ma_pi, ma_pl, ma_pr, ma_pN, ma_pT, ma_pC, mcs_0, mcs_i, mcs_l, mcs_r, mcs_n, csum_rf, Kn_v, Kn_0, Kn_x, mrf_some, kok_0, true_and, and_true, false_and, and_false, true_or, or_true, or_false, false_or, not_true_eq_false, not_false_eq_true, true_implies, false_implies, implies_true, forall_const, if_true, if_false, and_self, Nat.reduceEqDiff, Nat.reduceLeDiff, Nat.reduceSub, Nat.reduceAdd, Nat.zero_le, Nat.le_refl, i10, i01, kz0, kz1, eq_self, lt_le, Classical.not_not, Int32.reduceLT, Int32.reduceAdd, Int32.reduceSub, Int32.reduceMul, cl0, cl1, cl2, cl3, cl4, cl5, cl6, cl7, cl8, cl9, cl10, cl11, cl12, cl13, cl14, cl15, cl16, cl17, cl18, cl19, cl20, cl21, cl22, cl23, cl24, cl25, cl26, cl27, cl28, cl29, cl30, cl31, cl32, cl33, cl34, cl35, cl36, cl37, cl38, cl39, lg_cmp_eq, Kc_v, Kc_0, Sum.inl.injEq, Option.some.injEq, Value.int.injEq, exists_eq_left', Nat.reduceLT, hAe, i20, i30, kc0, kc1, kc2, kc3, kc4, kc5, kc6, kc7, kc8, kc9, kc10, kc11, kc12, kc13, kc14, kc15, kc16, kc17, kc18, kc19, kc20, kc21, kc22, kc23, kc24, kc25, kc26, kc27, kc28, kc29, kc30, kc31, kc32, kc33, kc34, kc35, kc36, kc37, kc38, kc39, kn3, kn4, kn18, kn21, kn23, kn24, kn25, kn26, kn27, kn29, kn30, kr0_0, kr0_1, kr0_2, kr0_3, kr0_4, kr0_5, kr0_7, kr0_8, kr0_9, kr0_10, kr1_0, kr2_0, kr5_0, kr5_1, kr6_0, kr6_1, kr7_0, kr7_1, kr8_0, kr9_0, kr10_0, kr11_0, kr12_0, kr13_0, kr14_0, kr15_0, kr16_0, kr17_0, kr19_0, kr19_1, kr22_0, kr22_1, kr22_2, kr22_3, kr22_4, kr22_5, kr22_7, kr22_8, kr25_0, kr25_1, kr25_2, kr26_0, kr26_1, kr26_2, kr29_0, kr29_1, kz, ki5_2, ki6_2, ki7_2, ki8_1, ki8_2, ki8_3, ki9_1, ki9_2, ki9_3, ki10_1, ki10_2, ki10_3, ki11_1, ki11_2, ki11_3, ki12_1, ki12_2, ki12_3, ki13_1, ki13_2, ki13_3, ki14_1, ki14_2, ki14_3, ki28_0, ki28_1, ki31_0, ki31_1, ki32_0, ki32_1, ki33_0, ki33_1, ki34_0, ki34_1, ki35_0, ki35_1, ki36_0, ki36_1, bq0, bqq, vq3, bs, bs2, bx0, bx9]
          intro t ht
          first | refine ⟨⟨?_, ?_, ?_, ?_, ?_, ?_, ?_, ?_, ?_, ?_, ?_, ?_⟩, rfl⟩ | refine ⟨?_, ?_, ?_, ?_, ?_, ?_, ?_, ?_, ?_, ?_, ?_, ?_⟩
          · (try simp only [K_pi, K_pl, K_pC, K_cW, K_mW])
            exact K_pT ht vk
          · (try simp only [Cn_pi hA (j := 18) (by decide), Cn_pi hA (j := 22) (by decide), Cn_pi hA (j := 30) (by decide), Cn_pl, Cn_pT, Cn_pr])
            exact vcn
          · (try simp only [Vq0_pi hA (j := 18) (by decide), Vq0_pi hA (j := 22) (by decide), Vq0_pi hA (j := 30) (by decide), Vq0_pl, Vq0_pT, Vq0_pr])
            exact v0
          · (try simp only [Vq1_pi hA (j := 18) (by decide), Vq1_pi hA (j := 22) (by decide), Vq1_pi hA (j := 30) (by decide), Vq1_pl, Vq1_pT, Vq1_pr])
            exact v1
          · (try simp only [Vq2_pi hA (j := 18) (by decide), Vq2_pi hA (j := 22) (by decide), Vq2_pi hA (j := 30) (by decide), Vq2_pl, Vq2_pT, Vq2_pr])
            exact v2
          · (try simp only [Vp_pi hA (j := 18) (by decide), Vp_pi hA (j := 30) (by decide), Vp_thr hA, Vp_pl, Vp_pT, Vp_pr])
            exact vp
          · (try simp only [Vl0_pi hA (j := 18) (by decide), Vl0_pi hA (j := 22) (by decide), Vl0_pi hA (j := 30) (by decide), Vl0_pl, Vl0_pT, Vl0_pr])
            exact vl0
          · (try simp only [Vl1_pi hA (j := 18) (by decide), Vl1_pi hA (j := 22) (by decide), Vl1_pi hA (j := 30) (by decide), Vl1_pl, Vl1_pT, Vl1_pr])
            exact vl1
          · (try simp only [Vlr_pi hA (j := 18) (by decide), Vlr_pi hA (j := 22) (by decide), Vlr_pi hA (j := 30) (by decide), Vlr_pl hA (j := 39) (by decide), Vlr_pT, Vlr_pr])
            exact vlr
          · (try simp only [Vsr_pi hA (j := 18) (by decide), Vsr_pi hA (j := 22) (by decide), Vsr_pi hA (j := 30) (by decide), Vsr_pl hA (j := 39) (by decide), Vsr_pT, Vsr_pr])
            exact vsr
          · (try simp only [Vc_pi hA (j := 22) (by decide), Vc_pl, Vc_pT, Vc_pr])
            exact vc
          · (try simp only [Tx_pi hA (j := 18) (by decide), Tx_pi hA (j := 22) (by decide), Tx_pi hA (j := 30) (by decide), Tx_pl])
            exact Tx_pT ht tx
      · have s1 : ¬ s < 0 := fun z => bs (Or.inl z)
        have s2 : s < 6 := Classical.byContradiction fun z => bs (Or.inr z)
        have hs := ix_ok s1 s2
        have hs2 := hs
        obtain ⟨⟨j0, j1, j2, j3⟩, d01, d02, d03, d10, d12, d13, d20, d21, d23, d30, d31, d32⟩ := hs2
        obtain ⟨l0, l1, l2, l3⟩ := ix_lt hs
        have vs0 := (vsr _ l0).1
        have vs1 := (vsr _ l1).1
        have vs2 := (vsr _ l2).1
        have vs3 := (vsr _ l3).1
        have bs2 : (¬ s < 0 ∧ s < 6) = True := eq_true ⟨s1, s2⟩
        rcases q_cases y1 y2 with rfl | rfl | rfl
        · skip
          simp only [o299_0, o299_2, o299_3, o299_4, o299_5, o299_6, o299_9, o299_10, o299_13, o299_16, o299_18, o299_19, o299_20, o299_22, o299_23, o299_24, o299_25, o67_0, o67_1, o67_2, o67_5, o67_7, o67_8, o67_11, o67_12, o67_15, o67_16, o67_18, o67_21, o67_24, o67_25, o67_28, o67_29, o67_32, o67_33, o67_34, o67_37, o67_39, o67_40, o67_41, o67_42, o67_45, o67_48, o67_51, o67_52, o67_55, o67_56, o67_59, o191_0, o191_1, o191_2, o191_5, o191_8, o191_9, o191_12, o191_15, o191_16, o191_19, o191_20, o191_21, o191_24, o191_25, o191_27, o191_30, o191_31, o191_34, o191_35, o191_38, o191_41, o191_42, o191_43, o191_44, o191_45, o191_46, o191_49, o191_52, o191_53, o191_54, o191_57, o191_58, o191_59, o191_62, o191_63, o191_64, o191_65, o191_68, o191_69, o191_71, o191_72, o191_75, o191_76, o191_77, o191_78, o191_81, o191_82, o191_83, o191_86, o191_87, o191_88, o191_90, o191_91, o191_92, o191_95, o191_96, o191_99, o191_100, o191_103, o191_104, o191_107, hx_299_1, hx_299_2, c_X5_checkSlot, c_X8_isSlot, c_X8_isThrown, c_X8_isThrown_, c_X8_isThrown__, c_X8_isQueue, c_queueOf_bad, c_X5_checkAhead, c_queueOf_0, mc_pi, mc_pl, mc_pr, mc_pN, mc_pT, mc_pC, mn_pi, mn_pl, mn_pr, mn_pN, mn_pT, mn_pC, mi_pi, mi_pl, mi_pr, mi_pN, mi_pT, mi_pC, ml_pi, ml_pl, ml_pr, ml_pN, ml_pT, ml_pC, mr_pi, mr_pl, mr_pr, mr_pN, mr_pT, mr_pC, mt_pi, mt_pl, mt_pr, mt_pN, mt_pT, mt_pC, mz_pi, mz_pl, mz_pr, mz_pN, mz_pT, mz_pC, ma_pi, ma_pl, ma_pr, ma_pN, ma_pT, ma_pC, mcs_0, mcs_i, mcs_l, mcs_r, mcs_n, csum_rf, Kn_v, Kn_0, Kn_x, mrf_some, kok_0, true_and, and_true, false_and, and_false, true_or, or_true, or_false, false_or, not_true_eq_false, not_false_eq_true, true_implies, false_implies, implies_true, forall_const, if_true, if_false, and_self, Nat.reduceEqDiff, Nat.reduceLeDiff, Nat.reduceSub, Nat.reduceAdd, Nat.zero_le, Nat.le_refl, i10, i01, kz0, kz1, eq_self, lt_le, Classical.not_not, Int32.reduceLT, Int32.reduceAdd, Int32.reduceSub, Int32.reduceMul, cl0, cl1, cl2, cl3, cl4, cl5, cl6, cl7, cl8, cl9, cl10, cl11, cl12, cl13, cl14, cl15, cl16, cl17, cl18, cl19, cl20, cl21, cl22, cl23, cl24, cl25, cl26, cl27, cl28, cl29, cl30, cl31, cl32, cl33, cl34, cl35, cl36, cl37, cl38, cl39, lg_cmp_eq, Kc_v, Kc_0, Sum.inl.injEq, Option.some.injEq, Value.int.injEq, exists_eq_left', Nat.reduceLT, hAe, i20, i30, kc0, kc1, kc2, kc3, kc4, kc5, kc6, kc7, kc8, kc9, kc10, kc11, kc12, kc13, kc14, kc15, kc16, kc17, kc18, kc19, kc20, kc21, kc22, kc23, kc24, kc25, kc26, kc27, kc28, kc29, kc30, kc31, kc32, kc33, kc34, kc35, kc36, kc37, kc38, kc39, kn3, kn4, kn18, kn21, kn23, kn24, kn25, kn26, kn27, kn29, kn30, kr0_0, kr0_1, kr0_2, kr0_3, kr0_4, kr0_5, kr0_7, kr0_8, kr0_9, kr0_10, kr1_0, kr2_0, kr5_0, kr5_1, kr6_0, kr6_1, kr7_0, kr7_1, kr8_0, kr9_0, kr10_0, kr11_0, kr12_0, kr13_0, kr14_0, kr15_0, kr16_0, kr17_0, kr19_0, kr19_1, kr22_0, kr22_1, kr22_2, kr22_3, kr22_4, kr22_5, kr22_7, kr22_8, kr25_0, kr25_1, kr25_2, kr26_0, kr26_1, kr26_2, kr29_0, kr29_1, kz, ki5_2, ki6_2, ki7_2, ki8_1, ki8_2, ki8_3, ki9_1, ki9_2, ki9_3, ki10_1, ki10_2, ki10_3, ki11_1, ki11_2, ki11_3, ki12_1, ki12_2, ki12_3, ki13_1, ki13_2, ki13_3, ki14_1, ki14_2, ki14_3, ki28_0, ki28_1, ki31_0, ki31_1, ki32_0, ki32_1, ki33_0, ki33_1, ki34_0, ki34_1, ki35_0, ki35_1, ki36_0, ki36_1, bq0, bqq, vq3, s1, s2, bs2, hs, d01, d02, d03, d10, d12, d13, d20, d21, d23, d30, d31, d32, vs0, vs1, vs2, vs3, i64_inj, i64_back, fo0, fo1, fo2, fo3, nm_eq, bx0, bx9]
          intro t ht
          first | refine ⟨⟨?_, ?_, ?_, ?_, ?_, ?_, ?_, ?_, ?_, ?_, ?_, ?_⟩, rfl⟩ | refine ⟨?_, ?_, ?_, ?_, ?_, ?_, ?_, ?_, ?_, ?_, ?_, ?_⟩
          · (try simp only [K_pi, K_pl, K_pC, K_cW, K_mW])
            exact K_pT ht vk
          · (try simp only [Cn_pi hA (j := 18) (by decide), Cn_pi hA (j := 22) (by decide), Cn_pi hA (j := 30) (by decide), Cn_pl, Cn_pT, Cn_pr])
            exact vcn
          · (try simp only [Vq0_pi hA (j := 18) (by decide), Vq0_pi hA (j := 22) (by decide), Vq0_pi hA (j := 30) (by decide), Vq0_pl, Vq0_pT, Vq0_pr])
            exact v0
          · (try simp only [Vq1_pi hA (j := 18) (by decide), Vq1_pi hA (j := 22) (by decide), Vq1_pi hA (j := 30) (by decide), Vq1_pl, Vq1_pT, Vq1_pr])
            exact v1
          · (try simp only [Vq2_pi hA (j := 18) (by decide), Vq2_pi hA (j := 22) (by decide), Vq2_pi hA (j := 30) (by decide), Vq2_pl, Vq2_pT, Vq2_pr])
            exact v2
          · (try simp only [Vp_pi hA (j := 18) (by decide), Vp_pi hA (j := 30) (by decide), Vp_thr hA, Vp_pl, Vp_pT, Vp_pr])
            exact vp
          · (try simp only [Vl0_pi hA (j := 18) (by decide), Vl0_pi hA (j := 22) (by decide), Vl0_pi hA (j := 30) (by decide), Vl0_pl, Vl0_pT, Vl0_pr])
            exact vl0
          · (try simp only [Vl1_pi hA (j := 18) (by decide), Vl1_pi hA (j := 22) (by decide), Vl1_pi hA (j := 30) (by decide), Vl1_pl, Vl1_pT, Vl1_pr])
            exact vl1
          · (try simp only [Vlr_pi hA (j := 18) (by decide), Vlr_pi hA (j := 22) (by decide), Vlr_pi hA (j := 30) (by decide), Vlr_pl hA (j := 39) (by decide), Vlr_pT, Vlr_pr])
            exact vlr
          · (try simp only [Vsr_pi hA (j := 18) (by decide), Vsr_pi hA (j := 22) (by decide), Vsr_pi hA (j := 30) (by decide), Vsr_pl hA (j := 39) (by decide), Vsr_pT, Vsr_pr])
            exact vsr
          · (try simp only [Vc_pi hA (j := 22) (by decide), Vc_pl, Vc_pT, Vc_pr])
            exact vc
          · (try simp only [Tx_pi hA (j := 18) (by decide), Tx_pi hA (j := 22) (by decide), Tx_pi hA (j := 30) (by decide), Tx_pl])
            exact Tx_pT ht tx
        · skip
          simp only [o299_0, o299_2, o299_3, o299_4, o299_5, o299_6, o299_9, o299_10, o299_13, o299_16, o299_18, o299_19, o299_20, o299_22, o299_23, o299_24, o299_25, o67_0, o67_1, o67_2, o67_5, o67_7, o67_8, o67_11, o67_12, o67_15, o67_16, o67_18, o67_21, o67_24, o67_25, o67_28, o67_29, o67_32, o67_33, o67_34, o67_37, o67_39, o67_40, o67_41, o67_42, o67_45, o67_48, o67_51, o67_52, o67_55, o67_56, o67_59, o191_0, o191_1, o191_2, o191_5, o191_8, o191_9, o191_12, o191_15, o191_16, o191_19, o191_20, o191_21, o191_24, o191_25, o191_27, o191_30, o191_31, o191_34, o191_35, o191_38, o191_41, o191_42, o191_43, o191_44, o191_45, o191_46, o191_49, o191_52, o191_53, o191_54, o191_57, o191_58, o191_59, o191_62, o191_63, o191_64, o191_65, o191_68, o191_69, o191_71, o191_72, o191_75, o191_76, o191_77, o191_78, o191_81, o191_82, o191_83, o191_86, o191_87, o191_88, o191_90, o191_91, o191_92, o191_95, o191_96, o191_99, o191_100, o191_103, o191_104, o191_107, hx_299_1, hx_299_2, c_X5_checkSlot, c_X8_isSlot, c_X8_isThrown, c_X8_isThrown_, c_X8_isThrown__, c_X8_isQueue, c_queueOf_bad, c_X5_checkAhead, c_queueOf_1, mc_pi, mc_pl, mc_pr, mc_pN, mc_pT, mc_pC, mn_pi, mn_pl, mn_pr, mn_pN, mn_pT, mn_pC, mi_pi, mi_pl, mi_pr, mi_pN, mi_pT, mi_pC, ml_pi, ml_pl, ml_pr, ml_pN, ml_pT, ml_pC, mr_pi, mr_pl, mr_pr, mr_pN, mr_pT, mr_pC, mt_pi, mt_pl, mt_pr, mt_pN, mt_pT, mt_pC, mz_pi, mz_pl, mz_pr, mz_pN, mz_pT, mz_pC, ma_pi, ma_pl, ma_pr, ma_pN, ma_pT, ma_pC, mcs_0, mcs_i, mcs_l, mcs_r, mcs_n, csum_rf, Kn_v, Kn_0, Kn_x, mrf_some, kok_0, true_and, and_true, false_and, and_false, true_or, or_true, or_false, false_or, not_true_eq_false, not_false_eq_true, true_implies, false_implies, implies_true, forall_const, if_true, if_false, and_self, Nat.reduceEqDiff, Nat.reduceLeDiff, Nat.reduceSub, Nat.reduceAdd, Nat.zero_le, Nat.le_refl, i10, i01, kz0, kz1, eq_self, lt_le, Classical.not_not, Int32.reduceLT, Int32.reduceAdd, Int32.reduceSub, Int32.reduceMul, cl0, cl1, cl2, cl3, cl4, cl5, cl6, cl7, cl8, cl9, cl10, cl11, cl12, cl13, cl14, cl15, cl16, cl17, cl18, cl19, cl20, cl21, cl22, cl23, cl24, cl25, cl26, cl27, cl28, cl29, cl30, cl31, cl32, cl33, cl34, cl35, cl36, cl37, cl38, cl39, lg_cmp_eq, Kc_v, Kc_0, Sum.inl.injEq, Option.some.injEq, Value.int.injEq, exists_eq_left', Nat.reduceLT, hAe, i20, i30, kc0, kc1, kc2, kc3, kc4, kc5, kc6, kc7, kc8, kc9, kc10, kc11, kc12, kc13, kc14, kc15, kc16, kc17, kc18, kc19, kc20, kc21, kc22, kc23, kc24, kc25, kc26, kc27, kc28, kc29, kc30, kc31, kc32, kc33, kc34, kc35, kc36, kc37, kc38, kc39, kn3, kn4, kn18, kn21, kn23, kn24, kn25, kn26, kn27, kn29, kn30, kr0_0, kr0_1, kr0_2, kr0_3, kr0_4, kr0_5, kr0_7, kr0_8, kr0_9, kr0_10, kr1_0, kr2_0, kr5_0, kr5_1, kr6_0, kr6_1, kr7_0, kr7_1, kr8_0, kr9_0, kr10_0, kr11_0, kr12_0, kr13_0, kr14_0, kr15_0, kr16_0, kr17_0, kr19_0, kr19_1, kr22_0, kr22_1, kr22_2, kr22_3, kr22_4, kr22_5, kr22_7, kr22_8, kr25_0, kr25_1, kr25_2, kr26_0, kr26_1, kr26_2, kr29_0, kr29_1, kz, ki5_2, ki6_2, ki7_2, ki8_1, ki8_2, ki8_3, ki9_1, ki9_2, ki9_3, ki10_1, ki10_2, ki10_3, ki11_1, ki11_2, ki11_3, ki12_1, ki12_2, ki12_3, ki13_1, ki13_2, ki13_3, ki14_1, ki14_2, ki14_3, ki28_0, ki28_1, ki31_0, ki31_1, ki32_0, ki32_1, ki33_0, ki33_1, ki34_0, ki34_1, ki35_0, ki35_1, ki36_0, ki36_1, bq0, bqq, vq3, s1, s2, bs2, hs, d01, d02, d03, d10, d12, d13, d20, d21, d23, d30, d31, d32, vs0, vs1, vs2, vs3, i64_inj, i64_back, fo0, fo1, fo2, fo3, nm_eq, bx0, bx9]
          intro t ht
          first | refine ⟨⟨?_, ?_, ?_, ?_, ?_, ?_, ?_, ?_, ?_, ?_, ?_, ?_⟩, rfl⟩ | refine ⟨?_, ?_, ?_, ?_, ?_, ?_, ?_, ?_, ?_, ?_, ?_, ?_⟩
          · (try simp only [K_pi, K_pl, K_pC, K_cW, K_mW])
            exact K_pT ht vk
          · (try simp only [Cn_pi hA (j := 18) (by decide), Cn_pi hA (j := 22) (by decide), Cn_pi hA (j := 30) (by decide), Cn_pl, Cn_pT, Cn_pr])
            exact vcn
          · (try simp only [Vq0_pi hA (j := 18) (by decide), Vq0_pi hA (j := 22) (by decide), Vq0_pi hA (j := 30) (by decide), Vq0_pl, Vq0_pT, Vq0_pr])
            exact v0
          · (try simp only [Vq1_pi hA (j := 18) (by decide), Vq1_pi hA (j := 22) (by decide), Vq1_pi hA (j := 30) (by decide), Vq1_pl, Vq1_pT, Vq1_pr])
            exact v1
          · (try simp only [Vq2_pi hA (j := 18) (by decide), Vq2_pi hA (j := 22) (by decide), Vq2_pi hA (j := 30) (by decide), Vq2_pl, Vq2_pT, Vq2_pr])
            exact v2
          · (try simp only [Vp_pi hA (j := 18) (by decide), Vp_pi hA (j := 30) (by decide), Vp_thr hA, Vp_pl, Vp_pT, Vp_pr])
            exact vp
          · (try simp only [Vl0_pi hA (j := 18) (by decide), Vl0_pi hA (j := 22) (by decide), Vl0_pi hA (j := 30) (by decide), Vl0_pl, Vl0_pT, Vl0_pr])
            exact vl0
          · (try simp only [Vl1_pi hA (j := 18) (by decide), Vl1_pi hA (j := 22) (by decide), Vl1_pi hA (j := 30) (by decide), Vl1_pl, Vl1_pT, Vl1_pr])
            exact vl1
          · (try simp only [Vlr_pi hA (j := 18) (by decide), Vlr_pi hA (j := 22) (by decide), Vlr_pi hA (j := 30) (by decide), Vlr_pl hA (j := 39) (by decide), Vlr_pT, Vlr_pr])
            exact vlr
          · (try simp only [Vsr_pi hA (j := 18) (by decide), Vsr_pi hA (j := 22) (by decide), Vsr_pi hA (j := 30) (by decide), Vsr_pl hA (j := 39) (by decide), Vsr_pT, Vsr_pr])
            exact vsr
          · (try simp only [Vc_pi hA (j := 22) (by decide), Vc_pl, Vc_pT, Vc_pr])
            exact vc
          · (try simp only [Tx_pi hA (j := 18) (by decide), Tx_pi hA (j := 22) (by decide), Tx_pi hA (j := 30) (by decide), Tx_pl])
            exact Tx_pT ht tx
        · skip
          simp only [o299_0, o299_2, o299_3, o299_4, o299_5, o299_6, o299_9, o299_10, o299_13, o299_16, o299_18, o299_19, o299_20, o299_22, o299_23, o299_24, o299_25, o67_0, o67_1, o67_2, o67_5, o67_7, o67_8, o67_11, o67_12, o67_15, o67_16, o67_18, o67_21, o67_24, o67_25, o67_28, o67_29, o67_32, o67_33, o67_34, o67_37, o67_39, o67_40, o67_41, o67_42, o67_45, o67_48, o67_51, o67_52, o67_55, o67_56, o67_59, o191_0, o191_1, o191_2, o191_5, o191_8, o191_9, o191_12, o191_15, o191_16, o191_19, o191_20, o191_21, o191_24, o191_25, o191_27, o191_30, o191_31, o191_34, o191_35, o191_38, o191_41, o191_42, o191_43, o191_44, o191_45, o191_46, o191_49, o191_52, o191_53, o191_54, o191_57, o191_58, o191_59, o191_62, o191_63, o191_64, o191_65, o191_68, o191_69, o191_71, o191_72, o191_75, o191_76, o191_77, o191_78, o191_81, o191_82, o191_83, o191_86, o191_87, o191_88, o191_90, o191_91, o191_92, o191_95, o191_96, o191_99, o191_100, o191_103, o191_104, o191_107, hx_299_1, hx_299_2, c_X5_checkSlot, c_X8_isSlot, c_X8_isThrown, c_X8_isThrown_, c_X8_isThrown__, c_X8_isQueue, c_queueOf_bad, c_X5_checkAhead, c_queueOf_2, mc_pi, mc_pl, mc_pr, mc_pN, mc_pT, mc_pC, mn_pi, mn_pl, mn_pr, mn_pN, mn_pT, mn_pC, mi_pi, mi_pl, mi_pr, mi_pN, mi_pT, mi_pC, ml_pi, ml_pl, ml_pr, ml_pN, ml_pT, ml_pC, mr_pi, mr_pl, mr_pr, mr_pN, mr_pT, mr_pC, mt_pi, mt_pl, mt_pr, mt_pN, mt_pT, mt_pC, mz_pi, mz_pl, mz_pr, mz_pN, mz_pT, mz_pC, ma_pi, ma_pl, ma_pr, ma_pN, ma_pT, ma_pC, mcs_0, mcs_i, mcs_l, mcs_r, mcs_n, csum_rf, Kn_v, Kn_0, Kn_x, mrf_some, kok_0, true_and, and_true, false_and, and_false, true_or, or_true, or_false, false_or, not_true_eq_false, not_false_eq_true, true_implies, false_implies, implies_true, forall_const, if_true, if_false, and_self, Nat.reduceEqDiff, Nat.reduceLeDiff, Nat.reduceSub, Nat.reduceAdd, Nat.zero_le, Nat.le_refl, i10, i01, kz0, kz1, eq_self, lt_le, Classical.not_not, Int32.reduceLT, Int32.reduceAdd, Int32.reduceSub, Int32.reduceMul, cl0, cl1, cl2, cl3, cl4, cl5, cl6, cl7, cl8, cl9, cl10, cl11, cl12, cl13, cl14, cl15, cl16, cl17, cl18, cl19, cl20, cl21, cl22, cl23, cl24, cl25, cl26, cl27, cl28, cl29, cl30, cl31, cl32, cl33, cl34, cl35, cl36, cl37, cl38, cl39, lg_cmp_eq, Kc_v, Kc_0, Sum.inl.injEq, Option.some.injEq, Value.int.injEq, exists_eq_left', Nat.reduceLT, hAe, i20, i30, kc0, kc1, kc2, kc3, kc4, kc5, kc6, kc7, kc8, kc9, kc10, kc11, kc12, kc13, kc14, kc15, kc16, kc17, kc18, kc19, kc20, kc21, kc22, kc23, kc24, kc25, kc26, kc27, kc28, kc29, kc30, kc31, kc32, kc33, kc34, kc35, kc36, kc37, kc38, kc39, kn3, kn4, kn18, kn21, kn23, kn24, kn25, kn26, kn27, kn29, kn30, kr0_0, kr0_1, kr0_2, kr0_3, kr0_4, kr0_5, kr0_7, kr0_8, kr0_9, kr0_10, kr1_0, kr2_0, kr5_0, kr5_1, kr6_0, kr6_1, kr7_0, kr7_1, kr8_0, kr9_0, kr10_0, kr11_0, kr12_0, kr13_0, kr14_0, kr15_0, kr16_0, kr17_0, kr19_0, kr19_1, kr22_0, kr22_1, kr22_2, kr22_3, kr22_4, kr22_5, kr22_7, kr22_8, kr25_0, kr25_1, kr25_2, kr26_0, kr26_1, kr26_2, kr29_0, kr29_1, kz, ki5_2, ki6_2, ki7_2, ki8_1, ki8_2, ki8_3, ki9_1, ki9_2, ki9_3, ki10_1, ki10_2, ki10_3, ki11_1, ki11_2, ki11_3, ki12_1, ki12_2, ki12_3, ki13_1, ki13_2, ki13_3, ki14_1, ki14_2, ki14_3, ki28_0, ki28_1, ki31_0, ki31_1, ki32_0, ki32_1, ki33_0, ki33_1, ki34_0, ki34_1, ki35_0, ki35_1, ki36_0, ki36_1, bq0, bqq, vq3, s1, s2, bs2, hs, d01, d02, d03, d10, d12, d13, d20, d21, d23, d30, d31, d32, vs0, vs1, vs2, vs3, i64_inj, i64_back, fo0, fo1, fo2, fo3, nm_eq, bx0, bx9]
          intro t ht
          first | refine ⟨⟨?_, ?_, ?_, ?_, ?_, ?_, ?_, ?_, ?_, ?_, ?_, ?_⟩, rfl⟩ | refine ⟨?_, ?_, ?_, ?_, ?_, ?_, ?_, ?_, ?_, ?_, ?_, ?_⟩
          · (try simp only [K_pi, K_pl, K_pC, K_cW, K_mW])
            exact K_pT ht vk
          · (try simp only [Cn_pi hA (j := 18) (by decide), Cn_pi hA (j := 22) (by decide), Cn_pi hA (j := 30) (by decide), Cn_pl, Cn_pT, Cn_pr])
            exact vcn
          · (try simp only [Vq0_pi hA (j := 18) (by decide), Vq0_pi hA (j := 22) (by decide), Vq0_pi hA (j := 30) (by decide), Vq0_pl, Vq0_pT, Vq0_pr])
            exact v0
          · (try simp only [Vq1_pi hA (j := 18) (by decide), Vq1_pi hA (j := 22) (by decide), Vq1_pi hA (j := 30) (by decide), Vq1_pl, Vq1_pT, Vq1_pr])
            exact v1
          · (try simp only [Vq2_pi hA (j := 18) (by decide), Vq2_pi hA (j := 22) (by decide), Vq2_pi hA (j := 30) (by decide), Vq2_pl, Vq2_pT, Vq2_pr])
            exact v2
          · (try simp only [Vp_pi hA (j := 18) (by decide), Vp_pi hA (j := 30) (by decide), Vp_thr hA, Vp_pl, Vp_pT, Vp_pr])
            exact vp
          · (try simp only [Vl0_pi hA (j := 18) (by decide), Vl0_pi hA (j := 22) (by decide), Vl0_pi hA (j := 30) (by decide), Vl0_pl, Vl0_pT, Vl0_pr])
            exact vl0
          · (try simp only [Vl1_pi hA (j := 18) (by decide), Vl1_pi hA (j := 22) (by decide), Vl1_pi hA (j := 30) (by decide), Vl1_pl, Vl1_pT, Vl1_pr])
            exact vl1
          · (try simp only [Vlr_pi hA (j := 18) (by decide), Vlr_pi hA (j := 22) (by decide), Vlr_pi hA (j := 30) (by decide), Vlr_pl hA (j := 39) (by decide), Vlr_pT, Vlr_pr])
            exact vlr
          · (try simp only [Vsr_pi hA (j := 18) (by decide), Vsr_pi hA (j := 22) (by decide), Vsr_pi hA (j := 30) (by decide), Vsr_pl hA (j := 39) (by decide), Vsr_pT, Vsr_pr])
            exact vsr
          · (try simp only [Vc_pi hA (j := 22) (by decide), Vc_pl, Vc_pT, Vc_pr])
            exact vc
          · (try simp only [Tx_pi hA (j := 18) (by decide), Tx_pi hA (j := 22) (by decide), Tx_pi hA (j := 30) (by decide), Tx_pl])
            exact Tx_pT ht tx
  · by_cases bq : q < 0 ∨ ¬ q < 3
    · have bq2 : (¬ q < 0 ∧ q < 3) = False := nrng bq
      by_cases bs : (¬ s < 0 ∧ s < 6)
      all_goals
        simp only [o299_0, o299_2, o299_3, o299_4, o299_5, o299_6, o299_9, o299_10, o299_13, o299_16, o299_18, o299_19, o299_20, o299_22, o299_23, o299_24, o299_25, o67_0, o67_1, o67_2, o67_5, o67_7, o67_8, o67_11, o67_12, o67_15, o67_16, o67_18, o67_21, o67_24, o67_25, o67_28, o67_29, o67_32, o67_33, o67_34, o67_37, o67_39, o67_40, o67_41, o67_42, o67_45, o67_48, o67_51, o67_52, o67_55, o67_56, o67_59, o191_0, o191_1, o191_2, o191_5, o191_8, o191_9, o191_12, o191_15, o191_16, o191_19, o191_20, o191_21, o191_24, o191_25, o191_27, o191_30, o191_31, o191_34, o191_35, o191_38, o191_41, o191_42, o191_43, o191_44, o191_45, o191_46, o191_49, o191_52, o191_53, o191_54, o191_57, o191_58, o191_59, o191_62, o191_63, o191_64, o191_65, o191_68, o191_69, o191_71, o191_72, o191_75, o191_76, o191_77, o191_78, o191_81, o191_82, o191_83, o191_86, o191_87, o191_88, o191_90, o191_91, o191_92, o191_95, o191_96, o191_99, o191_100, o191_103, o191_104, o191_107, hx_299_1, hx_299_2, c_X5_checkSlot, c_X8_isSlot, c_X8_isThrown, c_X8_isThrown_, c_X8_isThrown__, c_X8_isQueue, c_queueOf_bad, c_X5_checkAhead, mc_pi, mc_pl, mc_pr, mc_pN, mc_pT, mc_pC, mn_pi, mn_pl, mn_pr, mn_pN, mn_pT, mn_pC, mi_pi, mi_pl, mi_pr, mi_pN, mi_pT, mi_pC, ml_pi, ml_pl, ml_pr, ml_pN, ml_pT, ml_pC, mr_pi, mr_pl, mr_pr, mr_pN, mr_pT, mr_pC, mt_pi, mt_pl, mt_pr, mt_pN, mt_pT, mt_pC, mz_pi, mz_pl, mz_pr, mz_pN, mz_pT, mz_pC, ma_pi, ma_pl, ma_pr, ma_pN, ma_pT, ma_pC, mcs_0, mcs_i, mcs_l, mcs_r, mcs_n, csum_rf, Kn_v, Kn_0, Kn_x, mrf_some, kok_0, true_and, and_true, false_and, and_false, true_or, or_true, or_false, false_or, not_true_eq_false, not_false_eq_true, true_implies, false_implies, implies_true, forall_const, if_true, if_false, and_self, Nat.reduceEqDiff, Nat.reduceLeDiff, Nat.reduceSub, Nat.reduceAdd, Nat.zero_le, Nat.le_refl, i10, i01, kz0, kz1, eq_self, lt_le, Classical.not_not, Int32.reduceLT, Int32.reduceAdd, Int32.reduceSub, Int32.reduceMul, cl0, cl1, cl2, cl3, cl4, cl5, cl6, cl7, cl8, cl9, cl10, cl11, cl12, cl13, cl14, cl15, cl16, cl17, cl18, cl19, cl20, cl21, cl22, cl23, cl24, cl25, cl26, cl27, cl28, cl29, cl30, cl31, cl32, cl33, cl34, cl35, cl36, cl37, cl38, cl39, lg_cmp_eq, Kc_v, Kc_0, Sum.inl.injEq, Option.some.injEq, Value.int.injEq, exists_eq_left', Nat.reduceLT, hAe, i20, i30, kc0, kc1, kc2, kc3, kc4, kc5, kc6, kc7, kc8, kc9, kc10, kc11, kc12, kc13, kc14, kc15, kc16, kc17, kc18, kc19, kc20, kc21, kc22, kc23, kc24, kc25, kc26, kc27, kc28, kc29, kc30, kc31, kc32, kc33, kc34, kc35, kc36, kc37, kc38, kc39, kn3, kn4, kn18, kn21, kn23, kn24, kn25, kn26, kn27, kn29, kn30, kr0_0, kr0_1, kr0_2, kr0_3, kr0_4, kr0_5, kr0_7, kr0_8, kr0_9, kr0_10, kr1_0, kr2_0, kr5_0, kr5_1, kr6_0, kr6_1, kr7_0, kr7_1, kr8_0, kr9_0, kr10_0, kr11_0, kr12_0, kr13_0, kr14_0, kr15_0, kr16_0, kr17_0, kr19_0, kr19_1, kr22_0, kr22_1, kr22_2, kr22_3, kr22_4, kr22_5, kr22_7, kr22_8, kr25_0, kr25_1, kr25_2, kr26_0, kr26_1, kr26_2, kr29_0, kr29_1, kz, ki5_2, ki6_2, ki7_2, ki8_1, ki8_2, ki8_3, ki9_1, ki9_2, ki9_3, ki10_1, ki10_2, ki10_3, ki11_1, ki11_2, ki11_3, ki12_1, ki12_2, ki12_3, ki13_1, ki13_2, ki13_3, ki14_1, ki14_2, ki14_3, ki28_0, ki28_1, ki31_0, ki31_1, ki32_0, ki32_1, ki33_0, ki33_1, ki34_0, ki34_1, ki35_0, ki35_1, ki36_0, ki36_1, bq, bq2, bs, bx0, bx9]
        intro t ht
        first | refine ⟨⟨?_, ?_, ?_, ?_, ?_, ?_, ?_, ?_, ?_, ?_, ?_, ?_⟩, rfl⟩ | refine ⟨?_, ?_, ?_, ?_, ?_, ?_, ?_, ?_, ?_, ?_, ?_, ?_⟩
        · (try simp only [K_pi, K_pl, K_pC, K_cW, K_mW])
          exact K_pT ht vk
        · (try simp only [Cn_pi hA (j := 18) (by decide), Cn_pi hA (j := 22) (by decide), Cn_pi hA (j := 30) (by decide), Cn_pl, Cn_pT, Cn_pr])
          exact vcn
        · (try simp only [Vq0_pi hA (j := 18) (by decide), Vq0_pi hA (j := 22) (by decide), Vq0_pi hA (j := 30) (by decide), Vq0_pl, Vq0_pT, Vq0_pr])
          exact v0
        · (try simp only [Vq1_pi hA (j := 18) (by decide), Vq1_pi hA (j := 22) (by decide), Vq1_pi hA (j := 30) (by decide), Vq1_pl, Vq1_pT, Vq1_pr])
          exact v1
        · (try simp only [Vq2_pi hA (j := 18) (by decide), Vq2_pi hA (j := 22) (by decide), Vq2_pi hA (j := 30) (by decide), Vq2_pl, Vq2_pT, Vq2_pr])
          exact v2
        · (try simp only [Vp_pi hA (j := 18) (by decide), Vp_pi hA (j := 30) (by decide), Vp_thr hA, Vp_pl, Vp_pT, Vp_pr])
          exact vp
        · (try simp only [Vl0_pi hA (j := 18) (by decide), Vl0_pi hA (j := 22) (by decide), Vl0_pi hA (j := 30) (by decide), Vl0_pl, Vl0_pT, Vl0_pr])
          exact vl0
        · (try simp only [Vl1_pi hA (j := 18) (by decide), Vl1_pi hA (j := 22) (by decide), Vl1_pi hA (j := 30) (by decide), Vl1_pl, Vl1_pT, Vl1_pr])
          exact vl1
        · (try simp only [Vlr_pi hA (j := 18) (by decide), Vlr_pi hA (j := 22) (by decide), Vlr_pi hA (j := 30) (by decide), Vlr_pl hA (j := 39) (by decide), Vlr_pT, Vlr_pr])
          exact vlr
        · (try simp only [Vsr_pi hA (j := 18) (by decide), Vsr_pi hA (j := 22) (by decide), Vsr_pi hA (j := 30) (by decide), Vsr_pl hA (j := 39) (by decide), Vsr_pT, Vsr_pr])
          exact vsr
        · (try simp only [Vc_pi hA (j := 22) (by decide), Vc_pl, Vc_pT, Vc_pr])
          exact vc
        · (try simp only [Tx_pi hA (j := 18) (by decide), Tx_pi hA (j := 22) (by decide), Tx_pi hA (j := 30) (by decide), Tx_pl])
          exact Tx_pT ht tx
    · have y1 : ¬ q < 0 := fun z => bq (Or.inl z)
      have y2 : q < 3 := Classical.byContradiction fun z => bq (Or.inr z)
      have bq2 : (¬ q < 0 ∧ q < 3) = True := eq_true ⟨y1, y2⟩
      by_cases bs : s < 0 ∨ ¬ s < 6
      · have bs2 : (¬ s < 0 ∧ s < 6) = False := nrng bs
        rcases q_cases y1 y2 with rfl | rfl | rfl
        · skip
          simp only [o299_0, o299_2, o299_3, o299_4, o299_5, o299_6, o299_9, o299_10, o299_13, o299_16, o299_18, o299_19, o299_20, o299_22, o299_23, o299_24, o299_25, o67_0, o67_1, o67_2, o67_5, o67_7, o67_8, o67_11, o67_12, o67_15, o67_16, o67_18, o67_21, o67_24, o67_25, o67_28, o67_29, o67_32, o67_33, o67_34, o67_37, o67_39, o67_40, o67_41, o67_42, o67_45, o67_48, o67_51, o67_52, o67_55, o67_56, o67_59, o191_0, o191_1, o191_2, o191_5, o191_8, o191_9, o191_12, o191_15, o191_16, o191_19, o191_20, o191_21, o191_24, o191_25, o191_27, o191_30, o191_31, o191_34, o191_35, o191_38, o191_41, o191_42, o191_43, o191_44, o191_45, o191_46, o191_49, o191_52, o191_53, o191_54, o191_57, o191_58, o191_59, o191_62, o191_63, o191_64, o191_65, o191_68, o191_69, o191_71, o191_72, o191_75, o191_76, o191_77, o191_78, o191_81, o191_82, o191_83, o191_86, o191_87, o191_88, o191_90, o191_91, o191_92, o191_95, o191_96, o191_99, o191_100, o191_103, o191_104, o191_107, hx_299_1, hx_299_2, c_X5_checkSlot, c_X8_isSlot, c_X8_isThrown, c_X8_isThrown_, c_X8_isThrown__, c_X8_isQueue, c_queueOf_bad, c_X5_checkAhead, c_queueOf_0, mc_pi, mc_pl, mc_pr, mc_pN, mc_pT, mc_pC, mn_pi, mn_pl, mn_pr, mn_pN, mn_pT, mn_pC, mi_pi, mi_pl, mi_pr, mi_pN, mi_pT, mi_pC, ml_pi, ml_pl, ml_pr, ml_pN, ml_pT, ml_pC, mr_pi, mr_pl, mr_pr, mr_pN, mr_pT, mr_pC, mt_pi, mt_pl, mt_pr, mt_pN, mt_pT, mt_pC, mz_pi, mz_pl, mz_pr, mz_pN, mz_pT, mz_pC, ma_pi, ma_pl, ma_pr, ma_pN, ma_pT, ma_pC, mcs_0, mcs_i, mcs_l, mcs_r, mcs_n, csum_rf, Kn_v, Kn_0, Kn_x, mrf_some, kok_0, true_and, and_true, false_and, and_false, true_or, or_true, or_false, false_or, not_true_eq_false, not_false_eq_true, true_implies, false_implies, implies_true, forall_const, if_true, if_false, and_self, Nat.reduceEqDiff, Nat.reduceLeDiff, Nat.reduceSub, Nat.reduceAdd, Nat.zero_le, Nat.le_refl, i10, i01, kz0, kz1, eq_self, lt_le, Classical.not_not, Int32.reduceLT, Int32.reduceAdd, Int32.reduceSub, Int32.reduceMul, cl0, cl1, cl2, cl3, cl4, cl5, cl6, cl7, cl8, cl9, cl10, cl11, cl12, cl13, cl14, cl15, cl16, cl17, cl18, cl19, cl20, cl21, cl22, cl23, cl24, cl25, cl26, cl27, cl28, cl29, cl30, cl31, cl32, cl33, cl34, cl35, cl36, cl37, cl38, cl39, lg_cmp_eq, Kc_v, Kc_0, Sum.inl.injEq, Option.some.injEq, Value.int.injEq, exists_eq_left', Nat.reduceLT, hAe, i20, i30, kc0, kc1, kc2, kc3, kc4, kc5, kc6, kc7, kc8, kc9, kc10, kc11, kc12, kc13, kc14, kc15, kc16, kc17, kc18, kc19, kc20, kc21, kc22, kc23, kc24, kc25, kc26, kc27, kc28, kc29, kc30, kc31, kc32, kc33, kc34, kc35, kc36, kc37, kc38, kc39, kn3, kn4, kn18, kn21, kn23, kn24, kn25, kn26, kn27, kn29, kn30, kr0_0, kr0_1, kr0_2, kr0_3, kr0_4, kr0_5, kr0_7, kr0_8, kr0_9, kr0_10, kr1_0, kr2_0, kr5_0, kr5_1, kr6_0, kr6_1, kr7_0, kr7_1, kr8_0, kr9_0, kr10_0, kr11_0, kr12_0, kr13_0, kr14_0, kr15_0, kr16_0, kr17_0, kr19_0, kr19_1, kr22_0, kr22_1, kr22_2, kr22_3, kr22_4, kr22_5, kr22_7, kr22_8, kr25_0, kr25_1, kr25_2, kr26_0, kr26_1, kr26_2, kr29_0, kr29_1, kz, ki5_2, ki6_2, ki7_2, ki8_1, ki8_2, ki8_3, ki9_1, ki9_2, ki9_3, ki10_1, ki10_2, ki10_3, ki11_1, ki11_2, ki11_3, ki12_1, ki12_2, ki12_3, ki13_1, ki13_2, ki13_3, ki14_1, ki14_2, ki14_3, ki28_0, ki28_1, ki31_0, ki31_1, ki32_0, ki32_1, ki33_0, ki33_1, ki34_0, ki34_1, ki35_0, ki35_1, ki36_0, ki36_1, bq0, bqq, vq3, bs, bs2, bx0, bx9]
          intro t ht
          first | refine ⟨⟨?_, ?_, ?_, ?_, ?_, ?_, ?_, ?_, ?_, ?_, ?_, ?_⟩, rfl⟩ | refine ⟨?_, ?_, ?_, ?_, ?_, ?_, ?_, ?_, ?_, ?_, ?_, ?_⟩
          · (try simp only [K_pi, K_pl, K_pC, K_cW, K_mW])
            exact K_pT ht vk
          · (try simp only [Cn_pi hA (j := 18) (by decide), Cn_pi hA (j := 22) (by decide), Cn_pi hA (j := 30) (by decide), Cn_pl, Cn_pT, Cn_pr])
            exact vcn
          · (try simp only [Vq0_pi hA (j := 18) (by decide), Vq0_pi hA (j := 22) (by decide), Vq0_pi hA (j := 30) (by decide), Vq0_pl, Vq0_pT, Vq0_pr])
            exact v0
          · (try simp only [Vq1_pi hA (j := 18) (by decide), Vq1_pi hA (j := 22) (by decide), Vq1_pi hA (j := 30) (by decide), Vq1_pl, Vq1_pT, Vq1_pr])
            exact v1
          · (try simp only [Vq2_pi hA (j := 18) (by decide), Vq2_pi hA (j := 22) (by decide), Vq2_pi hA (j := 30) (by decide), Vq2_pl, Vq2_pT, Vq2_pr])
            exact v2
          · (try simp only [Vp_pi hA (j := 18) (by decide), Vp_pi hA (j := 30) (by decide), Vp_thr hA, Vp_pl, Vp_pT, Vp_pr])
            exact vp
          · (try simp only [Vl0_pi hA (j := 18) (by decide), Vl0_pi hA (j := 22) (by decide), Vl0_pi hA (j := 30) (by decide), Vl0_pl, Vl0_pT, Vl0_pr])
            exact vl0
          · (try simp only [Vl1_pi hA (j := 18) (by decide), Vl1_pi hA (j := 22) (by decide), Vl1_pi hA (j := 30) (by decide), Vl1_pl, Vl1_pT, Vl1_pr])
            exact vl1
          · (try simp only [Vlr_pi hA (j := 18) (by decide), Vlr_pi hA (j := 22) (by decide), Vlr_pi hA (j := 30) (by decide), Vlr_pl hA (j := 39) (by decide), Vlr_pT, Vlr_pr])
            exact vlr
          · (try simp only [Vsr_pi hA (j := 18) (by decide), Vsr_pi hA (j := 22) (by decide), Vsr_pi hA (j := 30) (by decide), Vsr_pl hA (j := 39) (by decide), Vsr_pT, Vsr_pr])
            exact vsr
          · (try simp only [Vc_pi hA (j := 22) (by decide), Vc_pl, Vc_pT, Vc_pr])
            exact vc
          · (try simp only [Tx_pi hA (j := 18) (by decide), Tx_pi hA (j := 22) (by decide), Tx_pi hA (j := 30) (by decide), Tx_pl])
            exact Tx_pT ht tx
        · skip
          simp only [o299_0, o299_2, o299_3, o299_4, o299_5, o299_6, o299_9, o299_10, o299_13, o299_16, o299_18, o299_19, o299_20, o299_22, o299_23, o299_24, o299_25, o67_0, o67_1, o67_2, o67_5, o67_7, o67_8, o67_11, o67_12, o67_15, o67_16, o67_18, o67_21, o67_24, o67_25, o67_28, o67_29, o67_32, o67_33, o67_34, o67_37, o67_39, o67_40, o67_41, o67_42, o67_45, o67_48, o67_51, o67_52, o67_55, o67_56, o67_59, o191_0, o191_1, o191_2, o191_5, o191_8, o191_9, o191_12, o191_15, o191_16, o191_19, o191_20, o191_21, o191_24, o191_25, o191_27, o191_30, o191_31, o191_34, o191_35, o191_38, o191_41, o191_42, o191_43, o191_44, o191_45, o191_46, o191_49, o191_52, o191_53, o191_54, o191_57, o191_58, o191_59, o191_62, o191_63, o191_64, o191_65, o191_68, o191_69, o191_71, o191_72, o191_75, o191_76, o191_77, o191_78, o191_81, o191_82, o191_83, o191_86, o191_87, o191_88, o191_90, o191_91, o191_92, o191_95, o191_96, o191_99, o191_100, o191_103, o191_104, o191_107, hx_299_1, hx_299_2, c_X5_checkSlot, c_X8_isSlot, c_X8_isThrown, c_X8_isThrown_, c_X8_isThrown__, c_X8_isQueue, c_queueOf_bad, c_X5_checkAhead, c_queueOf_1, mc_pi, mc_pl, mc_pr, mc_pN, mc_pT, mc_pC, mn_pi, mn_pl, mn_pr, mn_pN, mn_pT, mn_pC, mi_pi, mi_pl, mi_pr, mi_pN, mi_pT, mi_pC, ml_pi, ml_pl, ml_pr, ml_pN, ml_pT, ml_pC, mr_pi, mr_pl, mr_pr, mr_pN, mr_pT, mr_pC, mt_pi, mt_pl, mt_pr, mt_pN, mt_pT, mt_pC, mz_pi, mz_pl, mz_pr, mz_pN, mz_pT, mz_pC, ma_pi, ma_pl, ma_pr, ma_pN, ma_pT, ma_pC, mcs_0, mcs_i, mcs_l, mcs_r, mcs_n, csum_rf, Kn_v, Kn_0, Kn_x, mrf_some, kok_0, true_and, and_true, false_and, and_false, true_or, or_true, or_false, false_or, not_true_eq_false, not_false_eq_true, true_implies, false_implies, implies_true, forall_const, if_true, if_false, and_self, Nat.reduceEqDiff, Nat.reduceLeDiff, Nat.reduceSub, Nat.reduceAdd, Nat.zero_le, Nat.le_refl, i10, i01, kz0, kz1, eq_self, lt_le, Classical.not_not, Int32.reduceLT, Int32.reduceAdd, Int32.reduceSub, Int32.reduceMul, cl0, cl1, cl2, cl3, cl4, cl5, cl6, cl7, cl8, cl9, cl10, cl11, cl12, cl13, cl14, cl15, cl16, cl17, cl18, cl19, cl20, cl21, cl22, cl23, cl24, cl25, cl26, cl27, cl28, cl29, cl30, cl31, cl32, cl33, cl34, cl35, cl36, cl37, cl38, cl39, lg_cmp_eq, Kc_v, Kc_0, Sum.inl.injEq, Option.some.injEq, Value.int.injEq, exists_eq_left', Nat.reduceLT, hAe, i20, i30, kc0, kc1, kc2, kc3, kc4, kc5, kc6, kc7, kc8, kc9, kc10, kc11, kc12, kc13, kc14, kc15, kc16, kc17, kc18, kc19, kc20, kc21, kc22, kc23, kc24, kc25, kc26, kc27, kc28, kc29, kc30, kc31, kc32, kc33, kc34, kc35, kc36, kc37, kc38, kc39, kn3, kn4, kn18, kn21, kn23, kn24, kn25, kn26, kn27, kn29, kn30, kr0_0, kr0_1, kr0_2, kr0_3, kr0_4, kr0_5, kr0_7, kr0_8, kr0_9, kr0_10, kr1_0, kr2_0, kr5_0, kr5_1, kr6_0, kr6_1, kr7_0, kr7_1, kr8_0, kr9_0, kr10_0, kr11_0, kr12_0, kr13_0, kr14_0, kr15_0, kr16_0, kr17_0, kr19_0, kr19_1, kr22_0, kr22_1, kr22_2, kr22_3, kr22_4, kr22_5, kr22_7, kr22_8, kr25_0, kr25_1, kr25_2, kr26_0, kr26_1, kr26_2, kr29_0, kr29_1, kz, ki5_2, ki6_2, ki7_2, ki8_1, ki8_2, ki8_3, ki9_1, ki9_2, ki9_3, ki10_1, ki10_2, ki10_3, ki11_1, ki11_2, ki11_3, ki12_1, ki12_2, ki12_3, ki13_1, ki13_2, ki13_3, ki14_1, ki14_2, ki14_3, ki28_0, ki28_1, ki31_0, ki31_1, ki32_0, ki32_1, ki33_0, ki33_1, ki34_0, ki34_1, ki35_0, ki35_1, ki36_0, ki36_1, bq0, bqq, vq3, bs, bs2, bx0, bx9]
          intro t ht
          first | refine ⟨⟨?_, ?_, ?_, ?_, ?_, ?_, ?_, ?_, ?_, ?_, ?_, ?_⟩, rfl⟩ | refine ⟨?_, ?_, ?_, ?_, ?_, ?_, ?_, ?_, ?_, ?_, ?_, ?_⟩
          · (try simp only [K_pi, K_pl, K_pC, K_cW, K_mW])
            exact K_pT ht vk
          · (try simp only [Cn_pi hA (j := 18) (by decide), Cn_pi hA (j := 22) (by decide), Cn_pi hA (j := 30) (by decide), Cn_pl, Cn_pT, Cn_pr])
            exact vcn
          · (try simp only [Vq0_pi hA (j := 18) (by decide), Vq0_pi hA (j := 22) (by decide), Vq0_pi hA (j := 30) (by decide), Vq0_pl, Vq0_pT, Vq0_pr])
            exact v0
          · (try simp only [Vq1_pi hA (j := 18) (by decide), Vq1_pi hA (j := 22) (by decide), Vq1_pi hA (j := 30) (by decide), Vq1_pl, Vq1_pT, Vq1_pr])
            exact v1
          · (try simp only [Vq2_pi hA (j := 18) (by decide), Vq2_pi hA (j := 22) (by decide), Vq2_pi hA (j := 30) (by decide), Vq2_pl, Vq2_pT, Vq2_pr])
            exact v2
          · (try simp only [Vp_pi hA (j := 18) (by decide), Vp_pi hA (j := 30) (by decide), Vp_thr hA, Vp_pl, Vp_pT, Vp_pr])
            exact vp
          · (try simp only [Vl0_pi hA (j := 18) (by decide), Vl0_pi hA (j := 22) (by decide), Vl0_pi hA (j := 30) (by decide), Vl0_pl, Vl0_pT, Vl0_pr])
            exact vl0
          · (try simp only [Vl1_pi hA (j := 18) (by decide), Vl1_pi hA (j := 22) (by decide), Vl1_pi hA (j := 30) (by decide), Vl1_pl, Vl1_pT, Vl1_pr])
            exact vl1
          · (try simp only [Vlr_pi hA (j := 18) (by decide), Vlr_pi hA (j := 22) (by decide), Vlr_pi hA (j := 30) (by decide), Vlr_pl hA (j := 39) (by decide), Vlr_pT, Vlr_pr])
            exact vlr
          · (try simp only [Vsr_pi hA (j := 18) (by decide), Vsr_pi hA (j := 22) (by decide), Vsr_pi hA (j := 30) (by decide), Vsr_pl hA (j := 39) (by decide), Vsr_pT, Vsr_pr])
            exact vsr
          · (try simp only [Vc_pi hA (j := 22) (by decide), Vc_pl, Vc_pT, Vc_pr])
            exact vc
          · (try simp only [Tx_pi hA (j := 18) (by decide), Tx_pi hA (j := 22) (by decide), Tx_pi hA (j := 30) (by decide), Tx_pl])
            exact Tx_pT ht tx
        · skip
          simp only [o299_0, o299_2, o299_3, o299_4, o299_5, o299_6, o299_9, o299_10, o299_13, o299_16, o299_18, o299_19, o299_20, o299_22, o299_23, o299_24, o299_25, o67_0, o67_1, o67_2, o67_5, o67_7, o67_8, o67_11, o67_12, o67_15, o67_16, o67_18, o67_21, o67_24, o67_25, o67_28, o67_29, o67_32, o67_33, o67_34, o67_37, o67_39, o67_40, o67_41, o67_42, o67_45, o67_48, o67_51, o67_52, o67_55, o67_56, o67_59, o191_0, o191_1, o191_2, o191_5, o191_8, o191_9, o191_12, o191_15, o191_16, o191_19, o191_20, o191_21, o191_24, o191_25, o191_27, o191_30, o191_31, o191_34, o191_35, o191_38, o191_41, o191_42, o191_43, o191_44, o191_45, o191_46, o191_49, o191_52, o191_53, o191_54, o191_57, o191_58, o191_59, o191_62, o191_63, o191_64, o191_65, o191_68, o191_69, o191_71, o191_72, o191_75, o191_76, o191_77, o191_78, o191_81, o191_82, o191_83, o191_86, o191_87, o191_88, o191_90, o191_91, o191_92, o191_95, o191_96, o191_99, o191_100, o191_103, o191_104, o191_107, hx_299_1, hx_299_2, c_X5_checkSlot, c_X8_isSlot, c_X8_isThrown, c_X8_isThrown_, c_X8_isThrown__, c_X8_isQueue, c_queueOf_bad, c_X5_checkAhead, c_queueOf_2, mc_pi, mc_pl, mc_pr, mc_pN, mc_pT, mc_pC, mn_pi, mn_pl, mn_pr, mn_pN, mn_pT, mn_pC, mi_pi, mi_pl, mi_pr, mi_pN, mi_pT, mi_pC, ml_pi, ml_pl, ml_pr, ml_pN, ml_pT, ml_pC, mr_pi, mr_pl, mr_pr, mr_pN, mr_pT, mr_pC, mt_pi, mt_pl, mt_pr, mt_pN, mt_pT, mt_pC, mz_pi, mz_pl, mz_pr, mz_pN, mz_pT, mz_pC, ma_pi, ma_pl, ma_pr, ma_pN, ma_pT, ma_pC, mcs_0, mcs_i, mcs_l, mcs_r, mcs_n, csum_rf, Kn_v, Kn_0, Kn_x, mrf_some, kok_0, true_and, and_true, false_and, and_false, true_or, or_true, or_false, false_or, not_true_eq_false, not_false_eq_true, true_implies, false_implies, implies_true, forall_const, if_true, if_false, and_self, Nat.reduceEqDiff, Nat.reduceLeDiff, Nat.reduceSub, Nat.reduceAdd, Nat.zero_le, Nat.le_refl, i10, i01, kz0, kz1, eq_self, lt_le, Classical.not_not, Int32.reduceLT, Int32.reduceAdd, Int32.reduceSub, Int32.reduceMul, cl0, cl1, cl2, cl3, cl4, cl5, cl6, cl7, cl8, cl9, cl10, cl11, cl12, cl13, cl14, cl15, cl16, cl17, cl18, cl19, cl20, cl21, cl22, cl23, cl24, cl25, cl26, cl27, cl28, cl29, cl30, cl31, cl32, cl33, cl34, cl35, cl36, cl37, cl38, cl39, lg_cmp_eq, Kc_v, Kc_0, Sum.inl.injEq, Option.some.injEq, Value.int.injEq, exists_eq_left', Nat.reduceLT, hAe, i20, i30, kc0, kc1, kc2, kc3, kc4, kc5, kc6, kc7, kc8, kc9, kc10, kc11, kc12, kc13, kc14, kc15, kc16, kc17, kc18, kc19, kc20, kc21, kc22, kc23, kc24, kc25, kc26, kc27, kc28, kc29, kc30, kc31, kc32, kc33, kc34, kc35, kc36, kc37, kc38, kc39, kn3, kn4, kn18, kn21, kn23, kn24, kn25, kn26, kn27, kn29, kn30, kr0_0, kr0_1, kr0_2, kr0_3, kr0_4, kr0_5, kr0_7, kr0_8, kr0_9, kr0_10, kr1_0, kr2_0, kr5_0, kr5_1, kr6_0, kr6_1, kr7_0, kr7_1, kr8_0, kr9_0, kr10_0, kr11_0, kr12_0, kr13_0, kr14_0, kr15_0, kr16_0, kr17_0, kr19_0, kr19_1, kr22_0, kr22_1, kr22_2, kr22_3, kr22_4, kr22_5, kr22_7, kr22_8, kr25_0, kr25_1, kr25_2, kr26_0, kr26_1, kr26_2, kr29_0, kr29_1, kz, ki5_2, ki6_2, ki7_2, ki8_1, ki8_2, ki8_3, ki9_1, ki9_2, ki9_3, ki10_1, ki10_2, ki10_3, ki11_1, ki11_2, ki11_3, ki12_1, ki12_2, ki12_3, ki13_1, ki13_2, ki13_3, ki14_1, ki14_2, ki14_3, ki28_0, ki28_1, ki31_0, ki31_1, ki32_0, ki32_1, ki33_0, ki33_1, ki34_0, ki34_1, ki35_0, ki35_1, ki36_0, ki36_1, bq0, bqq, vq3, bs, bs2, bx0, bx9]
          intro t ht
          first | refine ⟨⟨?_, ?_, ?_, ?_, ?_, ?_, ?_, ?_, ?_, ?_, ?_, ?_⟩, rfl⟩ | refine ⟨?_, ?_, ?_, ?_, ?_, ?_, ?_, ?_, ?_, ?_, ?_, ?_⟩
          · (try simp only [K_pi, K_pl, K_pC, K_cW, K_mW])
            exact K_pT ht vk
          · (try simp only [Cn_pi hA (j := 18) (by decide), Cn_pi hA (j := 22) (by decide), Cn_pi hA (j := 30) (by decide), Cn_pl, Cn_pT, Cn_pr])
            exact vcn
          · (try simp only [Vq0_pi hA (j := 18) (by decide), Vq0_pi hA (j := 22) (by decide), Vq0_pi hA (j := 30) (by decide), Vq0_pl, Vq0_pT, Vq0_pr])
            exact v0
          · (try simp only [Vq1_pi hA (j := 18) (by decide), Vq1_pi hA (j := 22) (by decide), Vq1_pi hA (j := 30) (by decide), Vq1_pl, Vq1_pT, Vq1_pr])
            exact v1
          · (try simp only [Vq2_pi hA (j := 18) (by decide), Vq2_pi hA (j := 22) (by decide), Vq2_pi hA (j := 30) (by decide), Vq2_pl, Vq2_pT, Vq2_pr])
            exact v2
          · (try simp only [Vp_pi hA (j := 18) (by decide), Vp_pi hA (j := 30) (by decide), Vp_thr hA, Vp_pl, Vp_pT, Vp_pr])
            exact vp
          · (try simp only [Vl0_pi hA (j := 18) (by decide), Vl0_pi hA (j := 22) (by decide), Vl0_pi hA (j := 30) (by decide), Vl0_pl, Vl0_pT, Vl0_pr])
            exact vl0
          · (try simp only [Vl1_pi hA (j := 18) (by decide), Vl1_pi hA (j := 22) (by decide), Vl1_pi hA (j := 30) (by decide), Vl1_pl, Vl1_pT, Vl1_pr])
            exact vl1
          · (try simp only [Vlr_pi hA (j := 18) (by decide), Vlr_pi hA (j := 22) (by decide), Vlr_pi hA (j := 30) (by decide), Vlr_pl hA (j := 39) (by decide), Vlr_pT, Vlr_pr])
            exact vlr
          · (try simp only [Vsr_pi hA (j := 18) (by decide), Vsr_pi hA (j := 22) (by decide), Vsr_pi hA (j := 30) (by decide), Vsr_pl hA (j := 39) (by decide), Vsr_pT, Vsr_pr])
            exact vsr
          · (try simp only [Vc_pi hA (j := 22) (by decide), Vc_pl, Vc_pT, Vc_pr])
            exact vc
          · (try simp only [Tx_pi hA (j := 18) (by decide), Tx_pi hA (j := 22) (by decide), Tx_pi hA (j := 30) (by decide), Tx_pl])
            exact Tx_pT ht tx
      · have s1 : ¬ s < 0 := fun z => bs (Or.inl z)
        have s2 : s < 6 := Classical.byContradiction fun z => bs (Or.inr z)
        have hs := ix_ok s1 s2
        have hs2 := hs
        obtain ⟨⟨j0, j1, j2, j3⟩, d01, d02, d03, d10, d12, d13, d20, d21, d23, d30, d31, d32⟩ := hs2
        obtain ⟨l0, l1, l2, l3⟩ := ix_lt hs
        have vs0 := (vsr _ l0).1
        have vs1 := (vsr _ l1).1
        have vs2 := (vsr _ l2).1
        have vs3 := (vsr _ l3).1
        have bs2 : (¬ s < 0 ∧ s < 6) = True := eq_true ⟨s1, s2⟩
        rcases q_cases y1 y2 with rfl | rfl | rfl
        · skip
          simp only [o299_0, o299_2, o299_3, o299_4, o299_5, o299_6, o299_9, o299_10, o299_13, o299_16, o299_18, o299_19, o299_20, o299_22, o299_23, o299_24, o299_25, o67_0, o67_1, o67_2, o67_5, o67_7, o67_8, o67_11, o67_12, o67_15, o67_16, o67_18, o67_21, o67_24, o67_25, o67_28, o67_29, o67_32, o67_33, o67_34, o67_37, o67_39, o67_40, o67_41, o67_42, o67_45, o67_48, o67_51, o67_52, o67_55, o67_56, o67_59, o191_0, o191_1, o191_2, o191_5, o191_8, o191_9, o191_12, o191_15, o191_16, o191_19, o191_20, o191_21, o191_24, o191_25, o191_27, o191_30, o191_31, o191_34, o191_35, o191_38, o191_41, o191_42, o191_43, o191_44, o191_45, o191_46, o191_49, o191_52, o191_53, o191_54, o191_57, o191_58, o191_59, o191_62, o191_63, o191_64, o191_65, o191_68, o191_69, o191_71, o191_72, o191_75, o191_76, o191_77, o191_78, o191_81, o191_82, o191_83, o191_86, o191_87, o191_88, o191_90, o191_91, o191_92, o191_95, o191_96, o191_99, o191_100, o191_103, o191_104, o191_107, hx_299_1, hx_299_2, c_X5_checkSlot, c_X8_isSlot, c_X8_isThrown, c_X8_isThrown_, c_X8_isThrown__, c_X8_isQueue, c_queueOf_bad, c_X5_checkAhead, c_queueOf_0, mc_pi, mc_pl, mc_pr, mc_pN, mc_pT, mc_pC, mn_pi, mn_pl, mn_pr, mn_pN, mn_pT, mn_pC, mi_pi, mi_pl, mi_pr, mi_pN, mi_pT, mi_pC, ml_pi, ml_pl, ml_pr, ml_pN, ml_pT, ml_pC, mr_pi, mr_pl, mr_pr, mr_pN, mr_pT, mr_pC, mt_pi, mt_pl, mt_pr, mt_pN, mt_pT, mt_pC, mz_pi, mz_pl, mz_pr, mz_pN, mz_pT, mz_pC, ma_pi, ma_pl, ma_pr, ma_pN, ma_pT, ma_pC, mcs_0, mcs_i, mcs_l, mcs_r, mcs_n, csum_rf, Kn_v, Kn_0, Kn_x, mrf_some, kok_0, true_and, and_true, false_and, and_false, true_or, or_true, or_false, false_or, not_true_eq_false, not_false_eq_true, true_implies, false_implies, implies_true, forall_const, if_true, if_false, and_self, Nat.reduceEqDiff, Nat.reduceLeDiff, Nat.reduceSub, Nat.reduceAdd, Nat.zero_le, Nat.le_refl, i10, i01, kz0, kz1, eq_self, lt_le, Classical.not_not, Int32.reduceLT, Int32.reduceAdd, Int32.reduceSub, Int32.reduceMul, cl0, cl1, cl2, cl3, cl4, cl5, cl6, cl7, cl8, cl9, cl10, cl11, cl12, cl13, cl14, cl15, cl16, cl17, cl18, cl19, cl20, cl21, cl22, cl23, cl24, cl25, cl26, cl27, cl28, cl29, cl30, cl31, cl32, cl33, cl34, cl35, cl36, cl37, cl38, cl39, lg_cmp_eq, Kc_v, Kc_0, Sum.inl.injEq, Option.some.injEq, Value.int.injEq, exists_eq_left', Nat.reduceLT, hAe, i20, i30, kc0, kc1, kc2, kc3, kc4, kc5, kc6, kc7, kc8, kc9, kc10, kc11, kc12, kc13, kc14, kc15, kc16, kc17, kc18, kc19, kc20, kc21, kc22, kc23, kc24, kc25, kc26, kc27, kc28, kc29, kc30, kc31, kc32, kc33, kc34, kc35, kc36, kc37, kc38, kc39, kn3, kn4, kn18, kn21, kn23, kn24, kn25, kn26, kn27, kn29, kn30, kr0_0, kr0_1, kr0_2, kr0_3, kr0_4, kr0_5, kr0_7, kr0_8, kr0_9, kr0_10, kr1_0, kr2_0, kr5_0, kr5_1, kr6_0, kr6_1, kr7_0, kr7_1, kr8_0, kr9_0, kr10_0, kr11_0, kr12_0, kr13_0, kr14_0, kr15_0, kr16_0, kr17_0, kr19_0, kr19_1, kr22_0, kr22_1, kr22_2, kr22_3, kr22_4, kr22_5, kr22_7, kr22_8, kr25_0, kr25_1, kr25_2, kr26_0, kr26_1, kr26_2, kr29_0, kr29_1, kz, ki5_2, ki6_2, ki7_2, ki8_1, ki8_2, ki8_3, ki9_1, ki9_2, ki9_3, ki10_1, ki10_2, ki10_3, ki11_1, ki11_2, ki11_3, ki12_1, ki12_2, ki12_3, ki13_1, ki13_2, ki13_3, ki14_1, ki14_2, ki14_3, ki28_0, ki28_1, ki31_0, ki31_1, ki32_0, ki32_1, ki33_0, ki33_1, ki34_0, ki34_1, ki35_0, ki35_1, ki36_0, ki36_1, bq0, bqq, vq3, s1, s2, bs2, hs, d01, d02, d03, d10, d12, d13, d20, d21, d23, d30, d31, d32, vs0, vs1, vs2, vs3, i64_inj, i64_back, fo0, fo1, fo2, fo3, nm_eq, bx0, bx9]
          intro t ht
          first | refine ⟨⟨?_, ?_, ?_, ?_, ?_, ?_, ?_, ?_, ?_, ?_, ?_, ?_⟩, rfl⟩ | refine ⟨?_, ?_, ?_, ?_, ?_, ?_, ?_, ?_, ?_, ?_, ?_, ?_⟩
          · (try simp only [K_pi, K_pl, K_pC, K_cW, K_mW])
            exact K_pT ht vk
          · (try simp only [Cn_pi hA (j := 18) (by decide), Cn_pi hA (j := 22) (by decide), Cn_pi hA (j := 30) (by decide), Cn_pl, Cn_pT, Cn_pr])
            exact vcn
          · (try simp only [Vq0_pi hA (j := 18) (by decide), Vq0_pi hA (j := 22) (by decide), Vq0_pi hA (j := 30) (by decide), Vq0_pl, Vq0_pT, Vq0_pr])
            exact v0
          · (try simp only [Vq1_pi hA (j := 18) (by decide), Vq1_pi hA (j := 22) (by decide), Vq1_pi hA (j := 30) (by decide), Vq1_pl, Vq1_pT, Vq1_pr])
            exact v1
          · (try simp only [Vq2_pi hA (j := 18) (by decide), Vq2_pi hA (j := 22) (by decide), Vq2_pi hA (j := 30) (by decide), Vq2_pl, Vq2_pT, Vq2_pr])
            exact v2
          · (try simp only [Vp_pi hA (j := 18) (by decide), Vp_pi hA (j := 30) (by decide), Vp_thr hA, Vp_pl, Vp_pT, Vp_pr])
            exact vp
          · (try simp only [Vl0_pi hA (j := 18) (by decide), Vl0_pi hA (j := 22) (by decide), Vl0_pi hA (j := 30) (by decide), Vl0_pl, Vl0_pT, Vl0_pr])
            exact vl0
          · (try simp only [Vl1_pi hA (j := 18) (by decide), Vl1_pi hA (j := 22) (by decide), Vl1_pi hA (j := 30) (by decide), Vl1_pl, Vl1_pT, Vl1_pr])
            exact vl1
          · (try simp only [Vlr_pi hA (j := 18) (by decide), Vlr_pi hA (j := 22) (by decide), Vlr_pi hA (j := 30) (by decide), Vlr_pl hA (j := 39) (by decide), Vlr_pT, Vlr_pr])
            exact vlr
          · (try simp only [Vsr_pi hA (j := 18) (by decide), Vsr_pi hA (j := 22) (by decide), Vsr_pi hA (j := 30) (by decide), Vsr_pl hA (j := 39) (by decide), Vsr_pT, Vsr_pr])
            exact vsr
          · (try simp only [Vc_pi hA (j := 22) (by decide), Vc_pl, Vc_pT, Vc_pr])
            exact vc
          · (try simp only [Tx_pi hA (j := 18) (by decide), Tx_pi hA (j := 22) (by decide), Tx_pi hA (j := 30) (by decide), Tx_pl])
            exact Tx_pT ht tx
        · skip
          simp only [o299_0, o299_2, o299_3, o299_4, o299_5, o299_6, o299_9, o299_10, o299_13, o299_16, o299_18, o299_19, o299_20, o299_22, o299_23, o299_24, o299_25, o67_0, o67_1, o67_2, o67_5, o67_7, o67_8, o67_11, o67_12, o67_15, o67_16, o67_18, o67_21, o67_24, o67_25, o67_28, o67_29, o67_32, o67_33, o67_34, o67_37, o67_39, o67_40, o67_41, o67_42, o67_45, o67_48, o67_51, o67_52, o67_55, o67_56, o67_59, o191_0, o191_1, o191_2, o191_5, o191_8, o191_9, o191_12, o191_15, o191_16, o191_19, o191_20, o191_21, o191_24, o191_25, o191_27, o191_30, o191_31, o191_34, o191_35, o191_38, o191_41, o191_42, o191_43, o191_44, o191_45, o191_46, o191_49, o191_52, o191_53, o191_54, o191_57, o191_58, o191_59, o191_62, o191_63, o191_64, o191_65, o191_68, o191_69, o191_71, o191_72, o191_75, o191_76, o191_77, o191_78, o191_81, o191_82, o191_83, o191_86, o191_87, o191_88, o191_90, o191_91, o191_92, o191_95, o191_96, o191_99, o191_100, o191_103, o191_104, o191_107, hx_299_1, hx_299_2, c_X5_checkSlot, c_X8_isSlot, c_X8_isThrown, c_X8_isThrown_, c_X8_isThrown__, c_X8_isQueue, c_queueOf_bad, c_X5_checkAhead, c_queueOf_1, mc_pi, mc_pl, mc_pr, mc_pN, mc_pT, mc_pC, mn_pi, mn_pl, mn_pr, mn_pN, mn_pT, mn_pC, mi_pi, mi_pl, mi_pr, mi_pN, mi_pT, mi_pC, ml_pi, ml_pl, ml_pr, ml_pN, ml_pT, ml_pC, mr_pi, mr_pl, mr_pr, mr_pN, mr_pT, mr_pC, mt_pi, mt_pl, mt_pr, mt_pN, mt_pT, mt_pC, mz_pi, mz_pl, mz_pr, mz_pN, mz_pT, mz_pC, ma_pi, ma_pl, ma_pr, ma_pN, ma_pT, ma_pC, mcs_0, mcs_i, mcs_l, mcs_r, mcs_n, csum_rf, Kn_v, Kn_0, Kn_x, mrf_some, kok_0, true_and, and_true, false_and, and_false, true_or, or_true, or_false, false_or, not_true_eq_false, not_false_eq_true, true_implies, false_implies, implies_true, forall_const, if_true, if_false, and_self, Nat.reduceEqDiff, Nat.reduceLeDiff, Nat.reduceSub, Nat.reduceAdd, Nat.zero_le, Nat.le_refl, i10, i01, kz0, kz1, eq_self, lt_le, Classical.not_not, Int32.reduceLT, Int32.reduceAdd, Int32.reduceSub, Int32.reduceMul, cl0, cl1, cl2, cl3, cl4, cl5, cl6, cl7, cl8, cl9, cl10, cl11, cl12, cl13, cl14, cl15, cl16, cl17, cl18, cl19, cl20, cl21, cl22, cl23, cl24, cl25, cl26, cl27, cl28, cl29, cl30, cl31, cl32, cl33, cl34, cl35, cl36, cl37, cl38, cl39, lg_cmp_eq, Kc_v, Kc_0, Sum.inl.injEq, Option.some.injEq, Value.int.injEq, exists_eq_left', Nat.reduceLT, hAe, i20, i30, kc0, kc1, kc2, kc3, kc4, kc5, kc6, kc7, kc8, kc9, kc10, kc11, kc12, kc13, kc14, kc15, kc16, kc17, kc18, kc19, kc20, kc21, kc22, kc23, kc24, kc25, kc26, kc27, kc28, kc29, kc30, kc31, kc32, kc33, kc34, kc35, kc36, kc37, kc38, kc39, kn3, kn4, kn18, kn21, kn23, kn24, kn25, kn26, kn27, kn29, kn30, kr0_0, kr0_1, kr0_2, kr0_3, kr0_4, kr0_5, kr0_7, kr0_8, kr0_9, kr0_10, kr1_0, kr2_0, kr5_0, kr5_1, kr6_0, kr6_1, kr7_0, kr7_1, kr8_0, kr9_0, kr10_0, kr11_0, kr12_0, kr13_0, kr14_0, kr15_0, kr16_0, kr17_0, kr19_0, kr19_1, kr22_0, kr22_1, kr22_2, kr22_3, kr22_4, kr22_5, kr22_7, kr22_8, kr25_0, kr25_1, kr25_2, kr26_0, kr26_1, kr26_2, kr29_0, kr29_1, kz, ki5_2, ki6_2, ki7_2, ki8_1, ki8_2, ki8_3, ki9_1, ki9_2, ki9_3, ki10_1, ki10_2, ki10_3, ki11_1, ki11_2, ki11_3, ki12_1, ki12_2, ki12_3, ki13_1, ki13_2, ki13_3, ki14_1, ki14_2, ki14_3, ki28_0, ki28_1, ki31_0, ki31_1, ki32_0, ki32_1, ki33_0, ki33_1, ki34_0, ki34_1, ki35_0, ki35_1, ki36_0, ki36_1, bq0, bqq, vq3, s1, s2, bs2, hs, d01, d02, d03, d10, d12, d13, d20, d21, d23, d30, d31, d32, vs0, vs1, vs2, vs3, i64_inj, i64_back, fo0, fo1, fo2, fo3, nm_eq, bx0, bx9]
          intro t ht
          first | refine ⟨⟨?_, ?_, ?_, ?_, ?_, ?_, ?_, ?_, ?_, ?_, ?_, ?_⟩, rfl⟩ | refine ⟨?_, ?_, ?_, ?_, ?_, ?_, ?_, ?_, ?_, ?_, ?_, ?_⟩
          · (try simp only [K_pi, K_pl, K_pC, K_cW, K_mW])
            exact K_pT ht vk
          · (try simp only [Cn_pi hA (j := 18) (by decide), Cn_pi hA (j := 22) (by decide), Cn_pi hA (j := 30) (by decide), Cn_pl, Cn_pT, Cn_pr])
            exact vcn
          · (try simp only [Vq0_pi hA (j := 18) (by decide), Vq0_pi hA (j := 22) (by decide), Vq0_pi hA (j := 30) (by decide), Vq0_pl, Vq0_pT, Vq0_pr])
            exact v0
          · (try simp only [Vq1_pi hA (j := 18) (by decide), Vq1_pi hA (j := 22) (by decide), Vq1_pi hA (j := 30) (by decide), Vq1_pl, Vq1_pT, Vq1_pr])
            exact v1
          · (try simp only [Vq2_pi hA (j := 18) (by decide), Vq2_pi hA (j := 22) (by decide), Vq2_pi hA (j := 30) (by decide), Vq2_pl, Vq2_pT, Vq2_pr])
            exact v2
          · (try simp only [Vp_pi hA (j := 18) (by decide), Vp_pi hA (j := 30) (by decide), Vp_thr hA, Vp_pl, Vp_pT, Vp_pr])
            exact vp
          · (try simp only [Vl0_pi hA (j := 18) (by decide), Vl0_pi hA (j := 22) (by decide), Vl0_pi hA (j := 30) (by decide), Vl0_pl, Vl0_pT, Vl0_pr])
            exact vl0
          · (try simp only [Vl1_pi hA (j := 18) (by decide), Vl1_pi hA (j := 22) (by decide), Vl1_pi hA (j := 30) (by decide), Vl1_pl, Vl1_pT, Vl1_pr])
            exact vl1
          · (try simp only [Vlr_pi hA (j := 18) (by decide), Vlr_pi hA (j := 22) (by decide), Vlr_pi hA (j := 30) (by decide), Vlr_pl hA (j := 39) (by decide), Vlr_pT, Vlr_pr])
            exact vlr
          · (try simp only [Vsr_pi hA (j := 18) (by decide), Vsr_pi hA (j := 22) (by decide), Vsr_pi hA (j := 30) (by decide), Vsr_pl hA (j := 39) (by decide), Vsr_pT, Vsr_pr])
            exact vsr
          · (try simp only [Vc_pi hA (j := 22) (by decide), Vc_pl, Vc_pT, Vc_pr])
            exact vc
          · (try simp only [Tx_pi hA (j := 18) (by decide), Tx_pi hA (j := 22) (by decide), Tx_pi hA (j := 30) (by decide), Tx_pl])
            exact Tx_pT ht tx
        · skip
          simp only [o299_0, o299_2, o299_3, o299_4, o299_5, o299_6, o299_9, o299_10, o299_13, o299_16, o299_18, o299_19, o299_20, o299_22, o299_23, o299_24, o299_25, o67_0, o67_1, o67_2, o67_5, o67_7, o67_8, o67_11, o67_12, o67_15, o67_16, o67_18, o67_21, o67_24, o67_25, o67_28, o67_29, o67_32, o67_33, o67_34, o67_37, o67_39, o67_40, o67_41, o67_42, o67_45, o67_48, o67_51, o67_52, o67_55, o67_56, o67_59, o191_0, o191_1, o191_2, o191_5, o191_8, o191_9, o191_12, o191_15, o191_16, o191_19, o191_20, o191_21, o191_24, o191_25, o191_27, o191_30, o191_31, o191_34, o191_35, o191_38, o191_41, o191_42, o191_43, o191_44, o191_45, o191_46, o191_49, o191_52, o191_53, o191_54, o191_57, o191_58, o191_59, o191_62, o191_63, o191_64, o191_65, o191_68, o191_69, o191_71, o191_72, o191_75, o191_76, o191_77, o191_78, o191_81, o191_82, o191_83, o191_86, o191_87, o191_88, o191_90, o191_91, o191_92, o191_95, o191_96, o191_99, o191_100, o191_103, o191_104, o191_107, hx_299_1, hx_299_2, c_X5_checkSlot, c_X8_isSlot, c_X8_isThrown, c_X8_isThrown_, c_X8_isThrown__, c_X8_isQueue, c_queueOf_bad, c_X5_checkAhead, c_queueOf_2, mc_pi, mc_pl, mc_pr, mc_pN, mc_pT, mc_pC, mn_pi, mn_pl, mn_pr, mn_pN, mn_pT, mn_pC, mi_pi, mi_pl, mi_pr, mi_pN, mi_pT, mi_pC, ml_pi, ml_pl, ml_pr, ml_pN, ml_pT, ml_pC, mr_pi, mr_pl, mr_pr, mr_pN, mr_pT, mr_pC, mt_pi, mt_pl, mt_pr, mt_pN, mt_pT, mt_pC, mz_pi, mz_pl, mz_pr, mz_pN, mz_pT, mz_pC, ma_pi, ma_pl, ma_pr, ma_pN, ma_pT, ma_pC, mcs_0, mcs_i, mcs_l, mcs_r, mcs_n, csum_rf, Kn_v, Kn_0, Kn_x, mrf_some, kok_0, true_and, and_true, false_and, and_false, true_or, or_true, or_false, false_or, not_true_eq_false, not_false_eq_true, true_implies, false_implies, implies_true, forall_const, if_true, if_false, and_self, Nat.reduceEqDiff, Nat.reduceLeDiff, Nat.reduceSub, Nat.reduceAdd, Nat.zero_le, Nat.le_refl, i10, i01, kz0, kz1, eq_self, lt_le, Classical.not_not, Int32.reduceLT, Int32.reduceAdd, Int32.reduceSub, Int32.reduceMul, cl0, cl1, cl2, cl3, cl4, cl5, cl6, cl7, cl8, cl9, cl10, cl11, cl12, cl13, cl14, cl15, cl16, cl17, cl18, cl19, cl20, cl21, cl22, cl23, cl24, cl25, cl26, cl27, cl28, cl29, cl30, cl31, cl32, cl33, cl34, cl35, cl36, cl37, cl38, cl39, lg_cmp_eq, Kc_v, Kc_0, Sum.inl.injEq, Option.some.injEq, Value.int.injEq, exists_eq_left', Nat.reduceLT, hAe, i20, i30, kc0, kc1, kc2, kc3, kc4, kc5, kc6, kc7, kc8, kc9, kc10, kc11, kc12, kc13, kc14, kc15, kc16, kc17, kc18, kc19, kc20, kc21, kc22, kc23, kc24, kc25, kc26, kc27, kc28, kc29, kc30, kc31, kc32, kc33, kc34, kc35, kc36, kc37, kc38, kc39, kn3, kn4, kn18, kn21, kn23, kn24, kn25, kn26, kn27, kn29, kn30, kr0_0, kr0_1, kr0_2, kr0_3, kr0_4, kr0_5, kr0_7, kr0_8, kr0_9, kr0_10, kr1_0, kr2_0, kr5_0, kr5_1, kr6_0, kr6_1, kr7_0, kr7_1, kr8_0, kr9_0, kr10_0, kr11_0, kr12_0, kr13_0, kr14_0, kr15_0, kr16_0, kr17_0, kr19_0, kr19_1, kr22_0, kr22_1, kr22_2, kr22_3, kr22_4, kr22_5, kr22_7, kr22_8, kr25_0, kr25_1, kr25_2, kr26_0, kr26_1, kr26_2, kr29_0, kr29_1, kz, ki5_2, ki6_2, ki7_2, ki8_1, ki8_2, ki8_3, ki9_1, ki9_2, ki9_3, ki10_1, ki10_2, ki10_3, ki11_1, ki11_2, ki11_3, ki12_1, ki12_2, ki12_3, ki13_1, ki13_2, ki13_3, ki14_1, ki14_2, ki14_3, ki28_0, ki28_1, ki31_0, ki31_1, ki32_0, ki32_1, ki33_0, ki33_1, ki34_0, ki34_1, ki35_0, ki35_1, ki36_0, ki36_1, bq0, bqq, vq3, s1, s2, bs2, hs, d01, d02, d03, d10, d12, d13, d20, d21, d23, d30, d31, d32, vs0, vs1, vs2, vs3, i64_inj, i64_back, fo0, fo1, fo2, fo3, nm_eq, bx0, bx9]
          intro t ht
          first | refine ⟨⟨?_, ?_, ?_, ?_, ?_, ?_, ?_, ?_, ?_, ?_, ?_, ?_⟩, rfl⟩ | refine ⟨?_, ?_, ?_, ?_, ?_, ?_, ?_, ?_, ?_, ?_, ?_, ?_⟩
          · (try simp only [K_pi, K_pl, K_pC, K_cW, K_mW])
            exact K_pT ht vk
          · (try simp only [Cn_pi hA (j := 18) (by decide), Cn_pi hA (j := 22) (by decide), Cn_pi hA (j := 30) (by decide), Cn_pl, Cn_pT, Cn_pr])
            exact vcn
          · (try simp only [Vq0_pi hA (j := 18) (by decide), Vq0_pi hA (j := 22) (by decide), Vq0_pi hA (j := 30) (by decide), Vq0_pl, Vq0_pT, Vq0_pr])
            exact v0
          · (try simp only [Vq1_pi hA (j := 18) (by decide), Vq1_pi hA (j := 22) (by decide), Vq1_pi hA (j := 30) (by decide), Vq1_pl, Vq1_pT, Vq1_pr])
            exact v1
          · (try simp only [Vq2_pi hA (j := 18) (by decide), Vq2_pi hA (j := 22) (by decide), Vq2_pi hA (j := 30) (by decide), Vq2_pl, Vq2_pT, Vq2_pr])
            exact v2
          · (try simp only [Vp_pi hA (j := 18) (by decide), Vp_pi hA (j := 30) (by decide), Vp_thr hA, Vp_pl, Vp_pT, Vp_pr])
            exact vp
          · (try simp only [Vl0_pi hA (j := 18) (by decide), Vl0_pi hA (j := 22) (by decide), Vl0_pi hA (j := 30) (by decide), Vl0_pl, Vl0_pT, Vl0_pr])
            exact vl0
          · (try simp only [Vl1_pi hA (j := 18) (by decide), Vl1_pi hA (j := 22) (by decide), Vl1_pi hA (j := 30) (by decide), Vl1_pl, Vl1_pT, Vl1_pr])
            exact vl1
          · (try simp only [Vlr_pi hA (j := 18) (by decide), Vlr_pi hA (j := 22) (by decide), Vlr_pi hA (j := 30) (by decide), Vlr_pl hA (j := 39) (by decide), Vlr_pT, Vlr_pr])
            exact vlr
          · (try simp only [Vsr_pi hA (j := 18) (by decide), Vsr_pi hA (j := 22) (by decide), Vsr_pi hA (j := 30) (by decide), Vsr_pl hA (j := 39) (by decide), Vsr_pT, Vsr_pr])
            exact vsr
          · (try simp only [Vc_pi hA (j := 22) (by decide), Vc_pl, Vc_pT, Vc_pr])
            exact vc
          · (try simp only [Tx_pi hA (j := 18) (by decide), Tx_pi hA (j := 22) (by decide), Tx_pi hA (j := 30) (by decide), Tx_pl])
            exact Tx_pT ht tx
  · by_cases bq : q < 0 ∨ ¬ q < 3
    · have bq2 : (¬ q < 0 ∧ q < 3) = False := nrng bq
      by_cases bs : (¬ s < 0 ∧ s < 6)
      all_goals
        simp only [o299_0, o299_2, o299_3, o299_4, o299_5, o299_6, o299_9, o299_10, o299_13, o299_16, o299_18, o299_19, o299_20, o299_22, o299_23, o299_24, o299_25, o67_0, o67_1, o67_2, o67_5, o67_7, o67_8, o67_11, o67_12, o67_15, o67_16, o67_18, o67_21, o67_24, o67_25, o67_28, o67_29, o67_32, o67_33, o67_34, o67_37, o67_39, o67_40, o67_41, o67_42, o67_45, o67_48, o67_51, o67_52, o67_55, o67_56, o67_59, o191_0, o191_1, o191_2, o191_5, o191_8, o191_9, o191_12, o191_15, o191_16, o191_19, o191_20, o191_21, o191_24, o191_25, o191_27, o191_30, o191_31, o191_34, o191_35, o191_38, o191_41, o191_42, o191_43, o191_44, o191_45, o191_46, o191_49, o191_52, o191_53, o191_54, o191_57, o191_58, o191_59, o191_62, o191_63, o191_64, o191_65, o191_68, o191_69, o191_71, o191_72, o191_75, o191_76, o191_77, o191_78, o191_81, o191_82, o191_83, o191_86, o191_87, o191_88, o191_90, o191_91, o191_92, o191_95, o191_96, o191_99, o191_100, o191_103, o191_104, o191_107, hx_299_1, hx_299_2, c_X5_checkSlot, c_X8_isSlot, c_X8_isThrown, c_X8_isThrown_, c_X8_isThrown__, c_X8_isQueue, c_queueOf_bad, c_X5_checkAhead, mc_pi, mc_pl, mc_pr, mc_pN, mc_pT, mc_pC, mn_pi, mn_pl, mn_pr, mn_pN, mn_pT, mn_pC, mi_pi, mi_pl, mi_pr, mi_pN, mi_pT, mi_pC, ml_pi, ml_pl, ml_pr, ml_pN, ml_pT, ml_pC, mr_pi, mr_pl, mr_pr, mr_pN, mr_pT, mr_pC, mt_pi, mt_pl, mt_pr, mt_pN, mt_pT, mt_pC, mz_pi, mz_pl, mz_pr, mz_pN, mz_pT, mz_pC, ma_pi, ma_pl, ma_pr, ma_pN, ma_pT, ma_pC, mcs_0, mcs_i, mcs_l, mcs_r, mcs_n, csum_rf, Kn_v, Kn_0, Kn_x, mrf_some, kok_0, true_and, and_true, false_and, and_false, true_or, or_true, or_false, false_or, not_true_eq_false, not_false_eq_true, true_implies, false_implies, implies_true, forall_const, if_true, if_false, and_self, Nat.reduceEqDiff, Nat.reduceLeDiff, Nat.reduceSub, Nat.reduceAdd, Nat.zero_le, Nat.le_refl, i10, i01, kz0, kz1, eq_self, lt_le, Classical.not_not, Int32.reduceLT, Int32.reduceAdd, Int32.reduceSub, Int32.reduceMul, cl0, cl1, cl2, cl3, cl4, cl5, cl6, cl7, cl8, cl9, cl10, cl11, cl12, cl13, cl14, cl15, cl16, cl17, cl18, cl19, cl20, cl21, cl22, cl23, cl24, cl25, cl26, cl27, cl28, cl29, cl30, cl31, cl32, cl33, cl34, cl35, cl36, cl37, cl38, cl39, lg_cmp_eq, Kc_v, Kc_0, Sum.inl.injEq, Option.some.injEq, Value.int.injEq, exists_eq_left', Nat.reduceLT, hAe, i20, i30, kc0, kc1, kc2, kc3, kc4, kc5, kc6, kc7, kc8, kc9, kc10, kc11, kc12, kc13, kc14, kc15, kc16, kc17, kc18, kc19, kc20, kc21, kc22, kc23, kc24, kc25, kc26, kc27, kc28, kc29, kc30, kc31, kc32, kc33, kc34, kc35, kc36, kc37, kc38, kc39, kn3, kn4, kn18, kn21, kn23, kn24, kn25, kn26, kn27, kn29, kn30, kr0_0, kr0_1, kr0_2, kr0_3, kr0_4, kr0_5, kr0_7, kr0_8, kr0_9, kr0_10, kr1_0, kr2_0, kr5_0, kr5_1, kr6_0, kr6_1, kr7_0, kr7_1, kr8_0, kr9_0, kr10_0, kr11_0, kr12_0, kr13_0, kr14_0, kr15_0, kr16_0, kr17_0, kr19_0, kr19_1, kr22_0, kr22_1, kr22_2, kr22_3, kr22_4, kr22_5, kr22_7, kr22_8, kr25_0, kr25_1, kr25_2, kr26_0, kr26_1, kr26_2, kr29_0, kr29_1, kz, ki5_2, ki6_2, ki7_2, ki8_1, ki8_2, ki8_3, ki9_1, ki9_2, ki9_3, ki10_1, ki10_2, ki10_3, ki11_1, ki11_2, ki11_3, ki12_1, ki12_2, ki12_3, ki13_1, ki13_2, ki13_3, ki14_1, ki14_2, ki14_3, ki28_0, ki28_1, ki31_0, ki31_1, ki32_0, ki32_1, ki33_0, ki33_1, ki34_0, ki34_1, ki35_0, ki35_1, ki36_0, ki36_1, bq, bq2, bs, bx0, bx9]
        intro t ht
        first | refine ⟨⟨?_, ?_, ?_, ?_, ?_, ?_, ?_, ?_, ?_, ?_, ?_, ?_⟩, rfl⟩ | refine ⟨?_, ?_, ?_, ?_, ?_, ?_, ?_, ?_, ?_, ?_, ?_, ?_⟩
        · (try simp only [K_pi, K_pl, K_pC, K_cW, K_mW])
          exact K_pT ht vk
        · (try simp only [Cn_pi hA (j := 18) (by decide), Cn_pi hA (j := 22) (by decide), Cn_pi hA (j := 30) (by decide), Cn_pl, Cn_pT, Cn_pr])
          exact vcn
        · (try simp only [Vq0_pi hA (j := 18) (by decide), Vq0_pi hA (j := 22) (by decide), Vq0_pi hA (j := 30) (by decide), Vq0_pl, Vq0_pT, Vq0_pr])
          exact v0
        · (try simp only [Vq1_pi hA (j := 18) (by decide), Vq1_pi hA (j := 22) (by decide), Vq1_pi hA (j := 30) (by decide), Vq1_pl, Vq1_pT, Vq1_pr])
          exact v1
        · (try simp only [Vq2_pi hA (j := 18) (by decide), Vq2_pi hA (j := 22) (by decide), Vq2_pi hA (j := 30) (by decide), Vq2_pl, Vq2_pT, Vq2_pr])
          exact v2
        · (try simp only [Vp_pi hA (j := 18) (by decide), Vp_pi hA (j := 30) (by decide), Vp_thr hA, Vp_pl, Vp_pT, Vp_pr])
          exact vp
        · (try simp only [Vl0_pi hA (j := 18) (by decide), Vl0_pi hA (j := 22) (by decide), Vl0_pi hA (j := 30) (by decide), Vl0_pl, Vl0_pT, Vl0_pr])
          exact vl0
        · (try simp only [Vl1_pi hA (j := 18) (by decide), Vl1_pi hA (j := 22) (by decide), Vl1_pi hA (j := 30) (by decide), Vl1_pl, Vl1_pT, Vl1_pr])
          exact vl1
        · (try simp only [Vlr_pi hA (j := 18) (by decide), Vlr_pi hA (j := 22) (by decide), Vlr_pi hA (j := 30) (by decide), Vlr_pl hA (j := 39) (by decide), Vlr_pT, Vlr_pr])
          exact vlr
        · (try simp only [Vsr_pi hA (j := 18) (by decide), Vsr_pi hA (j := 22) (by decide), Vsr_pi hA (j := 30) (by decide), Vsr_pl hA (j := 39) (by decide), Vsr_pT, Vsr_pr])
          exact vsr
        · (try simp only [Vc_pi hA (j := 22) (by decide), Vc_pl, Vc_pT, Vc_pr])
          exact vc
        · (try simp only [Tx_pi hA (j := 18) (by decide), Tx_pi hA (j := 22) (by decide), Tx_pi hA (j := 30) (by decide), Tx_pl])
          exact Tx_pT ht tx
    · have y1 : ¬ q < 0 := fun z => bq (Or.inl z)
      have y2 : q < 3 := Classical.byContradiction fun z => bq (Or.inr z)
      have bq2 : (¬ q < 0 ∧ q < 3) = True := eq_true ⟨y1, y2⟩
      by_cases bs : s < 0 ∨ ¬ s < 6
      · have bs2 : (¬ s < 0 ∧ s < 6) = False := nrng bs
        rcases q_cases y1 y2 with rfl | rfl | rfl
        · skip
          simp only [o299_0, o299_2, o299_3, o299_4, o299_5, o299_6, o299_9, o299_10, o299_13, o299_16, o299_18, o299_19, o299_20, o299_22, o299_23, o299_24, o299_25, o67_0, o67_1, o67_2, o67_5, o67_7, o67_8, o67_11, o67_12, o67_15, o67_16, o67_18, o67_21, o67_24, o67_25, o67_28, o67_29, o67_32, o67_33, o67_34, o67_37, o67_39, o67_40, o67_41, o67_42, o67_45, o67_48, o67_51, o67_52, o67_55, o67_56, o67_59, o191_0, o191_1, o191_2, o191_5, o191_8, o191_9, o191_12, o191_15, o191_16, o191_19, o191_20, o191_21, o191_24, o191_25, o191_27, o191_30, o191_31, o191_34, o191_35, o191_38, o191_41, o191_42, o191_43, o191_44, o191_45, o191_46, o191_49, o191_52, o191_53, o191_54, o191_57, o191_58, o191_59, o191_62, o191_63, o191_64, o191_65, o191_68, o191_69, o191_71, o191_72, o191_75, o191_76, o191_77, o191_78, o191_81, o191_82, o191_83, o191_86, o191_87, o191_88, o191_90, o191_91, o191_92, o191_95, o191_96, o191_99, o191_100, o191_103, o191_104, o191_107, hx_299_1, hx_299_2, c_X5_checkSlot, c_X8_isSlot, c_X8_isThrown, c_X8_isThrown_, c_X8_isThrown__, c_X8_isQueue, c_queueOf_bad, c_X5_checkAhead, c_queueOf_0, mc_pi, mc_pl, mc_pr, mc_pN, mc_pT, mc_pC, mn_pi, mn_pl, mn_pr, mn_pN, mn_pT, mn_pC, mi_pi, mi_pl, mi_pr, mi_pN, mi_pT, mi_pC, ml_pi, ml_pl, ml_pr, ml_pN, ml_pT, ml_pC, mr_pi, mr_pl, mr_pr, mr_pN, mr_pT, mr_pC, mt_pi, mt_pl, mt_pr, mt_pN, mt_pT, mt_pC, mz_pi, mz_pl, mz_pr, mz_pN, mz_pT, mz_pC, ma_pi, ma_pl, ma_pr, ma_pN, ma_pT, ma_pC, mcs_0, mcs_i, mcs_l, mcs_r, mcs_n, csum_rf, Kn_v, Kn_0, Kn_x, mrf_some, kok_0, true_and, and_true, false_and, and_false, true_or, or_true, or_false, false_or, not_true_eq_false, not_false_eq_true, true_implies, false_implies, implies_true, forall_const, if_true, if_false, and_self, Nat.reduceEqDiff, Nat.reduceLeDiff, Nat.reduceSub, Nat.reduceAdd, Nat.zero_le, Nat.le_refl, i10, i01, kz0, kz1, eq_self, lt_le, Classical.not_not, Int32.reduceLT, Int32.reduceAdd, Int32.reduceSub, Int32.reduceMul, cl0, cl1, cl2, cl3, cl4, cl5, cl6, cl7, cl8, cl9, cl10, cl11, cl12, cl13, cl14, cl15, cl16, cl17, cl18, cl19, cl20, cl21, cl22, cl23, cl24, cl25, cl26, cl27, cl28, cl29, cl30, cl31, cl32, cl33, cl34, cl35, cl36, cl37, cl38, cl39, lg_cmp_eq, Kc_v, Kc_0, Sum.inl.injEq, Option.some.injEq, Value.int.injEq, exists_eq_left', Nat.reduceLT, hAe, i20, i30, kc0, kc1, kc2, kc3, kc4, kc5, kc6, kc7, kc8, kc9, kc10, kc11, kc12, kc13, kc14, kc15, kc16, kc17, kc18, kc19, kc20, kc21, kc22, kc23, kc24, kc25, kc26, kc27, kc28, kc29, kc30, kc31, kc32, kc33, kc34, kc35, kc36, kc37, kc38, kc39, kn3, kn4, kn18, kn21, kn23, kn24, kn25, kn26, kn27, kn29, kn30, kr0_0, kr0_1, kr0_2, kr0_3, kr0_4, kr0_5, kr0_7, kr0_8, kr0_9, kr0_10, kr1_0, kr2_0, kr5_0, kr5_1, kr6_0, kr6_1, kr7_0, kr7_1, kr8_0, kr9_0, kr10_0, kr11_0, kr12_0, kr13_0, kr14_0, kr15_0, kr16_0, kr17_0, kr19_0, kr19_1, kr22_0, kr22_1, kr22_2, kr22_3, kr22_4, kr22_5, kr22_7, kr22_8, kr25_0, kr25_1, kr25_2, kr26_0, kr26_1, kr26_2, kr29_0, kr29_1, kz, ki5_2, ki6_2, ki7_2, ki8_1, ki8_2, ki8_3, ki9_1, ki9_2, ki9_3, ki10_1, ki10_2, ki10_3, ki11_1, ki11_2, ki11_3, ki12_1, ki12_2, ki12_3, ki13_1, ki13_2, ki13_3, ki14_1, ki14_2, ki14_3, ki28_0, ki28_1, ki31_0, ki31_1, ki32_0, ki32_1, ki33_0, ki33_1, ki34_0, ki34_1, ki35_0, ki35_1, ki36_0, ki36_1, bq0, bqq, vq3, bs, bs2, bx0, bx9]
          intro t ht
          first | refine ⟨⟨?_, ?_, ?_, ?_, ?_, ?_, ?_, ?_, ?_, ?_, ?_, ?_⟩, rfl⟩ | refine ⟨?_, ?_, ?_, ?_, ?_, ?_, ?_, ?_, ?_, ?_, ?_, ?_⟩
          · (try simp only [K_pi, K_pl, K_pC, K_cW, K_mW])
            exact K_pT ht vk
          · (try simp only [Cn_pi hA (j := 18) (by decide), Cn_pi hA (j := 22) (by decide), Cn_pi hA (j := 30) (by decide), Cn_pl, Cn_pT, Cn_pr])
            exact vcn
          · (try simp only [Vq0_pi hA (j := 18) (by decide), Vq0_pi hA (j := 22) (by decide), Vq0_pi hA (j := 30) (by decide), Vq0_pl, Vq0_pT, Vq0_pr])
            exact v0
          · (try simp only [Vq1_pi hA (j := 18) (by decide), Vq1_pi hA (j := 22) (by decide), Vq1_pi hA (j := 30) (by decide), Vq1_pl, Vq1_pT, Vq1_pr])
            exact v1
          · (try simp only [Vq2_pi hA (j := 18) (by decide), Vq2_pi hA (j := 22) (by decide), Vq2_pi hA (j := 30) (by decide), Vq2_pl, Vq2_pT, Vq2_pr])
            exact v2
          · (try simp only [Vp_pi hA (j := 18) (by decide), Vp_pi hA (j := 30) (by decide), Vp_thr hA, Vp_pl, Vp_pT, Vp_pr])
            exact vp
          · (try simp only [Vl0_pi hA (j := 18) (by decide), Vl0_pi hA (j := 22) (by decide), Vl0_pi hA (j := 30) (by decide), Vl0_pl, Vl0_pT, Vl0_pr])
            exact vl0
          · (try simp only [Vl1_pi hA (j := 18) (by decide), Vl1_pi hA (j := 22) (by decide), Vl1_pi hA (j := 30) (by decide), Vl1_pl, Vl1_pT, Vl1_pr])
            exact vl1
          · (try simp only [Vlr_pi hA (j := 18) (by decide), Vlr_pi hA (j := 22) (by decide), Vlr_pi hA (j := 30) (by decide), Vlr_pl hA (j := 39) (by decide), Vlr_pT, Vlr_pr])
            exact vlr
          · (try simp only [Vsr_pi hA (j := 18) (by decide), Vsr_pi hA (j := 22) (by decide), Vsr_pi hA (j := 30) (by decide), Vsr_pl hA (j := 39) (by decide), Vsr_pT, Vsr_pr])
            exact vsr
          · (try simp only [Vc_pi hA (j := 22) (by decide), Vc_pl, Vc_pT, Vc_pr])
            exact vc
          · (try simp only [Tx_pi hA (j := 18) (by decide), Tx_pi hA (j := 22) (by decide), Tx_pi hA (j := 30) (by decide), Tx_pl])
            exact Tx_pT ht tx
        · skip
          simp only [o299_0, o299_2, o299_3, o299_4, o299_5, o299_6, o299_9, o299_10, o299_13, o299_16, o299_18, o299_19, o299_20, o299_22, o299_23, o299_24, o299_25, o67_0, o67_1, o67_2, o67_5, o67_7, o67_8, o67_11, o67_12, o67_15, o67_16, o67_18, o67_21, o67_24, o67_25, o67_28, o67_29, o67_32, o67_33, o67_34, o67_37, o67_39, o67_40, o67_41, o67_42, o67_45, o67_48, o67_51, o67_52, o67_55, o67_56, o67_59, o191_0, o191_1, o191_2, o191_5, o191_8, o191_9, o191_12, o191_15, o191_16, o191_19, o191_20, o191_21, o191_24, o191_25, o191_27, o191_30, o191_31, o191_34, o191_35, o191_38, o191_41, o191_42, o191_43, o191_44, o191_45, o191_46, o191_49, o191_52, o191_53, o191_54, o191_57, o191_58, o191_59, o191_62, o191_63, o191_64, o191_65, o191_68, o191_69, o191_71, o191_72, o191_75, o191_76, o191_77, o191_78, o191_81, o191_82, o191_83, o191_86, o191_87, o191_88, o191_90, o191_91, o191_92, o191_95, o191_96, o191_99, o191_100, o191_103, o191_104, o191_107, hx_299_1, hx_299_2, c_X5_checkSlot, c_X8_isSlot, c_X8_isThrown, c_X8_isThrown_, c_X8_isThrown__, c_X8_isQueue, c_queueOf_bad, c_X5_checkAhead, c_queueOf_1, mc_pi, mc_pl, mc_pr, mc_pN, mc_pT, mc_pC, mn_pi, mn_pl, mn_pr, mn_pN, mn_pT, mn_pC, mi_pi, mi_pl, mi_pr, mi_pN, mi_pT, mi_pC, ml_pi, ml_pl, ml_pr, ml_pN, ml_pT, ml_pC, mr_pi, mr_pl, mr_pr, mr_pN, mr_pT, mr_pC, mt_pi, mt_pl, mt_pr, mt_pN, mt_pT, mt_pC, mz_pi, mz_pl, mz_pr, mz_pN, mz_pT, mz_pC, ma_pi, ma_pl, ma_pr, ma_pN, ma_pT, ma_pC, mcs_0, mcs_i, mcs_l, mcs_r, mcs_n, csum_rf, Kn_v, Kn_0, Kn_x, mrf_some, kok_0, true_and, and_true, false_and, and_false, true_or, or_true, or_false, false_or, not_true_eq_false, not_false_eq_true, true_implies, false_implies, implies_true, forall_const, if_true, if_false, and_self, Nat.reduceEqDiff, Nat.reduceLeDiff, Nat.reduceSub, Nat.reduceAdd, Nat.zero_le, Nat.le_refl, i10, i01, kz0, kz1, eq_self, lt_le, Classical.not_not, Int32.reduceLT, Int32.reduceAdd, Int32.reduceSub, Int32.reduceMul, cl0, cl1, cl2, cl3, cl4, cl5, cl6, cl7, cl8, cl9, cl10, cl11, cl12, cl13, cl14, cl15, cl16, cl17, cl18, cl19, cl20, cl21, cl22, cl23, cl24, cl25, cl26, cl27, cl28, cl29, cl30, cl31, cl32, cl33, cl34, cl35, cl36, cl37, cl38, cl39, lg_cmp_eq, Kc_v, Kc_0, Sum.inl.injEq, Option.some.injEq, Value.int.injEq, exists_eq_left', Nat.reduceLT, hAe, i20, i30, kc0, kc1, kc2, kc3, kc4, kc5, kc6, kc7, kc8, kc9, kc10, kc11, kc12, kc13, kc14, kc15, kc16, kc17, kc18, kc19, kc20, kc21, kc22, kc23, kc24, kc25, kc26, kc27, kc28, kc29, kc30, kc31, kc32, kc33, kc34, kc35, kc36, kc37, kc38, kc39, kn3, kn4, kn18, kn21, kn23, kn24, kn25, kn26, kn27, kn29, kn30, kr0_0, kr0_1, kr0_2, kr0_3, kr0_4, kr0_5, kr0_7, kr0_8, kr0_9, kr0_10, kr1_0, kr2_0, kr5_0, kr5_1, kr6_0, kr6_1, kr7_0, kr7_1, kr8_0, kr9_0, kr10_0, kr11_0, kr12_0, kr13_0, kr14_0, kr15_0, kr16_0, kr17_0, kr19_0, kr19_1, kr22_0, kr22_1, kr22_2, kr22_3, kr22_4, kr22_5, kr22_7, kr22_8, kr25_0, kr25_1, kr25_2, kr26_0, kr26_1, kr26_2, kr29_0, kr29_1, kz, ki5_2, ki6_2, ki7_2, ki8_1, ki8_2, ki8_3, ki9_1, ki9_2, ki9_3, ki10_1, ki10_2, ki10_3, ki11_1, ki11_2, ki11_3, ki12_1, ki12_2, ki12_3, ki13_1, ki13_2, ki13_3, ki14_1, ki14_2, ki14_3, ki28_0, ki28_1, ki31_0, ki31_1, ki32_0, ki32_1, ki33_0, ki33_1, ki34_0, ki34_1, ki35_0, ki35_1, ki36_0, ki36_1, bq0, bqq, vq3, bs, bs2, bx0, bx9]
          intro t ht
          first | refine ⟨⟨?_, ?_, ?_, ?_, ?_, ?_, ?_, ?_, ?_, ?_, ?_, ?_⟩, rfl⟩ | refine ⟨?_, ?_, ?_, ?_, ?_, ?_, ?_, ?_, ?_, ?_, ?_, ?_⟩
          · (try simp only [K_pi, K_pl, K_pC, K_cW, K_mW])
            exact K_pT ht vk
          · (try simp only [Cn_pi hA (j := 18) (by decide), Cn_pi hA (j := 22) (by decide), Cn_pi hA (j := 30) (by decide), Cn_pl, Cn_pT, Cn_pr])
            exact vcn
          · (try simp only [Vq0_pi hA (j := 18) (by decide), Vq0_pi hA (j := 22) (by decide), Vq0_pi hA (j := 30) (by decide), Vq0_pl, Vq0_pT, Vq0_pr])
            exact v0
          · (try simp only [Vq1_pi hA (j := 18) (by decide), Vq1_pi hA (j := 22) (by decide), Vq1_pi hA (j := 30) (by decide), Vq1_pl, Vq1_pT, Vq1_pr])
            exact v1
          · (try simp only [Vq2_pi hA (j := 18) (by decide), Vq2_pi hA (j := 22) (by decide), Vq2_pi hA (j := 30) (by decide), Vq2_pl, Vq2_pT, Vq2_pr])
            exact v2
          · (try simp only [Vp_pi hA (j := 18) (by decide), Vp_pi hA (j := 30) (by decide), Vp_thr hA, Vp_pl, Vp_pT, Vp_pr])
            exact vp
          · (try simp only [Vl0_pi hA (j := 18) (by decide), Vl0_pi hA (j := 22) (by decide), Vl0_pi hA (j := 30) (by decide), Vl0_pl, Vl0_pT, Vl0_pr])
            exact vl0
          · (try simp only [Vl1_pi hA (j := 18) (by decide), Vl1_pi hA (j := 22) (by decide), Vl1_pi hA (j := 30) (by decide), Vl1_pl, Vl1_pT, Vl1_pr])
            exact vl1
          · (try simp only [Vlr_pi hA (j := 18) (by decide), Vlr_pi hA (j := 22) (by decide), Vlr_pi hA (j := 30) (by decide), Vlr_pl hA (j := 39) (by decide), Vlr_pT, Vlr_pr])
            exact vlr
          · (try simp only [Vsr_pi hA (j := 18) (by decide), Vsr_pi hA (j := 22) (by decide), Vsr_pi hA (j := 30) (by decide), Vsr_pl hA (j := 39) (by decide), Vsr_pT, Vsr_pr])
            exact vsr
          · (try simp only [Vc_pi hA (j := 22) (by decide), Vc_pl, Vc_pT, Vc_pr])
            exact vc
          · (try simp only [Tx_pi hA (j := 18) (by decide), Tx_pi hA (j := 22) (by decide), Tx_pi hA (j := 30) (by decide), Tx_pl])
            exact Tx_pT ht tx
        · skip
          simp only [o299_0, o299_2, o299_3, o299_4, o299_5, o299_6, o299_9, o299_10, o299_13, o299_16, o299_18, o299_19, o299_20, o299_22, o299_23, o299_24, o299_25, o67_0, o67_1, o67_2, o67_5, o67_7, o67_8, o67_11, o67_12, o67_15, o67_16, o67_18, o67_21, o67_24, o67_25, o67_28, o67_29, o67_32, o67_33, o67_34, o67_37, o67_39, o67_40, o67_41, o67_42, o67_45, o67_48, o67_51, o67_52, o67_55, o67_56, o67_59, o191_0, o191_1, o191_2, o191_5, o191_8, o191_9, o191_12, o191_15, o191_16, o191_19, o191_20, o191_21, o191_24, o191_25, o191_27, o191_30, o191_31, o191_34, o191_35, o191_38, o191_41, o191_42, o191_43, o191_44, o191_45, o191_46, o191_49, o191_52, o191_53, o191_54, o191_57, o191_58, o191_59, o191_62, o191_63, o191_64, o191_65, o191_68, o191_69, o191_71, o191_72, o191_75, o191_76, o191_77, o191_78, o191_81, o191_82, o191_83, o191_86, o191_87, o191_88, o191_90, o191_91, o191_92, o191_95, o191_96, o191_99, o191_100, o191_103, o191_104, o191_107, hx_299_1, hx_299_2, c_X5_checkSlot, c_X8_isSlot, c_X8_isThrown, c_X8_isThrown_, c_X8_isThrown__, c_X8_isQueue, c_queueOf_bad, c_X5_checkAhead, c_queueOf_2, mc_pi, mc_pl, mc_pr, mc_pN, mc_pT, mc_pC, mn_pi, mn_pl, mn_pr, mn_pN, mn_pT, mn_pC, mi_pi, mi_pl, mi_pr, mi_pN, mi_pT, mi_pC, ml_pi, ml_pl, ml_pr, ml_pN, ml_pT, ml_pC, mr_pi, mr_pl, mr_pr, mr_pN, mr_pT, mr_pC, mt_pi, mt_pl, mt_pr, mt_pN, mt_pT, mt_pC, mz_pi, mz_pl, mz_pr, mz_pN, mz_pT, mz_pC, ma_pi, ma_pl, ma_pr, ma_pN, ma_pT, ma_pC, mcs_0, mcs_i, mcs_l, mcs_r, mcs_n, csum_rf, Kn_v, Kn_0, Kn_x, mrf_some, kok_0, true_and, and_true, false_and, and_false, true_or, or_true, or_false, false_or, not_true_eq_false, not_false_eq_true, true_implies, false_implies, implies_true, forall_const, if_true, if_false, and_self, Nat.reduceEqDiff, Nat.reduceLeDiff, Nat.reduceSub, Nat.reduceAdd, Nat.zero_le, Nat.le_refl, i10, i01, kz0, kz1, eq_self, lt_le, Classical.not_not, Int32.reduceLT, Int32.reduceAdd, Int32.reduceSub, Int32.reduceMul, cl0, cl1, cl2, cl3, cl4, cl5, cl6, cl7, cl8, cl9, cl10, cl11, cl12, cl13, cl14, cl15, cl16, cl17, cl18, cl19, cl20, cl21, cl22, cl23, cl24, cl25, cl26, cl27, cl28, cl29, cl30, cl31, cl32, cl33, cl34, cl35, cl36, cl37, cl38, cl39, lg_cmp_eq, Kc_v, Kc_0, Sum.inl.injEq, Option.some.injEq, Value.int.injEq, exists_eq_left', Nat.reduceLT, hAe, i20, i30, kc0, kc1, kc2, kc3, kc4, kc5, kc6, kc7, kc8, kc9, kc10, kc11, kc12, kc13, kc14, kc15, kc16, kc17, kc18, kc19, kc20, kc21, kc22, kc23, kc24, kc25, kc26, kc27, kc28, kc29, kc30, kc31, kc32, kc33, kc34, kc35, kc36, kc37, kc38, kc39, kn3, kn4, kn18, kn21, kn23, kn24, kn25, kn26, kn27, kn29, kn30, kr0_0, kr0_1, kr0_2, kr0_3, kr0_4, kr0_5, kr0_7, kr0_8, kr0_9, kr0_10, kr1_0, kr2_0, kr5_0, kr5_1, kr6_0, kr6_1, kr7_0, kr7_1, kr8_0, kr9_0, kr10_0, kr11_0, kr12_0, kr13_0, kr14_0, kr15_0, kr16_0, kr17_0, kr19_0, kr19_1, kr22_0, kr22_1, kr22_2, kr22_3, kr22_4, kr22_5, kr22_7, kr22_8, kr25_0, kr25_1, kr25_2, kr26_0, kr26_1, kr26_2, kr29_0, kr29_1, kz, ki5_2, ki6_2, ki7_2, ki8_1, ki8_2, ki8_3, ki9_1, ki9_2, ki9_3, ki10_1, ki10_2, ki10_3, ki11_1, ki11_2, ki11_3, ki12_1, ki12_2, ki12_3, ki13_1, ki13_2, ki13_3, ki14_1, ki14_2, ki14_3, ki28_0, ki28_1, ki31_0, ki31_1, ki32_0, ki32_1, ki33_0, ki33_1, ki34_0, ki34_1, ki35_0, ki35_1, ki36_0, ki36_1, bq0, bqq, vq3, bs, bs2, bx0, bx9]
          intro t ht
          first | refine ⟨⟨?_, ?_, ?_, ?_, ?_, ?_, ?_, ?_, ?_, ?_, ?_, ?_⟩, rfl⟩ | refine ⟨?_, ?_, ?_, ?_, ?_, ?_, ?_, ?_, ?_, ?_, ?_, ?_⟩
          · (try simp only [K_pi, K_pl, K_pC, K_cW, K_mW])
            exact K_pT ht vk
          · (try simp only [Cn_pi hA (j := 18) (by decide), Cn_pi hA (j := 22) (by decide), Cn_pi hA (j := 30) (by decide), Cn_pl, Cn_pT, Cn_pr])
            exact vcn
          · (try simp only [Vq0_pi hA (j := 18) (by decide), Vq0_pi hA (j := 22) (by decide), Vq0_pi hA (j := 30) (by decide), Vq0_pl, Vq0_pT, Vq0_pr])
            exact v0
          · (try simp only [Vq1_pi hA (j := 18) (by decide), Vq1_pi hA (j := 22) (by decide), Vq1_pi hA (j := 30) (by decide), Vq1_pl, Vq1_pT, Vq1_pr])
            exact v1
          · (try simp only [Vq2_pi hA (j := 18) (by decide), Vq2_pi hA (j := 22) (by decide), Vq2_pi hA (j := 30) (by decide), Vq2_pl, Vq2_pT, Vq2_pr])
            exact v2
          · (try simp only [Vp_pi hA (j := 18) (by decide), Vp_pi hA (j := 30) (by decide), Vp_thr hA, Vp_pl, Vp_pT, Vp_pr])
            exact vp
          · (try simp only [Vl0_pi hA (j := 18) (by decide), Vl0_pi hA (j := 22) (by decide), Vl0_pi hA (j := 30) (by decide), Vl0_pl, Vl0_pT, Vl0_pr])
            exact vl0
          · (try simp only [Vl1_pi hA (j := 18) (by decide), Vl1_pi hA (j := 22) (by decide), Vl1_pi hA (j := 30) (by decide), Vl1_pl, Vl1_pT, Vl1_pr])
            exact vl1
          · (try simp only [Vlr_pi hA (j := 18) (by decide), Vlr_pi hA (j := 22) (by decide), Vlr_pi hA (j := 30) (by decide), Vlr_pl hA (j := 39) (by decide), Vlr_pT, Vlr_pr])
            exact vlr
          · (try simp only [Vsr_pi hA (j := 18) (by decide), Vsr_pi hA (j := 22) (by decide), Vsr_pi hA (j := 30) (by decide), Vsr_pl hA (j := 39) (by decide), Vsr_pT, Vsr_pr])
            exact vsr
          · (try simp only [Vc_pi hA (j := 22) (by decide), Vc_pl, Vc_pT, Vc_pr])
            exact vc
          · (try simp only [Tx_pi hA (j := 18) (by decide), Tx_pi hA (j := 22) (by decide), Tx_pi hA (j := 30) (by decide), Tx_pl])
            exact Tx_pT ht tx
      · have s1 : ¬ s < 0 := fun z => bs (Or.inl z)
        have s2 : s < 6 := Classical.byContradiction fun z => bs (Or.inr z)
        have hs := ix_ok s1 s2
        have hs2 := hs
        obtain ⟨⟨j0, j1, j2, j3⟩, d01, d02, d03, d10, d12, d13, d20, d21, d23, d30, d31, d32⟩ := hs2
        obtain ⟨l0, l1, l2, l3⟩ := ix_lt hs
        have vs0 := (vsr _ l0).1
        have vs1 := (vsr _ l1).1
        have vs2 := (vsr _ l2).1
        have vs3 := (vsr _ l3).1
        have bs2 : (¬ s < 0 ∧ s < 6) = True := eq_true ⟨s1, s2⟩
        rcases q_cases y1 y2 with rfl | rfl | rfl
        · have he := v0.1
          have hm := v0.2
          have hT : mT h (A 27) 0 (A 31) (A 34) = cT h (A 5) (A 8) (A 9) := he.symm
          have he2 := he
          simp only [cT, mT, Prod.mk.injEq] at he2
          obtain ⟨g1, g2, g3, g4, g5, g6, g7⟩ := he2
          replace g1 := g1.symm
          replace g2 := g2.symm
          replace g3 := g3.symm
          replace g4 := g4.symm
          replace g5 := g5.symm
          replace g6 := g6.symm
          replace g7 := g7.symm
          obtain ⟨hmk, har, hl0, hl9⟩ := qA_0 _ hm
          have hark : arok 0 (g_i h (A 5) 3) := fun z => absurd (by decide) z
          have n1 : ¬ A 8 = A 9 := fun z => absurd ((hAe 8 9 (by decide) (by decide)).mp z) (by decide)
          by_cases bl : x < lyF (cT h (A 5) (A 8) (A 9))
          · obtain ⟨i1, i2, hj⟩ := (qX_0 _ hm x (x_mem bx0 bx9)).resolve_left (fun z => z bl)
            have hj2 := hj.2.2
            have vlk := (vlr _ (rdy_lt hj)).symm
            by_cases be : g_l h (A 3) (1 + ceF (cT h (A 5) (A 8) (A 9)) x).toNatClampNeg = nmM (g_i h (A 24) (11 + 4 * s + 0).toNatClampNeg) (g_i h (A 24) (11 + 4 * s + 1).toNatClampNeg) (g_i h (A 24) (11 + 4 * s + 2).toNatClampNeg) (g_i h (A 24) (11 + 4 * s + 3).toNatClampNeg)
            all_goals
              simp only [o299_0, o299_2, o299_3, o299_4, o299_5, o299_6, o299_9, o299_10, o299_13, o299_16, o299_18, o299_19, o299_20, o299_22, o299_23, o299_24, o299_25, o67_0, o67_1, o67_2, o67_5, o67_7, o67_8, o67_11, o67_12, o67_15, o67_16, o67_18, o67_21, o67_24, o67_25, o67_28, o67_29, o67_32, o67_33, o67_34, o67_37, o67_39, o67_40, o67_41, o67_42, o67_45, o67_48, o67_51, o67_52, o67_55, o67_56, o67_59, o191_0, o191_1, o191_2, o191_5, o191_8, o191_9, o191_12, o191_15, o191_16, o191_19, o191_20, o191_21, o191_24, o191_25, o191_27, o191_30, o191_31, o191_34, o191_35, o191_38, o191_41, o191_42, o191_43, o191_44, o191_45, o191_46, o191_49, o191_52, o191_53, o191_54, o191_57, o191_58, o191_59, o191_62, o191_63, o191_64, o191_65, o191_68, o191_69, o191_71, o191_72, o191_75, o191_76, o191_77, o191_78, o191_81, o191_82, o191_83, o191_86, o191_87, o191_88, o191_90, o191_91, o191_92, o191_95, o191_96, o191_99, o191_100, o191_103, o191_104, o191_107, hx_299_1, hx_299_2, c_X5_checkSlot, c_X8_isSlot, c_X8_isThrown, c_X8_isThrown_, c_X8_isThrown__, c_X8_isQueue, c_queueOf_bad, c_X5_checkAhead, c_queueOf_0, c_X1_lying (w := A 8) (r := A 9), c_X1_replace (w := A 8) (r := A 9) (rw := A 1) (cs := A 3) (n := 16), c_X8_liesOf (x2 := A 25) (x3 := A 26) (a := A 27) (w := A 31) (r := A 34), c_X8_cellOf (x2 := A 25) (x3 := A 26) (a := A 27) (w := A 31) (r := A 34), c_X5_numberIn (rw := A 2) (cs := A 4), c_X8_numberOf (sr := A 24), c_X0_done (cs := A 18), c_X8_done (cs := A 30), mc_pi, mc_pl, mc_pr, mc_pN, mc_pT, mc_pC, mn_pi, mn_pl, mn_pr, mn_pN, mn_pT, mn_pC, mi_pi, mi_pl, mi_pr, mi_pN, mi_pT, mi_pC, ml_pi, ml_pl, ml_pr, ml_pN, ml_pT, ml_pC, mr_pi, mr_pl, mr_pr, mr_pN, mr_pT, mr_pC, mt_pi, mt_pl, mt_pr, mt_pN, mt_pT, mt_pC, mz_pi, mz_pl, mz_pr, mz_pN, mz_pT, mz_pC, ma_pi, ma_pl, ma_pr, ma_pN, ma_pT, ma_pC, mcs_0, mcs_i, mcs_l, mcs_r, mcs_n, csum_rf, Kn_v, Kn_0, Kn_x, mrf_some, kok_0, true_and, and_true, false_and, and_false, true_or, or_true, or_false, false_or, not_true_eq_false, not_false_eq_true, true_implies, false_implies, implies_true, forall_const, if_true, if_false, and_self, Nat.reduceEqDiff, Nat.reduceLeDiff, Nat.reduceSub, Nat.reduceAdd, Nat.zero_le, Nat.le_refl, i10, i01, kz0, kz1, eq_self, lt_le, Classical.not_not, Int32.reduceLT, Int32.reduceAdd, Int32.reduceSub, Int32.reduceMul, cl0, cl1, cl2, cl3, cl4, cl5, cl6, cl7, cl8, cl9, cl10, cl11, cl12, cl13, cl14, cl15, cl16, cl17, cl18, cl19, cl20, cl21, cl22, cl23, cl24, cl25, cl26, cl27, cl28, cl29, cl30, cl31, cl32, cl33, cl34, cl35, cl36, cl37, cl38, cl39, lg_cmp_eq, Kc_v, Kc_0, Sum.inl.injEq, Option.some.injEq, Value.int.injEq, exists_eq_left', Nat.reduceLT, hAe, i20, i30, kc0, kc1, kc2, kc3, kc4, kc5, kc6, kc7, kc8, kc9, kc10, kc11, kc12, kc13, kc14, kc15, kc16, kc17, kc18, kc19, kc20, kc21, kc22, kc23, kc24, kc25, kc26, kc27, kc28, kc29, kc30, kc31, kc32, kc33, kc34, kc35, kc36, kc37, kc38, kc39, kn3, kn4, kn18, kn21, kn23, kn24, kn25, kn26, kn27, kn29, kn30, kr0_0, kr0_1, kr0_2, kr0_3, kr0_4, kr0_5, kr0_7, kr0_8, kr0_9, kr0_10, kr1_0, kr2_0, kr5_0, kr5_1, kr6_0, kr6_1, kr7_0, kr7_1, kr8_0, kr9_0, kr10_0, kr11_0, kr12_0, kr13_0, kr14_0, kr15_0, kr16_0, kr17_0, kr19_0, kr19_1, kr22_0, kr22_1, kr22_2, kr22_3, kr22_4, kr22_5, kr22_7, kr22_8, kr25_0, kr25_1, kr25_2, kr26_0, kr26_1, kr26_2, kr29_0, kr29_1, kz, ki5_2, ki6_2, ki7_2, ki8_1, ki8_2, ki8_3, ki9_1, ki9_2, ki9_3, ki10_1, ki10_2, ki10_3, ki11_1, ki11_2, ki11_3, ki12_1, ki12_2, ki12_3, ki13_1, ki13_2, ki13_3, ki14_1, ki14_2, ki14_3, ki28_0, ki28_1, ki31_0, ki31_1, ki32_0, ki32_1, ki33_0, ki33_1, ki34_0, ki34_1, ki35_0, ki35_1, ki36_0, ki36_1, bq0, bqq, vq3, hT, g1, g2, g3, g4, g5, g6, g7, hark, Int32.reduceLT, cl0, cl1, cl2, s1, s2, bs2, hs, d01, d02, d03, d10, d12, d13, d20, d21, d23, d30, d31, d32, vs0, vs1, vs2, vs3, i64_inj, i64_back, fo0, fo1, fo2, fo3, nm_eq, cT0_pi hA (j := 18) (by decide), mT0_pi hA (j := 18) (by decide), cT0_pi hA (j := 22) (by decide), mT0_pi hA (j := 22) (by decide), cT0_pi hA (j := 30) (by decide), mT0_pi hA (j := 30) (by decide), cT0_pi hA (j := 24) (by decide), mT0_pi hA (j := 24) (by decide), cT0_pl, mT0_pl, cT0_pT, mT0_pT, cT0_cW hA, mT0_cW hA, mT0_mW hA, cT0_mW hA, i1, i2, hj, hj2, n1, vlk, bl, bx0, bx9, be]
              first | refine ⟨⟨?_, ?_, ?_, ?_, ?_, ?_, ?_, ?_, ?_, ?_, ?_, ?_⟩, rfl⟩ | refine ⟨?_, ?_, ?_, ?_, ?_, ?_, ?_, ?_, ?_, ?_, ?_, ?_⟩
              · (try simp only [K_pi, K_pl, K_pC, K_cW, K_mW])
                exact vk
              · (try simp only [Cn_pi hA (j := 18) (by decide), Cn_pi hA (j := 22) (by decide), Cn_pi hA (j := 30) (by decide), Cn_pl, Cn_pT, Cn_pr])
                exact vcn
              · (try simp only [Vq0_pi hA (j := 18) (by decide), Vq0_pi hA (j := 22) (by decide), Vq0_pi hA (j := 30) (by decide), Vq0_pl, Vq0_pT, Vq0_pr])
                exact v0
              · (try simp only [Vq1_pi hA (j := 18) (by decide), Vq1_pi hA (j := 22) (by decide), Vq1_pi hA (j := 30) (by decide), Vq1_pl, Vq1_pT, Vq1_pr])
                exact v1
              · (try simp only [Vq2_pi hA (j := 18) (by decide), Vq2_pi hA (j := 22) (by decide), Vq2_pi hA (j := 30) (by decide), Vq2_pl, Vq2_pT, Vq2_pr])
                exact v2
              · (try simp only [Vp_pi hA (j := 18) (by decide), Vp_pi hA (j := 30) (by decide), Vp_thr hA, Vp_pl, Vp_pT, Vp_pr])
                exact vp
              · (try simp only [Vl0_pi hA (j := 18) (by decide), Vl0_pi hA (j := 22) (by decide), Vl0_pi hA (j := 30) (by decide), Vl0_pl, Vl0_pT, Vl0_pr])
                exact vl0
              · (try simp only [Vl1_pi hA (j := 18) (by decide), Vl1_pi hA (j := 22) (by decide), Vl1_pi hA (j := 30) (by decide), Vl1_pl, Vl1_pT, Vl1_pr])
                exact vl1
              · refine Vlr_1 (i0 := (1 + ceF (cT h (A 5) (A 8) (A 9)) x).toNatClampNeg) (x0 := nmM (g_i h (A 24) (11 + 4 * s + 0).toNatClampNeg) (g_i h (A 24) (11 + 4 * s + 1).toNatClampNeg) (g_i h (A 24) (11 + 4 * s + 2).toNatClampNeg) (g_i h (A 24) (11 + 4 * s + 3).toNatClampNeg)) vlr (fun k => ?_) (fun k => ?_) <;> simp only [l_cW, l_mW, mi_pi, mi_pl, ml_pi, ml_pl, mi_pT, ml_pT, mi_pr, ml_pr, hAe, Nat.reduceLT, Nat.reduceEqDiff, false_and, and_false, true_and, and_true, if_false, if_true, eq_self]
              · (try simp only [Vsr_pi hA (j := 18) (by decide), Vsr_pi hA (j := 22) (by decide), Vsr_pi hA (j := 30) (by decide), Vsr_pl hA (j := 39) (by decide), Vsr_pl hA (j := 3) (by decide), Vsr_pl hA (j := 23) (by decide), Vsr_pT, Vsr_pr])
                exact vsr
              · refine Vc_of (c := 0) vc (by decide) (fun k => ?_) (fun k => ?_) <;> simp only [l_cW, l_mW, mi_pi, mi_pl, ml_pi, ml_pl, mi_pT, ml_pT, mi_pr, ml_pr, hAe, Nat.reduceLT, Nat.reduceEqDiff, false_and, and_false, true_and, and_true, if_false, if_true, eq_self]
              · (try simp only [Tx_pi hA (j := 18) (by decide), Tx_pi hA (j := 22) (by decide), Tx_pi hA (j := 30) (by decide), Tx_pl])
                exact tx
          · skip
            simp only [o299_0, o299_2, o299_3, o299_4, o299_5, o299_6, o299_9, o299_10, o299_13, o299_16, o299_18, o299_19, o299_20, o299_22, o299_23, o299_24, o299_25, o67_0, o67_1, o67_2, o67_5, o67_7, o67_8, o67_11, o67_12, o67_15, o67_16, o67_18, o67_21, o67_24, o67_25, o67_28, o67_29, o67_32, o67_33, o67_34, o67_37, o67_39, o67_40, o67_41, o67_42, o67_45, o67_48, o67_51, o67_52, o67_55, o67_56, o67_59, o191_0, o191_1, o191_2, o191_5, o191_8, o191_9, o191_12, o191_15, o191_16, o191_19, o191_20, o191_21, o191_24, o191_25, o191_27, o191_30, o191_31, o191_34, o191_35, o191_38, o191_41, o191_42, o191_43, o191_44, o191_45, o191_46, o191_49, o191_52, o191_53, o191_54, o191_57, o191_58, o191_59, o191_62, o191_63, o191_64, o191_65, o191_68, o191_69, o191_71, o191_72, o191_75, o191_76, o191_77, o191_78, o191_81, o191_82, o191_83, o191_86, o191_87, o191_88, o191_90, o191_91, o191_92, o191_95, o191_96, o191_99, o191_100, o191_103, o191_104, o191_107, hx_299_1, hx_299_2, c_X5_checkSlot, c_X8_isSlot, c_X8_isThrown, c_X8_isThrown_, c_X8_isThrown__, c_X8_isQueue, c_queueOf_bad, c_X5_checkAhead, c_queueOf_0, c_X1_lying (w := A 8) (r := A 9), c_ref_5 (cs := A 18), c_X8_liesOf (x2 := A 25) (x3 := A 26) (a := A 27) (w := A 31) (r := A 34), c_X8_no (cs := A 30), mc_pi, mc_pl, mc_pr, mc_pN, mc_pT, mc_pC, mn_pi, mn_pl, mn_pr, mn_pN, mn_pT, mn_pC, mi_pi, mi_pl, mi_pr, mi_pN, mi_pT, mi_pC, ml_pi, ml_pl, ml_pr, ml_pN, ml_pT, ml_pC, mr_pi, mr_pl, mr_pr, mr_pN, mr_pT, mr_pC, mt_pi, mt_pl, mt_pr, mt_pN, mt_pT, mt_pC, mz_pi, mz_pl, mz_pr, mz_pN, mz_pT, mz_pC, ma_pi, ma_pl, ma_pr, ma_pN, ma_pT, ma_pC, mcs_0, mcs_i, mcs_l, mcs_r, mcs_n, csum_rf, Kn_v, Kn_0, Kn_x, mrf_some, kok_0, true_and, and_true, false_and, and_false, true_or, or_true, or_false, false_or, not_true_eq_false, not_false_eq_true, true_implies, false_implies, implies_true, forall_const, if_true, if_false, and_self, Nat.reduceEqDiff, Nat.reduceLeDiff, Nat.reduceSub, Nat.reduceAdd, Nat.zero_le, Nat.le_refl, i10, i01, kz0, kz1, eq_self, lt_le, Classical.not_not, Int32.reduceLT, Int32.reduceAdd, Int32.reduceSub, Int32.reduceMul, cl0, cl1, cl2, cl3, cl4, cl5, cl6, cl7, cl8, cl9, cl10, cl11, cl12, cl13, cl14, cl15, cl16, cl17, cl18, cl19, cl20, cl21, cl22, cl23, cl24, cl25, cl26, cl27, cl28, cl29, cl30, cl31, cl32, cl33, cl34, cl35, cl36, cl37, cl38, cl39, lg_cmp_eq, Kc_v, Kc_0, Sum.inl.injEq, Option.some.injEq, Value.int.injEq, exists_eq_left', Nat.reduceLT, hAe, i20, i30, kc0, kc1, kc2, kc3, kc4, kc5, kc6, kc7, kc8, kc9, kc10, kc11, kc12, kc13, kc14, kc15, kc16, kc17, kc18, kc19, kc20, kc21, kc22, kc23, kc24, kc25, kc26, kc27, kc28, kc29, kc30, kc31, kc32, kc33, kc34, kc35, kc36, kc37, kc38, kc39, kn3, kn4, kn18, kn21, kn23, kn24, kn25, kn26, kn27, kn29, kn30, kr0_0, kr0_1, kr0_2, kr0_3, kr0_4, kr0_5, kr0_7, kr0_8, kr0_9, kr0_10, kr1_0, kr2_0, kr5_0, kr5_1, kr6_0, kr6_1, kr7_0, kr7_1, kr8_0, kr9_0, kr10_0, kr11_0, kr12_0, kr13_0, kr14_0, kr15_0, kr16_0, kr17_0, kr19_0, kr19_1, kr22_0, kr22_1, kr22_2, kr22_3, kr22_4, kr22_5, kr22_7, kr22_8, kr25_0, kr25_1, kr25_2, kr26_0, kr26_1, kr26_2, kr29_0, kr29_1, kz, ki5_2, ki6_2, ki7_2, ki8_1, ki8_2, ki8_3, ki9_1, ki9_2, ki9_3, ki10_1, ki10_2, ki10_3, ki11_1, ki11_2, ki11_3, ki12_1, ki12_2, ki12_3, ki13_1, ki13_2, ki13_3, ki14_1, ki14_2, ki14_3, ki28_0, ki28_1, ki31_0, ki31_1, ki32_0, ki32_1, ki33_0, ki33_1, ki34_0, ki34_1, ki35_0, ki35_1, ki36_0, ki36_1, bq0, bqq, vq3, hT, g1, g2, g3, g4, g5, g6, g7, hark, Int32.reduceLT, cl0, cl1, cl2, s1, s2, bs2, hs, d01, d02, d03, d10, d12, d13, d20, d21, d23, d30, d31, d32, vs0, vs1, vs2, vs3, i64_inj, i64_back, fo0, fo1, fo2, fo3, nm_eq, cT0_pi hA (j := 18) (by decide), mT0_pi hA (j := 18) (by decide), cT0_pi hA (j := 22) (by decide), mT0_pi hA (j := 22) (by decide), cT0_pi hA (j := 30) (by decide), mT0_pi hA (j := 30) (by decide), cT0_pi hA (j := 24) (by decide), mT0_pi hA (j := 24) (by decide), cT0_pl, mT0_pl, cT0_pT, mT0_pT, cT0_cW hA, mT0_cW hA, mT0_mW hA, cT0_mW hA, bl, bx0, bx9, v18, cl5]
            first | refine ⟨⟨?_, ?_, ?_, ?_, ?_, ?_, ?_, ?_, ?_, ?_, ?_, ?_⟩, rfl⟩ | refine ⟨?_, ?_, ?_, ?_, ?_, ?_, ?_, ?_, ?_, ?_, ?_, ?_⟩
            · (try simp only [K_pi, K_pl, K_pC, K_cW, K_mW])
              exact vk
            · (try simp only [Cn_pi hA (j := 18) (by decide), Cn_pi hA (j := 22) (by decide), Cn_pi hA (j := 30) (by decide), Cn_pl, Cn_pT, Cn_pr])
              exact vcn
            · (try simp only [Vq0_pi hA (j := 18) (by decide), Vq0_pi hA (j := 22) (by decide), Vq0_pi hA (j := 30) (by decide), Vq0_pl, Vq0_pT, Vq0_pr])
              exact v0
            · (try simp only [Vq1_pi hA (j := 18) (by decide), Vq1_pi hA (j := 22) (by decide), Vq1_pi hA (j := 30) (by decide), Vq1_pl, Vq1_pT, Vq1_pr])
              exact v1
            · (try simp only [Vq2_pi hA (j := 18) (by decide), Vq2_pi hA (j := 22) (by decide), Vq2_pi hA (j := 30) (by decide), Vq2_pl, Vq2_pT, Vq2_pr])
              exact v2
            · (try simp only [Vp_pi hA (j := 18) (by decide), Vp_pi hA (j := 30) (by decide), Vp_thr hA, Vp_pl, Vp_pT, Vp_pr])
              exact vp
            · (try simp only [Vl0_pi hA (j := 18) (by decide), Vl0_pi hA (j := 22) (by decide), Vl0_pi hA (j := 30) (by decide), Vl0_pl, Vl0_pT, Vl0_pr])
              exact vl0
            · (try simp only [Vl1_pi hA (j := 18) (by decide), Vl1_pi hA (j := 22) (by decide), Vl1_pi hA (j := 30) (by decide), Vl1_pl, Vl1_pT, Vl1_pr])
              exact vl1
            · (try simp only [Vlr_pi hA (j := 18) (by decide), Vlr_pi hA (j := 22) (by decide), Vlr_pi hA (j := 30) (by decide), Vlr_pl hA (j := 39) (by decide), Vlr_pT, Vlr_pr])
              exact vlr
            · (try simp only [Vsr_pi hA (j := 18) (by decide), Vsr_pi hA (j := 22) (by decide), Vsr_pi hA (j := 30) (by decide), Vsr_pl hA (j := 39) (by decide), Vsr_pT, Vsr_pr])
              exact vsr
            · refine Vc_of (c := 5) vc (by decide) (fun k => ?_) (fun k => ?_) <;> simp only [l_cW, l_mW, mi_pi, mi_pl, ml_pi, ml_pl, mi_pT, ml_pT, mi_pr, ml_pr, hAe, Nat.reduceLT, Nat.reduceEqDiff, false_and, and_false, true_and, and_true, if_false, if_true, eq_self]
            · (try simp only [Tx_pi hA (j := 18) (by decide), Tx_pi hA (j := 22) (by decide), Tx_pi hA (j := 30) (by decide), Tx_pl])
              exact tx
        · have he := v1.1
          have hm := v1.2
          have hT : mT h (A 27) 1 (A 32) (A 35) = cT h (A 6) (A 10) (A 11) := he.symm
          have he2 := he
          simp only [cT, mT, Prod.mk.injEq] at he2
          obtain ⟨g1, g2, g3, g4, g5, g6, g7⟩ := he2
          replace g1 := g1.symm
          replace g2 := g2.symm
          replace g3 := g3.symm
          replace g4 := g4.symm
          replace g5 := g5.symm
          replace g6 := g6.symm
          replace g7 := g7.symm
          obtain ⟨hmk, har, hl0, hl9⟩ := qA_1 _ hm
          have hark : arok 1 (g_i h (A 6) 3) := fun z => absurd (by decide) z
          have n1 : ¬ A 10 = A 11 := fun z => absurd ((hAe 10 11 (by decide) (by decide)).mp z) (by decide)
          by_cases bl : x < lyF (cT h (A 6) (A 10) (A 11))
          · obtain ⟨i1, i2, hj⟩ := (qX_1 _ hm x (x_mem bx0 bx9)).resolve_left (fun z => z bl)
            have hj2 := hj.2.2
            have vlk := (vlr _ (rdy_lt hj)).symm
            by_cases be : g_l h (A 3) (6 + ceF (cT h (A 6) (A 10) (A 11)) x).toNatClampNeg = nmM (g_i h (A 24) (11 + 4 * s + 0).toNatClampNeg) (g_i h (A 24) (11 + 4 * s + 1).toNatClampNeg) (g_i h (A 24) (11 + 4 * s + 2).toNatClampNeg) (g_i h (A 24) (11 + 4 * s + 3).toNatClampNeg)
            all_goals
              simp only [o299_0, o299_2, o299_3, o299_4, o299_5, o299_6, o299_9, o299_10, o299_13, o299_16, o299_18, o299_19, o299_20, o299_22, o299_23, o299_24, o299_25, o67_0, o67_1, o67_2, o67_5, o67_7, o67_8, o67_11, o67_12, o67_15, o67_16, o67_18, o67_21, o67_24, o67_25, o67_28, o67_29, o67_32, o67_33, o67_34, o67_37, o67_39, o67_40, o67_41, o67_42, o67_45, o67_48, o67_51, o67_52, o67_55, o67_56, o67_59, o191_0, o191_1, o191_2, o191_5, o191_8, o191_9, o191_12, o191_15, o191_16, o191_19, o191_20, o191_21, o191_24, o191_25, o191_27, o191_30, o191_31, o191_34, o191_35, o191_38, o191_41, o191_42, o191_43, o191_44, o191_45, o191_46, o191_49, o191_52, o191_53, o191_54, o191_57, o191_58, o191_59, o191_62, o191_63, o191_64, o191_65, o191_68, o191_69, o191_71, o191_72, o191_75, o191_76, o191_77, o191_78, o191_81, o191_82, o191_83, o191_86, o191_87, o191_88, o191_90, o191_91, o191_92, o191_95, o191_96, o191_99, o191_100, o191_103, o191_104, o191_107, hx_299_1, hx_299_2, c_X5_checkSlot, c_X8_isSlot, c_X8_isThrown, c_X8_isThrown_, c_X8_isThrown__, c_X8_isQueue, c_queueOf_bad, c_X5_checkAhead, c_queueOf_1, c_X1_lying (w := A 10) (r := A 11), c_X1_replace (w := A 10) (r := A 11) (rw := A 1) (cs := A 3) (n := 16), c_X8_liesOf (x2 := A 25) (x3 := A 26) (a := A 27) (w := A 32) (r := A 35), c_X8_cellOf (x2 := A 25) (x3 := A 26) (a := A 27) (w := A 32) (r := A 35), c_X5_numberIn (rw := A 2) (cs := A 4), c_X8_numberOf (sr := A 24), c_X0_done (cs := A 18), c_X8_done (cs := A 30), mc_pi, mc_pl, mc_pr, mc_pN, mc_pT, mc_pC, mn_pi, mn_pl, mn_pr, mn_pN, mn_pT, mn_pC, mi_pi, mi_pl, mi_pr, mi_pN, mi_pT, mi_pC, ml_pi, ml_pl, ml_pr, ml_pN, ml_pT, ml_pC, mr_pi, mr_pl, mr_pr, mr_pN, mr_pT, mr_pC, mt_pi, mt_pl, mt_pr, mt_pN, mt_pT, mt_pC, mz_pi, mz_pl, mz_pr, mz_pN, mz_pT, mz_pC, ma_pi, ma_pl, ma_pr, ma_pN, ma_pT, ma_pC, mcs_0, mcs_i, mcs_l, mcs_r, mcs_n, csum_rf, Kn_v, Kn_0, Kn_x, mrf_some, kok_0, true_and, and_true, false_and, and_false, true_or, or_true, or_false, false_or, not_true_eq_false, not_false_eq_true, true_implies, false_implies, implies_true, forall_const, if_true, if_false, and_self, Nat.reduceEqDiff, Nat.reduceLeDiff, Nat.reduceSub, Nat.reduceAdd, Nat.zero_le, Nat.le_refl, i10, i01, kz0, kz1, eq_self, lt_le, Classical.not_not, Int32.reduceLT, Int32.reduceAdd, Int32.reduceSub, Int32.reduceMul, cl0, cl1, cl2, cl3, cl4, cl5, cl6, cl7, cl8, cl9, cl10, cl11, cl12, cl13, cl14, cl15, cl16, cl17, cl18, cl19, cl20, cl21, cl22, cl23, cl24, cl25, cl26, cl27, cl28, cl29, cl30, cl31, cl32, cl33, cl34, cl35, cl36, cl37, cl38, cl39, lg_cmp_eq, Kc_v, Kc_0, Sum.inl.injEq, Option.some.injEq, Value.int.injEq, exists_eq_left', Nat.reduceLT, hAe, i20, i30, kc0, kc1, kc2, kc3, kc4, kc5, kc6, kc7, kc8, kc9, kc10, kc11, kc12, kc13, kc14, kc15, kc16, kc17, kc18, kc19, kc20, kc21, kc22, kc23, kc24, kc25, kc26, kc27, kc28, kc29, kc30, kc31, kc32, kc33, kc34, kc35, kc36, kc37, kc38, kc39, kn3, kn4, kn18, kn21, kn23, kn24, kn25, kn26, kn27, kn29, kn30, kr0_0, kr0_1, kr0_2, kr0_3, kr0_4, kr0_5, kr0_7, kr0_8, kr0_9, kr0_10, kr1_0, kr2_0, kr5_0, kr5_1, kr6_0, kr6_1, kr7_0, kr7_1, kr8_0, kr9_0, kr10_0, kr11_0, kr12_0, kr13_0, kr14_0, kr15_0, kr16_0, kr17_0, kr19_0, kr19_1, kr22_0, kr22_1, kr22_2, kr22_3, kr22_4, kr22_5, kr22_7, kr22_8, kr25_0, kr25_1, kr25_2, kr26_0, kr26_1, kr26_2, kr29_0, kr29_1, kz, ki5_2, ki6_2, ki7_2, ki8_1, ki8_2, ki8_3, ki9_1, ki9_2, ki9_3, ki10_1, ki10_2, ki10_3, ki11_1, ki11_2, ki11_3, ki12_1, ki12_2, ki12_3, ki13_1, ki13_2, ki13_3, ki14_1, ki14_2, ki14_3, ki28_0, ki28_1, ki31_0, ki31_1, ki32_0, ki32_1, ki33_0, ki33_1, ki34_0, ki34_1, ki35_0, ki35_1, ki36_0, ki36_1, bq0, bqq, vq3, hT, g1, g2, g3, g4, g5, g6, g7, hark, Int32.reduceLT, cl0, cl1, cl2, s1, s2, bs2, hs, d01, d02, d03, d10, d12, d13, d20, d21, d23, d30, d31, d32, vs0, vs1, vs2, vs3, i64_inj, i64_back, fo0, fo1, fo2, fo3, nm_eq, cT1_pi hA (j := 18) (by decide), mT1_pi hA (j := 18) (by decide), cT1_pi hA (j := 22) (by decide), mT1_pi hA (j := 22) (by decide), cT1_pi hA (j := 30) (by decide), mT1_pi hA (j := 30) (by decide), cT1_pi hA (j := 24) (by decide), mT1_pi hA (j := 24) (by decide), cT1_pl, mT1_pl, cT1_pT, mT1_pT, cT1_cW hA, mT1_cW hA, mT1_mW hA, cT1_mW hA, i1, i2, hj, hj2, n1, vlk, bl, bx0, bx9, be]
              first | refine ⟨⟨?_, ?_, ?_, ?_, ?_, ?_, ?_, ?_, ?_, ?_, ?_, ?_⟩, rfl⟩ | refine ⟨?_, ?_, ?_, ?_, ?_, ?_, ?_, ?_, ?_, ?_, ?_, ?_⟩
              · (try simp only [K_pi, K_pl, K_pC, K_cW, K_mW])
                exact vk
              · (try simp only [Cn_pi hA (j := 18) (by decide), Cn_pi hA (j := 22) (by decide), Cn_pi hA (j := 30) (by decide), Cn_pl, Cn_pT, Cn_pr])
                exact vcn
              · (try simp only [Vq0_pi hA (j := 18) (by decide), Vq0_pi hA (j := 22) (by decide), Vq0_pi hA (j := 30) (by decide), Vq0_pl, Vq0_pT, Vq0_pr])
                exact v0
              · (try simp only [Vq1_pi hA (j := 18) (by decide), Vq1_pi hA (j := 22) (by decide), Vq1_pi hA (j := 30) (by decide), Vq1_pl, Vq1_pT, Vq1_pr])
                exact v1
              · (try simp only [Vq2_pi hA (j := 18) (by decide), Vq2_pi hA (j := 22) (by decide), Vq2_pi hA (j := 30) (by decide), Vq2_pl, Vq2_pT, Vq2_pr])
                exact v2
              · (try simp only [Vp_pi hA (j := 18) (by decide), Vp_pi hA (j := 30) (by decide), Vp_thr hA, Vp_pl, Vp_pT, Vp_pr])
                exact vp
              · (try simp only [Vl0_pi hA (j := 18) (by decide), Vl0_pi hA (j := 22) (by decide), Vl0_pi hA (j := 30) (by decide), Vl0_pl, Vl0_pT, Vl0_pr])
                exact vl0
              · (try simp only [Vl1_pi hA (j := 18) (by decide), Vl1_pi hA (j := 22) (by decide), Vl1_pi hA (j := 30) (by decide), Vl1_pl, Vl1_pT, Vl1_pr])
                exact vl1
              · refine Vlr_1 (i0 := (6 + ceF (cT h (A 6) (A 10) (A 11)) x).toNatClampNeg) (x0 := nmM (g_i h (A 24) (11 + 4 * s + 0).toNatClampNeg) (g_i h (A 24) (11 + 4 * s + 1).toNatClampNeg) (g_i h (A 24) (11 + 4 * s + 2).toNatClampNeg) (g_i h (A 24) (11 + 4 * s + 3).toNatClampNeg)) vlr (fun k => ?_) (fun k => ?_) <;> simp only [l_cW, l_mW, mi_pi, mi_pl, ml_pi, ml_pl, mi_pT, ml_pT, mi_pr, ml_pr, hAe, Nat.reduceLT, Nat.reduceEqDiff, false_and, and_false, true_and, and_true, if_false, if_true, eq_self]
              · (try simp only [Vsr_pi hA (j := 18) (by decide), Vsr_pi hA (j := 22) (by decide), Vsr_pi hA (j := 30) (by decide), Vsr_pl hA (j := 39) (by decide), Vsr_pl hA (j := 3) (by decide), Vsr_pl hA (j := 23) (by decide), Vsr_pT, Vsr_pr])
                exact vsr
              · refine Vc_of (c := 0) vc (by decide) (fun k => ?_) (fun k => ?_) <;> simp only [l_cW, l_mW, mi_pi, mi_pl, ml_pi, ml_pl, mi_pT, ml_pT, mi_pr, ml_pr, hAe, Nat.reduceLT, Nat.reduceEqDiff, false_and, and_false, true_and, and_true, if_false, if_true, eq_self]
              · (try simp only [Tx_pi hA (j := 18) (by decide), Tx_pi hA (j := 22) (by decide), Tx_pi hA (j := 30) (by decide), Tx_pl])
                exact tx
          · skip
            simp only [o299_0, o299_2, o299_3, o299_4, o299_5, o299_6, o299_9, o299_10, o299_13, o299_16, o299_18, o299_19, o299_20, o299_22, o299_23, o299_24, o299_25, o67_0, o67_1, o67_2, o67_5, o67_7, o67_8, o67_11, o67_12, o67_15, o67_16, o67_18, o67_21, o67_24, o67_25, o67_28, o67_29, o67_32, o67_33, o67_34, o67_37, o67_39, o67_40, o67_41, o67_42, o67_45, o67_48, o67_51, o67_52, o67_55, o67_56, o67_59, o191_0, o191_1, o191_2, o191_5, o191_8, o191_9, o191_12, o191_15, o191_16, o191_19, o191_20, o191_21, o191_24, o191_25, o191_27, o191_30, o191_31, o191_34, o191_35, o191_38, o191_41, o191_42, o191_43, o191_44, o191_45, o191_46, o191_49, o191_52, o191_53, o191_54, o191_57, o191_58, o191_59, o191_62, o191_63, o191_64, o191_65, o191_68, o191_69, o191_71, o191_72, o191_75, o191_76, o191_77, o191_78, o191_81, o191_82, o191_83, o191_86, o191_87, o191_88, o191_90, o191_91, o191_92, o191_95, o191_96, o191_99, o191_100, o191_103, o191_104, o191_107, hx_299_1, hx_299_2, c_X5_checkSlot, c_X8_isSlot, c_X8_isThrown, c_X8_isThrown_, c_X8_isThrown__, c_X8_isQueue, c_queueOf_bad, c_X5_checkAhead, c_queueOf_1, c_X1_lying (w := A 10) (r := A 11), c_ref_5 (cs := A 18), c_X8_liesOf (x2 := A 25) (x3 := A 26) (a := A 27) (w := A 32) (r := A 35), c_X8_no (cs := A 30), mc_pi, mc_pl, mc_pr, mc_pN, mc_pT, mc_pC, mn_pi, mn_pl, mn_pr, mn_pN, mn_pT, mn_pC, mi_pi, mi_pl, mi_pr, mi_pN, mi_pT, mi_pC, ml_pi, ml_pl, ml_pr, ml_pN, ml_pT, ml_pC, mr_pi, mr_pl, mr_pr, mr_pN, mr_pT, mr_pC, mt_pi, mt_pl, mt_pr, mt_pN, mt_pT, mt_pC, mz_pi, mz_pl, mz_pr, mz_pN, mz_pT, mz_pC, ma_pi, ma_pl, ma_pr, ma_pN, ma_pT, ma_pC, mcs_0, mcs_i, mcs_l, mcs_r, mcs_n, csum_rf, Kn_v, Kn_0, Kn_x, mrf_some, kok_0, true_and, and_true, false_and, and_false, true_or, or_true, or_false, false_or, not_true_eq_false, not_false_eq_true, true_implies, false_implies, implies_true, forall_const, if_true, if_false, and_self, Nat.reduceEqDiff, Nat.reduceLeDiff, Nat.reduceSub, Nat.reduceAdd, Nat.zero_le, Nat.le_refl, i10, i01, kz0, kz1, eq_self, lt_le, Classical.not_not, Int32.reduceLT, Int32.reduceAdd, Int32.reduceSub, Int32.reduceMul, cl0, cl1, cl2, cl3, cl4, cl5, cl6, cl7, cl8, cl9, cl10, cl11, cl12, cl13, cl14, cl15, cl16, cl17, cl18, cl19, cl20, cl21, cl22, cl23, cl24, cl25, cl26, cl27, cl28, cl29, cl30, cl31, cl32, cl33, cl34, cl35, cl36, cl37, cl38, cl39, lg_cmp_eq, Kc_v, Kc_0, Sum.inl.injEq, Option.some.injEq, Value.int.injEq, exists_eq_left', Nat.reduceLT, hAe, i20, i30, kc0, kc1, kc2, kc3, kc4, kc5, kc6, kc7, kc8, kc9, kc10, kc11, kc12, kc13, kc14, kc15, kc16, kc17, kc18, kc19, kc20, kc21, kc22, kc23, kc24, kc25, kc26, kc27, kc28, kc29, kc30, kc31, kc32, kc33, kc34, kc35, kc36, kc37, kc38, kc39, kn3, kn4, kn18, kn21, kn23, kn24, kn25, kn26, kn27, kn29, kn30, kr0_0, kr0_1, kr0_2, kr0_3, kr0_4, kr0_5, kr0_7, kr0_8, kr0_9, kr0_10, kr1_0, kr2_0, kr5_0, kr5_1, kr6_0, kr6_1, kr7_0, kr7_1, kr8_0, kr9_0, kr10_0, kr11_0, kr12_0, kr13_0, kr14_0, kr15_0, kr16_0, kr17_0, kr19_0, kr19_1, kr22_0, kr22_1, kr22_2, kr22_3, kr22_4, kr22_5, kr22_7, kr22_8, kr25_0, kr25_1, kr25_2, kr26_0, kr26_1, kr26_2, kr29_0, kr29_1, kz, ki5_2, ki6_2, ki7_2, ki8_1, ki8_2, ki8_3, ki9_1, ki9_2, ki9_3, ki10_1, ki10_2, ki10_3, ki11_1, ki11_2, ki11_3, ki12_1, ki12_2, ki12_3, ki13_1, ki13_2, ki13_3, ki14_1, ki14_2, ki14_3, ki28_0, ki28_1, ki31_0, ki31_1, ki32_0, ki32_1, ki33_0, ki33_1, ki34_0, ki34_1, ki35_0, ki35_1, ki36_0, ki36_1, bq0, bqq, vq3, hT, g1, g2, g3, g4, g5, g6, g7, hark, Int32.reduceLT, cl0, cl1, cl2, s1, s2, bs2, hs, d01, d02, d03, d10, d12, d13, d20, d21, d23, d30, d31, d32, vs0, vs1, vs2, vs3, i64_inj, i64_back, fo0, fo1, fo2, fo3, nm_eq, cT1_pi hA (j := 18) (by decide), mT1_pi hA (j := 18) (by decide), cT1_pi hA (j := 22) (by decide), mT1_pi hA (j := 22) (by decide), cT1_pi hA (j := 30) (by decide), mT1_pi hA (j := 30) (by decide), cT1_pi hA (j := 24) (by decide), mT1_pi hA (j := 24) (by decide), cT1_pl, mT1_pl, cT1_pT, mT1_pT, cT1_cW hA, mT1_cW hA, mT1_mW hA, cT1_mW hA, bl, bx0, bx9, v18, cl5]
            first | refine ⟨⟨?_, ?_, ?_, ?_, ?_, ?_, ?_, ?_, ?_, ?_, ?_, ?_⟩, rfl⟩ | refine ⟨?_, ?_, ?_, ?_, ?_, ?_, ?_, ?_, ?_, ?_, ?_, ?_⟩
            · (try simp only [K_pi, K_pl, K_pC, K_cW, K_mW])
              exact vk
            · (try simp only [Cn_pi hA (j := 18) (by decide), Cn_pi hA (j := 22) (by decide), Cn_pi hA (j := 30) (by decide), Cn_pl, Cn_pT, Cn_pr])
              exact vcn
            · (try simp only [Vq0_pi hA (j := 18) (by decide), Vq0_pi hA (j := 22) (by decide), Vq0_pi hA (j := 30) (by decide), Vq0_pl, Vq0_pT, Vq0_pr])
              exact v0
            · (try simp only [Vq1_pi hA (j := 18) (by decide), Vq1_pi hA (j := 22) (by decide), Vq1_pi hA (j := 30) (by decide), Vq1_pl, Vq1_pT, Vq1_pr])
              exact v1
            · (try simp only [Vq2_pi hA (j := 18) (by decide), Vq2_pi hA (j := 22) (by decide), Vq2_pi hA (j := 30) (by decide), Vq2_pl, Vq2_pT, Vq2_pr])
              exact v2
            · (try simp only [Vp_pi hA (j := 18) (by decide), Vp_pi hA (j := 30) (by decide), Vp_thr hA, Vp_pl, Vp_pT, Vp_pr])
              exact vp
            · (try simp only [Vl0_pi hA (j := 18) (by decide), Vl0_pi hA (j := 22) (by decide), Vl0_pi hA (j := 30) (by decide), Vl0_pl, Vl0_pT, Vl0_pr])
              exact vl0
            · (try simp only [Vl1_pi hA (j := 18) (by decide), Vl1_pi hA (j := 22) (by decide), Vl1_pi hA (j := 30) (by decide), Vl1_pl, Vl1_pT, Vl1_pr])
              exact vl1
            · (try simp only [Vlr_pi hA (j := 18) (by decide), Vlr_pi hA (j := 22) (by decide), Vlr_pi hA (j := 30) (by decide), Vlr_pl hA (j := 39) (by decide), Vlr_pT, Vlr_pr])
              exact vlr
            · (try simp only [Vsr_pi hA (j := 18) (by decide), Vsr_pi hA (j := 22) (by decide), Vsr_pi hA (j := 30) (by decide), Vsr_pl hA (j := 39) (by decide), Vsr_pT, Vsr_pr])
              exact vsr
            · refine Vc_of (c := 5) vc (by decide) (fun k => ?_) (fun k => ?_) <;> simp only [l_cW, l_mW, mi_pi, mi_pl, ml_pi, ml_pl, mi_pT, ml_pT, mi_pr, ml_pr, hAe, Nat.reduceLT, Nat.reduceEqDiff, false_and, and_false, true_and, and_true, if_false, if_true, eq_self]
            · (try simp only [Tx_pi hA (j := 18) (by decide), Tx_pi hA (j := 22) (by decide), Tx_pi hA (j := 30) (by decide), Tx_pl])
              exact tx
        · have he := v2.1
          have hm := v2.2
          have hT : mT h (A 27) 2 (A 33) (A 36) = cT h (A 7) (A 12) (A 13) := he.symm
          have he2 := he
          simp only [cT, mT, Prod.mk.injEq] at he2
          obtain ⟨g1, g2, g3, g4, g5, g6, g7⟩ := he2
          replace g1 := g1.symm
          replace g2 := g2.symm
          replace g3 := g3.symm
          replace g4 := g4.symm
          replace g5 := g5.symm
          replace g6 := g6.symm
          replace g7 := g7.symm
          obtain ⟨hmk, har, hl0, hl9⟩ := qA_2 _ hm
          have hark : arok 2 (g_i h (A 7) 3) := fun _ => har
          have n1 : ¬ A 12 = A 13 := fun z => absurd ((hAe 12 13 (by decide) (by decide)).mp z) (by decide)
          by_cases bl : x < lyF (cT h (A 7) (A 12) (A 13))
          · obtain ⟨i1, i2, hj⟩ := (qX_2 _ hm x (x_mem bx0 bx9)).resolve_left (fun z => z bl)
            have hj2 := hj.2.2
            have vlk := (vlr _ (rdy_lt hj)).symm
            by_cases be : g_l h (A 3) (9 + ceF (cT h (A 7) (A 12) (A 13)) x).toNatClampNeg = nmM (g_i h (A 24) (11 + 4 * s + 0).toNatClampNeg) (g_i h (A 24) (11 + 4 * s + 1).toNatClampNeg) (g_i h (A 24) (11 + 4 * s + 2).toNatClampNeg) (g_i h (A 24) (11 + 4 * s + 3).toNatClampNeg)
            all_goals
              simp only [o299_0, o299_2, o299_3, o299_4, o299_5, o299_6, o299_9, o299_10, o299_13, o299_16, o299_18, o299_19, o299_20, o299_22, o299_23, o299_24, o299_25, o67_0, o67_1, o67_2, o67_5, o67_7, o67_8, o67_11, o67_12, o67_15, o67_16, o67_18, o67_21, o67_24, o67_25, o67_28, o67_29, o67_32, o67_33, o67_34, o67_37, o67_39, o67_40, o67_41, o67_42, o67_45, o67_48, o67_51, o67_52, o67_55, o67_56, o67_59, o191_0, o191_1, o191_2, o191_5, o191_8, o191_9, o191_12, o191_15, o191_16, o191_19, o191_20, o191_21, o191_24, o191_25, o191_27, o191_30, o191_31, o191_34, o191_35, o191_38, o191_41, o191_42, o191_43, o191_44, o191_45, o191_46, o191_49, o191_52, o191_53, o191_54, o191_57, o191_58, o191_59, o191_62, o191_63, o191_64, o191_65, o191_68, o191_69, o191_71, o191_72, o191_75, o191_76, o191_77, o191_78, o191_81, o191_82, o191_83, o191_86, o191_87, o191_88, o191_90, o191_91, o191_92, o191_95, o191_96, o191_99, o191_100, o191_103, o191_104, o191_107, hx_299_1, hx_299_2, c_X5_checkSlot, c_X8_isSlot, c_X8_isThrown, c_X8_isThrown_, c_X8_isThrown__, c_X8_isQueue, c_queueOf_bad, c_X5_checkAhead, c_queueOf_2, c_X1_lying (w := A 12) (r := A 13), c_X1_replace (w := A 12) (r := A 13) (rw := A 1) (cs := A 3) (n := 16), c_X8_liesOf (x2 := A 25) (x3 := A 26) (a := A 27) (w := A 33) (r := A 36), c_X8_cellOf (x2 := A 25) (x3 := A 26) (a := A 27) (w := A 33) (r := A 36), c_X5_numberIn (rw := A 2) (cs := A 4), c_X8_numberOf (sr := A 24), c_X0_done (cs := A 18), c_X8_done (cs := A 30), mc_pi, mc_pl, mc_pr, mc_pN, mc_pT, mc_pC, mn_pi, mn_pl, mn_pr, mn_pN, mn_pT, mn_pC, mi_pi, mi_pl, mi_pr, mi_pN, mi_pT, mi_pC, ml_pi, ml_pl, ml_pr, ml_pN, ml_pT, ml_pC, mr_pi, mr_pl, mr_pr, mr_pN, mr_pT, mr_pC, mt_pi, mt_pl, mt_pr, mt_pN, mt_pT, mt_pC, mz_pi, mz_pl, mz_pr, mz_pN, mz_pT, mz_pC, ma_pi, ma_pl, ma_pr, ma_pN, ma_pT, ma_pC, mcs_0, mcs_i, mcs_l, mcs_r, mcs_n, csum_rf, Kn_v, Kn_0, Kn_x, mrf_some, kok_0, true_and, and_true, false_and, and_false, true_or, or_true, or_false, false_or, not_true_eq_false, not_false_eq_true, true_implies, false_implies, implies_true, forall_const, if_true, if_false, and_self, Nat.reduceEqDiff, Nat.reduceLeDiff, Nat.reduceSub, Nat.reduceAdd, Nat.zero_le, Nat.le_refl, i10, i01, kz0, kz1, eq_self, lt_le, Classical.not_not, Int32.reduceLT, Int32.reduceAdd, Int32.reduceSub, Int32.reduceMul, cl0, cl1, cl2, cl3, cl4, cl5, cl6, cl7, cl8, cl9, cl10, cl11, cl12, cl13, cl14, cl15, cl16, cl17, cl18, cl19, cl20, cl21, cl22, cl23, cl24, cl25, cl26, cl27, cl28, cl29, cl30, cl31, cl32, cl33, cl34, cl35, cl36, cl37, cl38, cl39, lg_cmp_eq, Kc_v, Kc_0, Sum.inl.injEq, Option.some.injEq, Value.int.injEq, exists_eq_left', Nat.reduceLT, hAe, i20, i30, kc0, kc1, kc2, kc3, kc4, kc5, kc6, kc7, kc8, kc9, kc10, kc11, kc12, kc13, kc14, kc15, kc16, kc17, kc18, kc19, kc20, kc21, kc22, kc23, kc24, kc25, kc26, kc27, kc28, kc29, kc30, kc31, kc32, kc33, kc34, kc35, kc36, kc37, kc38, kc39, kn3, kn4, kn18, kn21, kn23, kn24, kn25, kn26, kn27, kn29, kn30, kr0_0, kr0_1, kr0_2, kr0_3, kr0_4, kr0_5, kr0_7, kr0_8, kr0_9, kr0_10, kr1_0, kr2_0, kr5_0, kr5_1, kr6_0, kr6_1, kr7_0, kr7_1, kr8_0, kr9_0, kr10_0, kr11_0, kr12_0, kr13_0, kr14_0, kr15_0, kr16_0, kr17_0, kr19_0, kr19_1, kr22_0, kr22_1, kr22_2, kr22_3, kr22_4, kr22_5, kr22_7, kr22_8, kr25_0, kr25_1, kr25_2, kr26_0, kr26_1, kr26_2, kr29_0, kr29_1, kz, ki5_2, ki6_2, ki7_2, ki8_1, ki8_2, ki8_3, ki9_1, ki9_2, ki9_3, ki10_1, ki10_2, ki10_3, ki11_1, ki11_2, ki11_3, ki12_1, ki12_2, ki12_3, ki13_1, ki13_2, ki13_3, ki14_1, ki14_2, ki14_3, ki28_0, ki28_1, ki31_0, ki31_1, ki32_0, ki32_1, ki33_0, ki33_1, ki34_0, ki34_1, ki35_0, ki35_1, ki36_0, ki36_1, bq0, bqq, vq3, hT, g1, g2, g3, g4, g5, g6, g7, hark, Int32.reduceLT, cl0, cl1, cl2, s1, s2, bs2, hs, d01, d02, d03, d10, d12, d13, d20, d21, d23, d30, d31, d32, vs0, vs1, vs2, vs3, i64_inj, i64_back, fo0, fo1, fo2, fo3, nm_eq, cT2_pi hA (j := 18) (by decide), mT2_pi hA (j := 18) (by decide), cT2_pi hA (j := 22) (by decide), mT2_pi hA (j := 22) (by decide), cT2_pi hA (j := 30) (by decide), mT2_pi hA (j := 30) (by decide), cT2_pi hA (j := 24) (by decide), mT2_pi hA (j := 24) (by decide), cT2_pl, mT2_pl, cT2_pT, mT2_pT, cT2_cW hA, mT2_cW hA, mT2_mW hA, cT2_mW hA, i1, i2, hj, hj2, n1, vlk, bl, bx0, bx9, be]
              first | refine ⟨⟨?_, ?_, ?_, ?_, ?_, ?_, ?_, ?_, ?_, ?_, ?_, ?_⟩, rfl⟩ | refine ⟨?_, ?_, ?_, ?_, ?_, ?_, ?_, ?_, ?_, ?_, ?_, ?_⟩
              · (try simp only [K_pi, K_pl, K_pC, K_cW, K_mW])
                exact vk
              · (try simp only [Cn_pi hA (j := 18) (by decide), Cn_pi hA (j := 22) (by decide), Cn_pi hA (j := 30) (by decide), Cn_pl, Cn_pT, Cn_pr])
                exact vcn
              · (try simp only [Vq0_pi hA (j := 18) (by decide), Vq0_pi hA (j := 22) (by decide), Vq0_pi hA (j := 30) (by decide), Vq0_pl, Vq0_pT, Vq0_pr])
                exact v0
              · (try simp only [Vq1_pi hA (j := 18) (by decide), Vq1_pi hA (j := 22) (by decide), Vq1_pi hA (j := 30) (by decide), Vq1_pl, Vq1_pT, Vq1_pr])
                exact v1
              · (try simp only [Vq2_pi hA (j := 18) (by decide), Vq2_pi hA (j := 22) (by decide), Vq2_pi hA (j := 30) (by decide), Vq2_pl, Vq2_pT, Vq2_pr])
                exact v2
              · (try simp only [Vp_pi hA (j := 18) (by decide), Vp_pi hA (j := 30) (by decide), Vp_thr hA, Vp_pl, Vp_pT, Vp_pr])
                exact vp
              · (try simp only [Vl0_pi hA (j := 18) (by decide), Vl0_pi hA (j := 22) (by decide), Vl0_pi hA (j := 30) (by decide), Vl0_pl, Vl0_pT, Vl0_pr])
                exact vl0
              · (try simp only [Vl1_pi hA (j := 18) (by decide), Vl1_pi hA (j := 22) (by decide), Vl1_pi hA (j := 30) (by decide), Vl1_pl, Vl1_pT, Vl1_pr])
                exact vl1
              · refine Vlr_1 (i0 := (9 + ceF (cT h (A 7) (A 12) (A 13)) x).toNatClampNeg) (x0 := nmM (g_i h (A 24) (11 + 4 * s + 0).toNatClampNeg) (g_i h (A 24) (11 + 4 * s + 1).toNatClampNeg) (g_i h (A 24) (11 + 4 * s + 2).toNatClampNeg) (g_i h (A 24) (11 + 4 * s + 3).toNatClampNeg)) vlr (fun k => ?_) (fun k => ?_) <;> simp only [l_cW, l_mW, mi_pi, mi_pl, ml_pi, ml_pl, mi_pT, ml_pT, mi_pr, ml_pr, hAe, Nat.reduceLT, Nat.reduceEqDiff, false_and, and_false, true_and, and_true, if_false, if_true, eq_self]
              · (try simp only [Vsr_pi hA (j := 18) (by decide), Vsr_pi hA (j := 22) (by decide), Vsr_pi hA (j := 30) (by decide), Vsr_pl hA (j := 39) (by decide), Vsr_pl hA (j := 3) (by decide), Vsr_pl hA (j := 23) (by decide), Vsr_pT, Vsr_pr])
                exact vsr
              · refine Vc_of (c := 0) vc (by decide) (fun k => ?_) (fun k => ?_) <;> simp only [l_cW, l_mW, mi_pi, mi_pl, ml_pi, ml_pl, mi_pT, ml_pT, mi_pr, ml_pr, hAe, Nat.reduceLT, Nat.reduceEqDiff, false_and, and_false, true_and, and_true, if_false, if_true, eq_self]
              · (try simp only [Tx_pi hA (j := 18) (by decide), Tx_pi hA (j := 22) (by decide), Tx_pi hA (j := 30) (by decide), Tx_pl])
                exact tx
          · skip
            simp only [o299_0, o299_2, o299_3, o299_4, o299_5, o299_6, o299_9, o299_10, o299_13, o299_16, o299_18, o299_19, o299_20, o299_22, o299_23, o299_24, o299_25, o67_0, o67_1, o67_2, o67_5, o67_7, o67_8, o67_11, o67_12, o67_15, o67_16, o67_18, o67_21, o67_24, o67_25, o67_28, o67_29, o67_32, o67_33, o67_34, o67_37, o67_39, o67_40, o67_41, o67_42, o67_45, o67_48, o67_51, o67_52, o67_55, o67_56, o67_59, o191_0, o191_1, o191_2, o191_5, o191_8, o191_9, o191_12, o191_15, o191_16, o191_19, o191_20, o191_21, o191_24, o191_25, o191_27, o191_30, o191_31, o191_34, o191_35, o191_38, o191_41, o191_42, o191_43, o191_44, o191_45, o191_46, o191_49, o191_52, o191_53, o191_54, o191_57, o191_58, o191_59, o191_62, o191_63, o191_64, o191_65, o191_68, o191_69, o191_71, o191_72, o191_75, o191_76, o191_77, o191_78, o191_81, o191_82, o191_83, o191_86, o191_87, o191_88, o191_90, o191_91, o191_92, o191_95, o191_96, o191_99, o191_100, o191_103, o191_104, o191_107, hx_299_1, hx_299_2, c_X5_checkSlot, c_X8_isSlot, c_X8_isThrown, c_X8_isThrown_, c_X8_isThrown__, c_X8_isQueue, c_queueOf_bad, c_X5_checkAhead, c_queueOf_2, c_X1_lying (w := A 12) (r := A 13), c_ref_5 (cs := A 18), c_X8_liesOf (x2 := A 25) (x3 := A 26) (a := A 27) (w := A 33) (r := A 36), c_X8_no (cs := A 30), mc_pi, mc_pl, mc_pr, mc_pN, mc_pT, mc_pC, mn_pi, mn_pl, mn_pr, mn_pN, mn_pT, mn_pC, mi_pi, mi_pl, mi_pr, mi_pN, mi_pT, mi_pC, ml_pi, ml_pl, ml_pr, ml_pN, ml_pT, ml_pC, mr_pi, mr_pl, mr_pr, mr_pN, mr_pT, mr_pC, mt_pi, mt_pl, mt_pr, mt_pN, mt_pT, mt_pC, mz_pi, mz_pl, mz_pr, mz_pN, mz_pT, mz_pC, ma_pi, ma_pl, ma_pr, ma_pN, ma_pT, ma_pC, mcs_0, mcs_i, mcs_l, mcs_r, mcs_n, csum_rf, Kn_v, Kn_0, Kn_x, mrf_some, kok_0, true_and, and_true, false_and, and_false, true_or, or_true, or_false, false_or, not_true_eq_false, not_false_eq_true, true_implies, false_implies, implies_true, forall_const, if_true, if_false, and_self, Nat.reduceEqDiff, Nat.reduceLeDiff, Nat.reduceSub, Nat.reduceAdd, Nat.zero_le, Nat.le_refl, i10, i01, kz0, kz1, eq_self, lt_le, Classical.not_not, Int32.reduceLT, Int32.reduceAdd, Int32.reduceSub, Int32.reduceMul, cl0, cl1, cl2, cl3, cl4, cl5, cl6, cl7, cl8, cl9, cl10, cl11, cl12, cl13, cl14, cl15, cl16, cl17, cl18, cl19, cl20, cl21, cl22, cl23, cl24, cl25, cl26, cl27, cl28, cl29, cl30, cl31, cl32, cl33, cl34, cl35, cl36, cl37, cl38, cl39, lg_cmp_eq, Kc_v, Kc_0, Sum.inl.injEq, Option.some.injEq, Value.int.injEq, exists_eq_left', Nat.reduceLT, hAe, i20, i30, kc0, kc1, kc2, kc3, kc4, kc5, kc6, kc7, kc8, kc9, kc10, kc11, kc12, kc13, kc14, kc15, kc16, kc17, kc18, kc19, kc20, kc21, kc22, kc23, kc24, kc25, kc26, kc27, kc28, kc29, kc30, kc31, kc32, kc33, kc34, kc35, kc36, kc37, kc38, kc39, kn3, kn4, kn18, kn21, kn23, kn24, kn25, kn26, kn27, kn29, kn30, kr0_0, kr0_1, kr0_2, kr0_3, kr0_4, kr0_5, kr0_7, kr0_8, kr0_9, kr0_10, kr1_0, kr2_0, kr5_0, kr5_1, kr6_0, kr6_1, kr7_0, kr7_1, kr8_0, kr9_0, kr10_0, kr11_0, kr12_0, kr13_0, kr14_0, kr15_0, kr16_0, kr17_0, kr19_0, kr19_1, kr22_0, kr22_1, kr22_2, kr22_3, kr22_4, kr22_5, kr22_7, kr22_8, kr25_0, kr25_1, kr25_2, kr26_0, kr26_1, kr26_2, kr29_0, kr29_1, kz, ki5_2, ki6_2, ki7_2, ki8_1, ki8_2, ki8_3, ki9_1, ki9_2, ki9_3, ki10_1, ki10_2, ki10_3, ki11_1, ki11_2, ki11_3, ki12_1, ki12_2, ki12_3, ki13_1, ki13_2, ki13_3, ki14_1, ki14_2, ki14_3, ki28_0, ki28_1, ki31_0, ki31_1, ki32_0, ki32_1, ki33_0, ki33_1, ki34_0, ki34_1, ki35_0, ki35_1, ki36_0, ki36_1, bq0, bqq, vq3, hT, g1, g2, g3, g4, g5, g6, g7, hark, Int32.reduceLT, cl0, cl1, cl2, s1, s2, bs2, hs, d01, d02, d03, d10, d12, d13, d20, d21, d23, d30, d31, d32, vs0, vs1, vs2, vs3, i64_inj, i64_back, fo0, fo1, fo2, fo3, nm_eq, cT2_pi hA (j := 18) (by decide), mT2_pi hA (j := 18) (by decide), cT2_pi hA (j := 22) (by decide), mT2_pi hA (j := 22) (by decide), cT2_pi hA (j := 30) (by decide), mT2_pi hA (j := 30) (by decide), cT2_pi hA (j := 24) (by decide), mT2_pi hA (j := 24) (by decide), cT2_pl, mT2_pl, cT2_pT, mT2_pT, cT2_cW hA, mT2_cW hA, mT2_mW hA, cT2_mW hA, bl, bx0, bx9, v18, cl5]
            first | refine ⟨⟨?_, ?_, ?_, ?_, ?_, ?_, ?_, ?_, ?_, ?_, ?_, ?_⟩, rfl⟩ | refine ⟨?_, ?_, ?_, ?_, ?_, ?_, ?_, ?_, ?_, ?_, ?_, ?_⟩
            · (try simp only [K_pi, K_pl, K_pC, K_cW, K_mW])
              exact vk
            · (try simp only [Cn_pi hA (j := 18) (by decide), Cn_pi hA (j := 22) (by decide), Cn_pi hA (j := 30) (by decide), Cn_pl, Cn_pT, Cn_pr])
              exact vcn
            · (try simp only [Vq0_pi hA (j := 18) (by decide), Vq0_pi hA (j := 22) (by decide), Vq0_pi hA (j := 30) (by decide), Vq0_pl, Vq0_pT, Vq0_pr])
              exact v0
            · (try simp only [Vq1_pi hA (j := 18) (by decide), Vq1_pi hA (j := 22) (by decide), Vq1_pi hA (j := 30) (by decide), Vq1_pl, Vq1_pT, Vq1_pr])
              exact v1
            · (try simp only [Vq2_pi hA (j := 18) (by decide), Vq2_pi hA (j := 22) (by decide), Vq2_pi hA (j := 30) (by decide), Vq2_pl, Vq2_pT, Vq2_pr])
              exact v2
            · (try simp only [Vp_pi hA (j := 18) (by decide), Vp_pi hA (j := 30) (by decide), Vp_thr hA, Vp_pl, Vp_pT, Vp_pr])
              exact vp
            · (try simp only [Vl0_pi hA (j := 18) (by decide), Vl0_pi hA (j := 22) (by decide), Vl0_pi hA (j := 30) (by decide), Vl0_pl, Vl0_pT, Vl0_pr])
              exact vl0
            · (try simp only [Vl1_pi hA (j := 18) (by decide), Vl1_pi hA (j := 22) (by decide), Vl1_pi hA (j := 30) (by decide), Vl1_pl, Vl1_pT, Vl1_pr])
              exact vl1
            · (try simp only [Vlr_pi hA (j := 18) (by decide), Vlr_pi hA (j := 22) (by decide), Vlr_pi hA (j := 30) (by decide), Vlr_pl hA (j := 39) (by decide), Vlr_pT, Vlr_pr])
              exact vlr
            · (try simp only [Vsr_pi hA (j := 18) (by decide), Vsr_pi hA (j := 22) (by decide), Vsr_pi hA (j := 30) (by decide), Vsr_pl hA (j := 39) (by decide), Vsr_pT, Vsr_pr])
              exact vsr
            · refine Vc_of (c := 5) vc (by decide) (fun k => ?_) (fun k => ?_) <;> simp only [l_cW, l_mW, mi_pi, mi_pl, ml_pi, ml_pl, mi_pT, ml_pT, mi_pr, ml_pr, hAe, Nat.reduceLT, Nat.reduceEqDiff, false_and, and_false, true_and, and_true, if_false, if_true, eq_self]
            · (try simp only [Tx_pi hA (j := 18) (by decide), Tx_pi hA (j := 22) (by decide), Tx_pi hA (j := 30) (by decide), Tx_pl])
              exact tx


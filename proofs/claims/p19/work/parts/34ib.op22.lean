set_option maxRecDepth 16384
theorem hx_311_1 {l rest : List Value} {bc bs : Nat} {Q : MR → MH → Prop} {h : MH} : Kc Ok 311 3 6 l rest bc bs Q (.inr 1) h ↔ ∀ q : Nat, Ok 311 12 l [.ref q] h bc bs Q := Kc_x (by decide +kernel) (by decide +kernel)
theorem x_queueText {A : Nat → Nat} {h : MH} (R : Rl A h) {q : Int32} : Ok 311 0 [.ref (A 0), .int q, .ref (A 39), mk0] [] h 130 19210 (fun r m => ∃ k : Int32, r = .inl (some (.int k)) ∧ Rl A m) := by
  have R0 := R
  obtain ⟨vk, vcn, v0, v1, v2, vp, vl0, vl1, vlr, vsr, vc, tx⟩ := R0
  have vk0 := vk
  have vcn0 := vcn
  (refine K_el vk0 ?_; intros hA kc0 kc1 kc2 kc3 kc4 kc5 kc6 kc7 kc8 kc9 kc10 kc11 kc12 kc13 kc14 kc15 kc16 kc17 kc18 kc19 kc20 kc21 kc22 kc23 kc24 kc25 kc26 kc27 kc28 kc29 kc30 kc31 kc32 kc33 kc34 kc35 kc36 kc37 kc38 kc39 kz kt kn3 kn4 kn18 kn21 kn23 kn24 kn25 kn26 kn27 kn29 kn30 kr0_0 kr0_1 kr0_2 kr0_3 kr0_4 kr0_5 kr0_7 kr0_8 kr0_9 kr0_10 kr1_0 kr2_0 kr5_0 kr5_1 kr6_0 kr6_1 kr7_0 kr7_1 kr8_0 kr9_0 kr10_0 kr11_0 kr12_0 kr13_0 kr14_0 kr15_0 kr16_0 kr17_0 kr19_0 kr19_1 kr22_0 kr22_1 kr22_2 kr22_3 kr22_4 kr22_5 kr22_7 kr22_8 kr25_0 kr25_1 kr25_2 kr26_0 kr26_1 kr26_2 kr29_0 kr29_1)
  (refine Cn_el vcn0 ?_; intros ki5_2 ki6_2 ki7_2 ki8_1 ki8_2 ki8_3 ki9_1 ki9_2 ki9_3 ki10_1 ki10_2 ki10_3 ki11_1 ki11_2 ki11_3 ki12_1 ki12_2 ki12_3 ki13_1 ki13_2 ki13_3 ki14_1 ki14_2 ki14_3 ki28_0 ki28_1 ki31_0 ki31_1 ki32_0 ki32_1 ki33_0 ki33_1 ki34_0 ki34_1 ki35_0 ki35_1 ki36_0 ki36_1)
  have hAe : ∀ i j, i < 40 → j < 40 → (A i = A j ↔ i = j) := hA
  by_cases bq : q < 0 ∨ ¬ q < 3
  · simp only [o311_0, o311_1, o311_2, o311_3, o311_12, o311_13, o311_14, o80_0, o80_1, o80_2, o80_3, c_queueOf_bad, mcs_0, mcs_r, Kn_x, true_and, forall_const, Nat.reduceLeDiff, Nat.reduceSub, Nat.reduceAdd, Nat.le_refl, Sum.inl.injEq, Option.some.injEq, Value.int.injEq, exists_eq_left', kc0, bq, hx_311_1]
    intro t ht
    first | exact Rl_pT R ht | exact ⟨_, rfl, Rl_pT R ht⟩
  · have y1 : ¬ q < 0 := fun z => bq (Or.inl z)
    have y2 : q < 3 := Classical.byContradiction fun z => bq (Or.inr z)
    have bq2 : (¬ q < 0 ∧ q < 3) = True := eq_true ⟨y1, y2⟩
    rcases q_cases y1 y2 with rfl | rfl | rfl
    · simp only [o311_0, o311_1, o311_2, o311_3, o80_0, o80_1, o80_2, o80_3, o80_6, c_queueOf_0, mcs_0, mcs_r, Kn_v, true_and, Nat.reduceLeDiff, Nat.reduceSub, Nat.reduceAdd, Nat.zero_le, Nat.le_refl, Option.some.injEq, kc0, kr0_2]
      refine c_gQ0 R (fun m f b => ?_)
      have R8 := Rl_Fx R f b
      have R0 := R8
      obtain ⟨vk, vcn, v0, v1, v2, vp, vl0, vl1, vlr, vsr, vc, tx⟩ := R0
      have vk0 := vk
      have vcn0 := vcn
      (refine K_el vk0 ?_; intros hA kc0 kc1 kc2 kc3 kc4 kc5 kc6 kc7 kc8 kc9 kc10 kc11 kc12 kc13 kc14 kc15 kc16 kc17 kc18 kc19 kc20 kc21 kc22 kc23 kc24 kc25 kc26 kc27 kc28 kc29 kc30 kc31 kc32 kc33 kc34 kc35 kc36 kc37 kc38 kc39 kz kt kn3 kn4 kn18 kn21 kn23 kn24 kn25 kn26 kn27 kn29 kn30 kr0_0 kr0_1 kr0_2 kr0_3 kr0_4 kr0_5 kr0_7 kr0_8 kr0_9 kr0_10 kr1_0 kr2_0 kr5_0 kr5_1 kr6_0 kr6_1 kr7_0 kr7_1 kr8_0 kr9_0 kr10_0 kr11_0 kr12_0 kr13_0 kr14_0 kr15_0 kr16_0 kr17_0 kr19_0 kr19_1 kr22_0 kr22_1 kr22_2 kr22_3 kr22_4 kr22_5 kr22_7 kr22_8 kr25_0 kr25_1 kr25_2 kr26_0 kr26_1 kr26_2 kr29_0 kr29_1)
      (refine Cn_el vcn0 ?_; intros ki5_2 ki6_2 ki7_2 ki8_1 ki8_2 ki8_3 ki9_1 ki9_2 ki9_3 ki10_1 ki10_2 ki10_3 ki11_1 ki11_2 ki11_3 ki12_1 ki12_2 ki12_3 ki13_1 ki13_2 ki13_3 ki14_1 ki14_2 ki14_3 ki28_0 ki28_1 ki31_0 ki31_1 ki32_0 ki32_1 ki33_0 ki33_1 ki34_0 ki34_1 ki35_0 ki35_1 ki36_0 ki36_1)
      have hAe : ∀ i j, i < 40 → j < 40 → (A i = A j ↔ i = j) := hA
      simp only [o80_9, o80_10, o80_13, mcs_0, Kn_0, mrf_some, true_and, Nat.reduceSub, Nat.zero_le, Nat.le_refl, kc0, kc19, kr0_10]
      refine c_joined (Wo_of R8) b (fun m3 s9 f3 t hs => ?_)
      have R9 := Rl_Fr R8 f3
      simp only [o80_16, Kn_v, Kc_v]
      have RL9 := R9
      have R0 := R9
      obtain ⟨vk, vcn, v0, v1, v2, vp, vl0, vl1, vlr, vsr, vc, tx⟩ := R0
      have vk0 := vk
      have vcn0 := vcn
      (refine K_el vk0 ?_; intros hA kc0 kc1 kc2 kc3 kc4 kc5 kc6 kc7 kc8 kc9 kc10 kc11 kc12 kc13 kc14 kc15 kc16 kc17 kc18 kc19 kc20 kc21 kc22 kc23 kc24 kc25 kc26 kc27 kc28 kc29 kc30 kc31 kc32 kc33 kc34 kc35 kc36 kc37 kc38 kc39 kz kt kn3 kn4 kn18 kn21 kn23 kn24 kn25 kn26 kn27 kn29 kn30 kr0_0 kr0_1 kr0_2 kr0_3 kr0_4 kr0_5 kr0_7 kr0_8 kr0_9 kr0_10 kr1_0 kr2_0 kr5_0 kr5_1 kr6_0 kr6_1 kr7_0 kr7_1 kr8_0 kr9_0 kr10_0 kr11_0 kr12_0 kr13_0 kr14_0 kr15_0 kr16_0 kr17_0 kr19_0 kr19_1 kr22_0 kr22_1 kr22_2 kr22_3 kr22_4 kr22_5 kr22_7 kr22_8 kr25_0 kr25_1 kr25_2 kr26_0 kr26_1 kr26_2 kr29_0 kr29_1)
      (refine Cn_el vcn0 ?_; intros ki5_2 ki6_2 ki7_2 ki8_1 ki8_2 ki8_3 ki9_1 ki9_2 ki9_3 ki10_1 ki10_2 ki10_3 ki11_1 ki11_2 ki11_3 ki12_1 ki12_2 ki12_3 ki13_1 ki13_2 ki13_3 ki14_1 ki14_2 ki14_3 ki28_0 ki28_1 ki31_0 ki31_1 ki32_0 ki32_1 ki33_0 ki33_1 ki34_0 ki34_1 ki35_0 ki35_1 ki36_0 ki36_1)
      have hAe : ∀ i j, i < 40 → j < 40 → (A i = A j ↔ i = j) := hA
      simp only [o311_6, o311_9, o311_15, o311_16, true_and, and_self, Sum.inl.injEq, Option.some.injEq, Value.int.injEq, exists_eq_left', Nat.reduceLT, kc39, kz]
      first | exact Rl_out RL9 | exact ⟨_, rfl, Rl_out RL9⟩
    · simp only [o311_0, o311_1, o311_2, o311_3, o80_0, o80_1, o80_2, o80_3, o80_6, c_queueOf_1, mcs_0, mcs_r, Kn_v, true_and, Nat.reduceLeDiff, Nat.reduceSub, Nat.reduceAdd, Nat.zero_le, Nat.le_refl, Option.some.injEq, kc0, kr0_3]
      refine c_gQ1 R (fun m f b => ?_)
      have R8 := Rl_Fx R f b
      have R0 := R8
      obtain ⟨vk, vcn, v0, v1, v2, vp, vl0, vl1, vlr, vsr, vc, tx⟩ := R0
      have vk0 := vk
      have vcn0 := vcn
      (refine K_el vk0 ?_; intros hA kc0 kc1 kc2 kc3 kc4 kc5 kc6 kc7 kc8 kc9 kc10 kc11 kc12 kc13 kc14 kc15 kc16 kc17 kc18 kc19 kc20 kc21 kc22 kc23 kc24 kc25 kc26 kc27 kc28 kc29 kc30 kc31 kc32 kc33 kc34 kc35 kc36 kc37 kc38 kc39 kz kt kn3 kn4 kn18 kn21 kn23 kn24 kn25 kn26 kn27 kn29 kn30 kr0_0 kr0_1 kr0_2 kr0_3 kr0_4 kr0_5 kr0_7 kr0_8 kr0_9 kr0_10 kr1_0 kr2_0 kr5_0 kr5_1 kr6_0 kr6_1 kr7_0 kr7_1 kr8_0 kr9_0 kr10_0 kr11_0 kr12_0 kr13_0 kr14_0 kr15_0 kr16_0 kr17_0 kr19_0 kr19_1 kr22_0 kr22_1 kr22_2 kr22_3 kr22_4 kr22_5 kr22_7 kr22_8 kr25_0 kr25_1 kr25_2 kr26_0 kr26_1 kr26_2 kr29_0 kr29_1)
      (refine Cn_el vcn0 ?_; intros ki5_2 ki6_2 ki7_2 ki8_1 ki8_2 ki8_3 ki9_1 ki9_2 ki9_3 ki10_1 ki10_2 ki10_3 ki11_1 ki11_2 ki11_3 ki12_1 ki12_2 ki12_3 ki13_1 ki13_2 ki13_3 ki14_1 ki14_2 ki14_3 ki28_0 ki28_1 ki31_0 ki31_1 ki32_0 ki32_1 ki33_0 ki33_1 ki34_0 ki34_1 ki35_0 ki35_1 ki36_0 ki36_1)
      have hAe : ∀ i j, i < 40 → j < 40 → (A i = A j ↔ i = j) := hA
      simp only [o80_9, o80_10, o80_13, mcs_0, Kn_0, mrf_some, true_and, Nat.reduceSub, Nat.zero_le, Nat.le_refl, kc0, kc19, kr0_10]
      refine c_joined (Wo_of R8) b (fun m3 s9 f3 t hs => ?_)
      have R9 := Rl_Fr R8 f3
      simp only [o80_16, Kn_v, Kc_v]
      have RL9 := R9
      have R0 := R9
      obtain ⟨vk, vcn, v0, v1, v2, vp, vl0, vl1, vlr, vsr, vc, tx⟩ := R0
      have vk0 := vk
      have vcn0 := vcn
      (refine K_el vk0 ?_; intros hA kc0 kc1 kc2 kc3 kc4 kc5 kc6 kc7 kc8 kc9 kc10 kc11 kc12 kc13 kc14 kc15 kc16 kc17 kc18 kc19 kc20 kc21 kc22 kc23 kc24 kc25 kc26 kc27 kc28 kc29 kc30 kc31 kc32 kc33 kc34 kc35 kc36 kc37 kc38 kc39 kz kt kn3 kn4 kn18 kn21 kn23 kn24 kn25 kn26 kn27 kn29 kn30 kr0_0 kr0_1 kr0_2 kr0_3 kr0_4 kr0_5 kr0_7 kr0_8 kr0_9 kr0_10 kr1_0 kr2_0 kr5_0 kr5_1 kr6_0 kr6_1 kr7_0 kr7_1 kr8_0 kr9_0 kr10_0 kr11_0 kr12_0 kr13_0 kr14_0 kr15_0 kr16_0 kr17_0 kr19_0 kr19_1 kr22_0 kr22_1 kr22_2 kr22_3 kr22_4 kr22_5 kr22_7 kr22_8 kr25_0 kr25_1 kr25_2 kr26_0 kr26_1 kr26_2 kr29_0 kr29_1)
      (refine Cn_el vcn0 ?_; intros ki5_2 ki6_2 ki7_2 ki8_1 ki8_2 ki8_3 ki9_1 ki9_2 ki9_3 ki10_1 ki10_2 ki10_3 ki11_1 ki11_2 ki11_3 ki12_1 ki12_2 ki12_3 ki13_1 ki13_2 ki13_3 ki14_1 ki14_2 ki14_3 ki28_0 ki28_1 ki31_0 ki31_1 ki32_0 ki32_1 ki33_0 ki33_1 ki34_0 ki34_1 ki35_0 ki35_1 ki36_0 ki36_1)
      have hAe : ∀ i j, i < 40 → j < 40 → (A i = A j ↔ i = j) := hA
      simp only [o311_6, o311_9, o311_15, o311_16, true_and, and_self, Sum.inl.injEq, Option.some.injEq, Value.int.injEq, exists_eq_left', Nat.reduceLT, kc39, kz]
      first | exact Rl_out RL9 | exact ⟨_, rfl, Rl_out RL9⟩
    · simp only [o311_0, o311_1, o311_2, o311_3, o80_0, o80_1, o80_2, o80_3, o80_6, c_queueOf_2, mcs_0, mcs_r, Kn_v, true_and, Nat.reduceLeDiff, Nat.reduceSub, Nat.reduceAdd, Nat.zero_le, Nat.le_refl, Option.some.injEq, kc0, kr0_4]
      refine c_gQ2 R (fun m f b => ?_)
      have R8 := Rl_Fx R f b
      have R0 := R8
      obtain ⟨vk, vcn, v0, v1, v2, vp, vl0, vl1, vlr, vsr, vc, tx⟩ := R0
      have vk0 := vk
      have vcn0 := vcn
      (refine K_el vk0 ?_; intros hA kc0 kc1 kc2 kc3 kc4 kc5 kc6 kc7 kc8 kc9 kc10 kc11 kc12 kc13 kc14 kc15 kc16 kc17 kc18 kc19 kc20 kc21 kc22 kc23 kc24 kc25 kc26 kc27 kc28 kc29 kc30 kc31 kc32 kc33 kc34 kc35 kc36 kc37 kc38 kc39 kz kt kn3 kn4 kn18 kn21 kn23 kn24 kn25 kn26 kn27 kn29 kn30 kr0_0 kr0_1 kr0_2 kr0_3 kr0_4 kr0_5 kr0_7 kr0_8 kr0_9 kr0_10 kr1_0 kr2_0 kr5_0 kr5_1 kr6_0 kr6_1 kr7_0 kr7_1 kr8_0 kr9_0 kr10_0 kr11_0 kr12_0 kr13_0 kr14_0 kr15_0 kr16_0 kr17_0 kr19_0 kr19_1 kr22_0 kr22_1 kr22_2 kr22_3 kr22_4 kr22_5 kr22_7 kr22_8 kr25_0 kr25_1 kr25_2 kr26_0 kr26_1 kr26_2 kr29_0 kr29_1)
      (refine Cn_el vcn0 ?_; intros ki5_2 ki6_2 ki7_2 ki8_1 ki8_2 ki8_3 ki9_1 ki9_2 ki9_3 ki10_1 ki10_2 ki10_3 ki11_1 ki11_2 ki11_3 ki12_1 ki12_2 ki12_3 ki13_1 ki13_2 ki13_3 ki14_1 ki14_2 ki14_3 ki28_0 ki28_1 ki31_0 ki31_1 ki32_0 ki32_1 ki33_0 ki33_1 ki34_0 ki34_1 ki35_0 ki35_1 ki36_0 ki36_1)
      have hAe : ∀ i j, i < 40 → j < 40 → (A i = A j ↔ i = j) := hA
      simp only [o80_9, o80_10, o80_13, mcs_0, Kn_0, mrf_some, true_and, Nat.reduceSub, Nat.zero_le, Nat.le_refl, kc0, kc19, kr0_10]
      refine c_joined (Wo_of R8) b (fun m3 s9 f3 t hs => ?_)
      have R9 := Rl_Fr R8 f3
      simp only [o80_16, Kn_v, Kc_v]
      have RL9 := R9
      have R0 := R9
      obtain ⟨vk, vcn, v0, v1, v2, vp, vl0, vl1, vlr, vsr, vc, tx⟩ := R0
      have vk0 := vk
      have vcn0 := vcn
      (refine K_el vk0 ?_; intros hA kc0 kc1 kc2 kc3 kc4 kc5 kc6 kc7 kc8 kc9 kc10 kc11 kc12 kc13 kc14 kc15 kc16 kc17 kc18 kc19 kc20 kc21 kc22 kc23 kc24 kc25 kc26 kc27 kc28 kc29 kc30 kc31 kc32 kc33 kc34 kc35 kc36 kc37 kc38 kc39 kz kt kn3 kn4 kn18 kn21 kn23 kn24 kn25 kn26 kn27 kn29 kn30 kr0_0 kr0_1 kr0_2 kr0_3 kr0_4 kr0_5 kr0_7 kr0_8 kr0_9 kr0_10 kr1_0 kr2_0 kr5_0 kr5_1 kr6_0 kr6_1 kr7_0 kr7_1 kr8_0 kr9_0 kr10_0 kr11_0 kr12_0 kr13_0 kr14_0 kr15_0 kr16_0 kr17_0 kr19_0 kr19_1 kr22_0 kr22_1 kr22_2 kr22_3 kr22_4 kr22_5 kr22_7 kr22_8 kr25_0 kr25_1 kr25_2 kr26_0 kr26_1 kr26_2 kr29_0 kr29_1)
      (refine Cn_el vcn0 ?_; intros ki5_2 ki6_2 ki7_2 ki8_1 ki8_2 ki8_3 ki9_1 ki9_2 ki9_3 ki10_1 ki10_2 ki10_3 ki11_1 ki11_2 ki11_3 ki12_1 ki12_2 ki12_3 ki13_1 ki13_2 ki13_3 ki14_1 ki14_2 ki14_3 ki28_0 ki28_1 ki31_0 ki31_1 ki32_0 ki32_1 ki33_0 ki33_1 ki34_0 ki34_1 ki35_0 ki35_1 ki36_0 ki36_1)
      have hAe : ∀ i j, i < 40 → j < 40 → (A i = A j ↔ i = j) := hA
      simp only [o311_6, o311_9, o311_15, o311_16, true_and, and_self, Sum.inl.injEq, Option.some.injEq, Value.int.injEq, exists_eq_left', Nat.reduceLT, kc39, kz]
      first | exact Rl_out RL9 | exact ⟨_, rfl, Rl_out RL9⟩

theorem m_queueText {A : Nat → Nat} {h : MH} (R : Rl A h) (Cc : Cs h) {q : Int32} : Ok 206 0 [.ref (A 22), .int q] [] h 16 1974 (fun r m => ∃ b : Nat, r = .inl (some (.ref b)) ∧ Rl A m) := by
  have R0 := R
  obtain ⟨vk, vcn, v0, v1, v2, vp, vl0, vl1, vlr, vsr, vc, tx⟩ := R0
  have vk0 := vk
  have vcn0 := vcn
  (refine K_el vk0 ?_; intros hA kc0 kc1 kc2 kc3 kc4 kc5 kc6 kc7 kc8 kc9 kc10 kc11 kc12 kc13 kc14 kc15 kc16 kc17 kc18 kc19 kc20 kc21 kc22 kc23 kc24 kc25 kc26 kc27 kc28 kc29 kc30 kc31 kc32 kc33 kc34 kc35 kc36 kc37 kc38 kc39 kz kt kn3 kn4 kn18 kn21 kn23 kn24 kn25 kn26 kn27 kn29 kn30 kr0_0 kr0_1 kr0_2 kr0_3 kr0_4 kr0_5 kr0_7 kr0_8 kr0_9 kr0_10 kr1_0 kr2_0 kr5_0 kr5_1 kr6_0 kr6_1 kr7_0 kr7_1 kr8_0 kr9_0 kr10_0 kr11_0 kr12_0 kr13_0 kr14_0 kr15_0 kr16_0 kr17_0 kr19_0 kr19_1 kr22_0 kr22_1 kr22_2 kr22_3 kr22_4 kr22_5 kr22_7 kr22_8 kr25_0 kr25_1 kr25_2 kr26_0 kr26_1 kr26_2 kr29_0 kr29_1)
  (refine Cn_el vcn0 ?_; intros ki5_2 ki6_2 ki7_2 ki8_1 ki8_2 ki8_3 ki9_1 ki9_2 ki9_3 ki10_1 ki10_2 ki10_3 ki11_1 ki11_2 ki11_3 ki12_1 ki12_2 ki12_3 ki13_1 ki13_2 ki13_3 ki14_1 ki14_2 ki14_3 ki28_0 ki28_1 ki31_0 ki31_1 ki32_0 ki32_1 ki33_0 ki33_1 ki34_0 ki34_1 ki35_0 ki35_1 ki36_0 ki36_1)
  have hAe : ∀ i j, i < 40 → j < 40 → (A i = A j ↔ i = j) := hA
  by_cases bq : q < 0 ∨ ¬ q < 3
  · have bq2 : (¬ q < 0 ∧ q < 3) = False := nrng bq
    simp only [o206_0, o206_1, o206_2, o206_5, o206_8, o206_9, o206_12, o206_13, o206_16, o206_19, o206_21, o206_24, o206_25, o206_26, o206_29, c_X8_isQueue, c_X8_isThrown__, mc_pi, ma_pi, mcs_0, mcs_r, Kn_v, true_and, and_true, not_true_eq_false, not_false_eq_true, false_implies, forall_const, if_true, if_false, Nat.reduceLeDiff, Nat.reduceSub, Nat.reduceAdd, Nat.zero_le, Nat.le_refl, i10, Sum.inl.injEq, Option.some.injEq, Nat.reduceLT, kc22, kz, bq2]
    first | exact Rl_thr R | exact ⟨_, rfl, Rl_thr R⟩
  · have y1 : ¬ q < 0 := fun z => bq (Or.inl z)
    have y2 : q < 3 := Classical.byContradiction fun z => bq (Or.inr z)
    have bq2 : (¬ q < 0 ∧ q < 3) = True := eq_true ⟨y1, y2⟩
    have Rt : Rl A (p_i h (A 22) 9 0) := Rl_thr R
    have Ct : Cs (p_i h (A 22) 9 0) := Cs_Lw Cc (Lw_pi (kz 22 (by decide)))
    rcases q_cases y1 y2 with rfl | rfl | rfl
    · simp only [o206_0, o206_1, o206_2, o206_5, o206_8, o206_9, o206_12, o206_13, o206_16, o206_19, o206_21, o206_24, o206_25, o206_26, c_X8_isQueue, c_X8_isThrown__, mc_pi, ma_pi, mcs_0, mcs_r, Kn_v, true_and, and_true, not_true_eq_false, not_false_eq_true, false_implies, forall_const, if_true, if_false, and_self, Nat.reduceLeDiff, Nat.reduceSub, Nat.reduceAdd, Nat.zero_le, Nat.le_refl, i10, Int32.reduceLT, Nat.reduceLT, kc22, kz]
      refine m_textOf0 Rt Ct (fun m s9 sb hsb f t => ?_)
      have R9 := Rl_Fn Rt f hsb hsb
      simp only [o206_29, Kn_v, Sum.inl.injEq, Option.some.injEq]
      first | exact R9 | exact ⟨_, rfl, R9⟩
    · simp only [o206_0, o206_1, o206_2, o206_5, o206_8, o206_9, o206_12, o206_13, o206_16, o206_19, o206_21, o206_24, o206_25, o206_26, c_X8_isQueue, c_X8_isThrown__, mc_pi, ma_pi, mcs_0, mcs_r, Kn_v, true_and, and_true, not_true_eq_false, not_false_eq_true, false_implies, forall_const, if_true, if_false, and_self, Nat.reduceLeDiff, Nat.reduceSub, Nat.reduceAdd, Nat.zero_le, Nat.le_refl, i10, Int32.reduceLT, Nat.reduceLT, kc22, kz]
      refine m_textOf1 Rt Ct (fun m s9 sb hsb f t => ?_)
      have R9 := Rl_Fn Rt f hsb hsb
      simp only [o206_29, Kn_v, Sum.inl.injEq, Option.some.injEq]
      first | exact R9 | exact ⟨_, rfl, R9⟩
    · simp only [o206_0, o206_1, o206_2, o206_5, o206_8, o206_9, o206_12, o206_13, o206_16, o206_19, o206_21, o206_24, o206_25, o206_26, c_X8_isQueue, c_X8_isThrown__, mc_pi, ma_pi, mcs_0, mcs_r, Kn_v, true_and, and_true, not_true_eq_false, not_false_eq_true, false_implies, forall_const, if_true, if_false, and_self, Nat.reduceLeDiff, Nat.reduceSub, Nat.reduceAdd, Nat.zero_le, Nat.le_refl, i10, Int32.reduceLT, Nat.reduceLT, kc22, kz]
      refine m_textOf2 Rt Ct (fun m s9 sb hsb f t => ?_)
      have R9 := Rl_Fn Rt f hsb hsb
      simp only [o206_29, Kn_v, Sum.inl.injEq, Option.some.injEq]
      first | exact R9 | exact ⟨_, rfl, R9⟩

theorem x_pipeText {A : Nat → Nat} {h : MH} (R : Rl A h) : Ok 90 0 [.ref (A 0)] [] h 213 31804 (fun r m => ∃ b : Nat, r = .inl (some (.ref b)) ∧ Rl A m) := by
  have R0 := R
  obtain ⟨vk, vcn, v0, v1, v2, vp, vl0, vl1, vlr, vsr, vc, tx⟩ := R0
  have vk0 := vk
  have vcn0 := vcn
  (refine K_el vk0 ?_; intros hA kc0 kc1 kc2 kc3 kc4 kc5 kc6 kc7 kc8 kc9 kc10 kc11 kc12 kc13 kc14 kc15 kc16 kc17 kc18 kc19 kc20 kc21 kc22 kc23 kc24 kc25 kc26 kc27 kc28 kc29 kc30 kc31 kc32 kc33 kc34 kc35 kc36 kc37 kc38 kc39 kz kt kn3 kn4 kn18 kn21 kn23 kn24 kn25 kn26 kn27 kn29 kn30 kr0_0 kr0_1 kr0_2 kr0_3 kr0_4 kr0_5 kr0_7 kr0_8 kr0_9 kr0_10 kr1_0 kr2_0 kr5_0 kr5_1 kr6_0 kr6_1 kr7_0 kr7_1 kr8_0 kr9_0 kr10_0 kr11_0 kr12_0 kr13_0 kr14_0 kr15_0 kr16_0 kr17_0 kr19_0 kr19_1 kr22_0 kr22_1 kr22_2 kr22_3 kr22_4 kr22_5 kr22_7 kr22_8 kr25_0 kr25_1 kr25_2 kr26_0 kr26_1 kr26_2 kr29_0 kr29_1)
  (refine Cn_el vcn0 ?_; intros ki5_2 ki6_2 ki7_2 ki8_1 ki8_2 ki8_3 ki9_1 ki9_2 ki9_3 ki10_1 ki10_2 ki10_3 ki11_1 ki11_2 ki11_3 ki12_1 ki12_2 ki12_3 ki13_1 ki13_2 ki13_3 ki14_1 ki14_2 ki14_3 ki28_0 ki28_1 ki31_0 ki31_1 ki32_0 ki32_1 ki33_0 ki33_1 ki34_0 ki34_1 ki35_0 ki35_1 ki36_0 ki36_1)
  have hAe : ∀ i j, i < 40 → j < 40 → (A i = A j ↔ i = j) := hA
  simp only [o90_0, o90_1, mcs_0, true_and, Nat.reduceLeDiff, Nat.reduceSub, Nat.zero_le, kc0]
  refine c_gP R (fun m f b => ?_)
  have R8 := Rl_Fx R f b
  have R0 := R8
  obtain ⟨vk, vcn, v0, v1, v2, vp, vl0, vl1, vlr, vsr, vc, tx⟩ := R0
  have vk0 := vk
  have vcn0 := vcn
  (refine K_el vk0 ?_; intros hA kc0 kc1 kc2 kc3 kc4 kc5 kc6 kc7 kc8 kc9 kc10 kc11 kc12 kc13 kc14 kc15 kc16 kc17 kc18 kc19 kc20 kc21 kc22 kc23 kc24 kc25 kc26 kc27 kc28 kc29 kc30 kc31 kc32 kc33 kc34 kc35 kc36 kc37 kc38 kc39 kz kt kn3 kn4 kn18 kn21 kn23 kn24 kn25 kn26 kn27 kn29 kn30 kr0_0 kr0_1 kr0_2 kr0_3 kr0_4 kr0_5 kr0_7 kr0_8 kr0_9 kr0_10 kr1_0 kr2_0 kr5_0 kr5_1 kr6_0 kr6_1 kr7_0 kr7_1 kr8_0 kr9_0 kr10_0 kr11_0 kr12_0 kr13_0 kr14_0 kr15_0 kr16_0 kr17_0 kr19_0 kr19_1 kr22_0 kr22_1 kr22_2 kr22_3 kr22_4 kr22_5 kr22_7 kr22_8 kr25_0 kr25_1 kr25_2 kr26_0 kr26_1 kr26_2 kr29_0 kr29_1)
  (refine Cn_el vcn0 ?_; intros ki5_2 ki6_2 ki7_2 ki8_1 ki8_2 ki8_3 ki9_1 ki9_2 ki9_3 ki10_1 ki10_2 ki10_3 ki11_1 ki11_2 ki11_3 ki12_1 ki12_2 ki12_3 ki13_1 ki13_2 ki13_3 ki14_1 ki14_2 ki14_3 ki28_0 ki28_1 ki31_0 ki31_1 ki32_0 ki32_1 ki33_0 ki33_1 ki34_0 ki34_1 ki35_0 ki35_1 ki36_0 ki36_1)
  have hAe : ∀ i j, i < 40 → j < 40 → (A i = A j ↔ i = j) := hA
  simp only [o90_4, o90_5, o90_8, mcs_0, Kn_0, mrf_some, true_and, Nat.reduceSub, Nat.zero_le, Nat.le_refl, kc0, kc19, kr0_10]
  refine c_joined (Wo_of R8) b (fun m3 s9 f3 t hs => ?_)
  have R9 := Rl_Fr R8 f3
  simp only [o90_11, Kn_v, Sum.inl.injEq, Option.some.injEq]
  first | exact R9 | exact ⟨_, rfl, R9⟩

theorem m_pipeText {A : Nat → Nat} {h : MH} (R : Rl A h) (Cc : Cs h) : Ok 221 0 [.ref (A 22)] [] h 24 3174 (fun r m => ∃ b : Nat, r = .inl (some (.ref b)) ∧ Rl A m) := by
  have R0 := R
  obtain ⟨vk, vcn, v0, v1, v2, vp, vl0, vl1, vlr, vsr, vc, tx⟩ := R0
  have vk0 := vk
  have vcn0 := vcn
  (refine K_el vk0 ?_; intros hA kc0 kc1 kc2 kc3 kc4 kc5 kc6 kc7 kc8 kc9 kc10 kc11 kc12 kc13 kc14 kc15 kc16 kc17 kc18 kc19 kc20 kc21 kc22 kc23 kc24 kc25 kc26 kc27 kc28 kc29 kc30 kc31 kc32 kc33 kc34 kc35 kc36 kc37 kc38 kc39 kz kt kn3 kn4 kn18 kn21 kn23 kn24 kn25 kn26 kn27 kn29 kn30 kr0_0 kr0_1 kr0_2 kr0_3 kr0_4 kr0_5 kr0_7 kr0_8 kr0_9 kr0_10 kr1_0 kr2_0 kr5_0 kr5_1 kr6_0 kr6_1 kr7_0 kr7_1 kr8_0 kr9_0 kr10_0 kr11_0 kr12_0 kr13_0 kr14_0 kr15_0 kr16_0 kr17_0 kr19_0 kr19_1 kr22_0 kr22_1 kr22_2 kr22_3 kr22_4 kr22_5 kr22_7 kr22_8 kr25_0 kr25_1 kr25_2 kr26_0 kr26_1 kr26_2 kr29_0 kr29_1)
  (refine Cn_el vcn0 ?_; intros ki5_2 ki6_2 ki7_2 ki8_1 ki8_2 ki8_3 ki9_1 ki9_2 ki9_3 ki10_1 ki10_2 ki10_3 ki11_1 ki11_2 ki11_3 ki12_1 ki12_2 ki12_3 ki13_1 ki13_2 ki13_3 ki14_1 ki14_2 ki14_3 ki28_0 ki28_1 ki31_0 ki31_1 ki32_0 ki32_1 ki33_0 ki33_1 ki34_0 ki34_1 ki35_0 ki35_1 ki36_0 ki36_1)
  have hAe : ∀ i j, i < 40 → j < 40 → (A i = A j ↔ i = j) := hA
  have Rt : Rl A (p_i h (A 22) 9 0) := Rl_thr R
  have Ct : Cs (p_i h (A 22) 9 0) := Cs_Lw Cc (Lw_pi (kz 22 (by decide)))
  simp only [o221_0, o221_1, o221_2, o221_5, o221_6, mc_pi, mcs_0, kok_0, true_and, and_self, Nat.reduceSub, Nat.zero_le, Nat.le_refl, Nat.reduceLT, kc22, kz]
  refine m_pipeTextNow Rt Ct (fun m s9 sb hsb f t => ?_)
  have R9 := Rl_Fn Rt f hsb hsb
  simp only [o221_9, Kn_v, Sum.inl.injEq, Option.some.injEq]
  first | exact R9 | exact ⟨_, rfl, R9⟩


set_option maxRecDepth 16384
/-! THE OPS of the texts -/
theorem c_textOf {A : Nat → Nat} {h : MH} {v : Int64} {Q : MR → MH → Prop} (R : Rl A h) (hQ : ∀ m s, Rl A m → Q (.inl (some (.ref s))) m) : Ok 128 0 [.ref (A 0), .long v, mk0] [] h 24 3454 Q := by
  obtain ⟨n, b⟩ := Bd_of R
  have R0 := R
  obtain ⟨vk, vcn, v0, v1, v2, vp, vl0, vl1, vlr, vsr, vc, tx⟩ := R0
  have vk0 := vk
  have vcn0 := vcn
  (refine K_el vk0 ?_; intros hA kc0 kc1 kc2 kc3 kc4 kc5 kc6 kc7 kc8 kc9 kc10 kc11 kc12 kc13 kc14 kc15 kc16 kc17 kc18 kc19 kc20 kc21 kc22 kc23 kc24 kc25 kc26 kc27 kc28 kc29 kc30 kc31 kc32 kc33 kc34 kc35 kc36 kc37 kc38 kc39 kz kt kn3 kn4 kn18 kn21 kn23 kn24 kn25 kn26 kn27 kn29 kn30 kr0_0 kr0_1 kr0_2 kr0_3 kr0_4 kr0_5 kr0_7 kr0_8 kr0_9 kr0_10 kr1_0 kr2_0 kr5_0 kr5_1 kr6_0 kr6_1 kr7_0 kr7_1 kr8_0 kr9_0 kr10_0 kr11_0 kr12_0 kr13_0 kr14_0 kr15_0 kr16_0 kr17_0 kr19_0 kr19_1 kr22_0 kr22_1 kr22_2 kr22_3 kr22_4 kr22_5 kr22_7 kr22_8 kr25_0 kr25_1 kr25_2 kr26_0 kr26_1 kr26_2 kr29_0 kr29_1)
  (refine Cn_el vcn0 ?_; intros ki5_2 ki6_2 ki7_2 ki8_1 ki8_2 ki8_3 ki9_1 ki9_2 ki9_3 ki10_1 ki10_2 ki10_3 ki11_1 ki11_2 ki11_3 ki12_1 ki12_2 ki12_3 ki13_1 ki13_2 ki13_3 ki14_1 ki14_2 ki14_3 ki28_0 ki28_1 ki31_0 ki31_1 ki32_0 ki32_1 ki33_0 ki33_1 ki34_0 ki34_1 ki35_0 ki35_1 ki36_0 ki36_1)
  have hAe : ∀ i j, i < 40 → j < 40 → (A i = A j ↔ i = j) := hA
  simp only [o128_0, o128_1, o128_4, mcs_0, mrf_some, true_and, Nat.reduceLeDiff, Nat.reduceSub, Nat.zero_le, kc0, kc19, kr0_10]
  refine c_start (Wo_of R) b (fun m f b2 => ?_)
  have R2 := Rl_Fx R f b2
  have R0 := R2
  obtain ⟨vk, vcn, v0, v1, v2, vp, vl0, vl1, vlr, vsr, vc, tx⟩ := R0
  have vk0 := vk
  have vcn0 := vcn
  (refine K_el vk0 ?_; intros hA kc0 kc1 kc2 kc3 kc4 kc5 kc6 kc7 kc8 kc9 kc10 kc11 kc12 kc13 kc14 kc15 kc16 kc17 kc18 kc19 kc20 kc21 kc22 kc23 kc24 kc25 kc26 kc27 kc28 kc29 kc30 kc31 kc32 kc33 kc34 kc35 kc36 kc37 kc38 kc39 kz kt kn3 kn4 kn18 kn21 kn23 kn24 kn25 kn26 kn27 kn29 kn30 kr0_0 kr0_1 kr0_2 kr0_3 kr0_4 kr0_5 kr0_7 kr0_8 kr0_9 kr0_10 kr1_0 kr2_0 kr5_0 kr5_1 kr6_0 kr6_1 kr7_0 kr7_1 kr8_0 kr9_0 kr10_0 kr11_0 kr12_0 kr13_0 kr14_0 kr15_0 kr16_0 kr17_0 kr19_0 kr19_1 kr22_0 kr22_1 kr22_2 kr22_3 kr22_4 kr22_5 kr22_7 kr22_8 kr25_0 kr25_1 kr25_2 kr26_0 kr26_1 kr26_2 kr29_0 kr29_1)
  (refine Cn_el vcn0 ?_; intros ki5_2 ki6_2 ki7_2 ki8_1 ki8_2 ki8_3 ki9_1 ki9_2 ki9_3 ki10_1 ki10_2 ki10_3 ki11_1 ki11_2 ki11_3 ki12_1 ki12_2 ki12_3 ki13_1 ki13_2 ki13_3 ki14_1 ki14_2 ki14_3 ki28_0 ki28_1 ki31_0 ki31_1 ki32_0 ki32_1 ki33_0 ki33_1 ki34_0 ki34_1 ki35_0 ki35_1 ki36_0 ki36_1)
  have hAe : ∀ i j, i < 40 → j < 40 → (A i = A j ↔ i = j) := hA
  simp only [o128_7, o128_8, o128_11, o128_12, mcs_0, Kn_0, mrf_some, true_and, Nat.reduceLeDiff, Nat.reduceSub, Nat.zero_le, kc0, kc19, kr0_10]
  refine c_add (Wo_of R2) b2 (by have := tsz_le v; unfold sep; split <;> omega) (fun m2 f2 b3 => ?_)
  have R3 := Rl_Fx R2 f2 b3
  have R0 := R3
  obtain ⟨vk, vcn, v0, v1, v2, vp, vl0, vl1, vlr, vsr, vc, tx⟩ := R0
  have vk0 := vk
  have vcn0 := vcn
  (refine K_el vk0 ?_; intros hA kc0 kc1 kc2 kc3 kc4 kc5 kc6 kc7 kc8 kc9 kc10 kc11 kc12 kc13 kc14 kc15 kc16 kc17 kc18 kc19 kc20 kc21 kc22 kc23 kc24 kc25 kc26 kc27 kc28 kc29 kc30 kc31 kc32 kc33 kc34 kc35 kc36 kc37 kc38 kc39 kz kt kn3 kn4 kn18 kn21 kn23 kn24 kn25 kn26 kn27 kn29 kn30 kr0_0 kr0_1 kr0_2 kr0_3 kr0_4 kr0_5 kr0_7 kr0_8 kr0_9 kr0_10 kr1_0 kr2_0 kr5_0 kr5_1 kr6_0 kr6_1 kr7_0 kr7_1 kr8_0 kr9_0 kr10_0 kr11_0 kr12_0 kr13_0 kr14_0 kr15_0 kr16_0 kr17_0 kr19_0 kr19_1 kr22_0 kr22_1 kr22_2 kr22_3 kr22_4 kr22_5 kr22_7 kr22_8 kr25_0 kr25_1 kr25_2 kr26_0 kr26_1 kr26_2 kr29_0 kr29_1)
  (refine Cn_el vcn0 ?_; intros ki5_2 ki6_2 ki7_2 ki8_1 ki8_2 ki8_3 ki9_1 ki9_2 ki9_3 ki10_1 ki10_2 ki10_3 ki11_1 ki11_2 ki11_3 ki12_1 ki12_2 ki12_3 ki13_1 ki13_2 ki13_3 ki14_1 ki14_2 ki14_3 ki28_0 ki28_1 ki31_0 ki31_1 ki32_0 ki32_1 ki33_0 ki33_1 ki34_0 ki34_1 ki35_0 ki35_1 ki36_0 ki36_1)
  have hAe : ∀ i j, i < 40 → j < 40 → (A i = A j ↔ i = j) := hA
  simp only [o128_15, o128_16, o128_19, mcs_0, Kn_0, mrf_some, true_and, Nat.reduceSub, Nat.zero_le, Nat.le_refl, kc0, kc19, kr0_10]
  refine c_joined (Wo_of R3) b3 (fun m3 s f3 t hs => ?_)
  simp only [o128_22, Kn_v]
  exact hQ m3 s (Rl_Fr R3 f3)

theorem hx_295_1 {l rest : List Value} {bc bs : Nat} {Q : MR → MH → Prop} {h : MH} : Kc Ok 295 3 6 l rest bc bs Q (.inr 1) h ↔ ∀ q : Nat, Ok 295 12 l [.ref q] h bc bs Q := Kc_x (by decide +kernel) (by decide +kernel)
theorem x_slotText {A : Nat → Nat} {h : MH} (R : Rl A h) {s : Int32} : Ok 295 0 [.ref (A 0), .int s, .ref (A 39), mk0] [] h 25 3460 (fun r m => ∃ k : Int32, r = .inl (some (.int k)) ∧ Rl A m) := by
  have R0 := R
  obtain ⟨vk, vcn, v0, v1, v2, vp, vl0, vl1, vlr, vsr, vc, tx⟩ := R0
  have vk0 := vk
  have vcn0 := vcn
  (refine K_el vk0 ?_; intros hA kc0 kc1 kc2 kc3 kc4 kc5 kc6 kc7 kc8 kc9 kc10 kc11 kc12 kc13 kc14 kc15 kc16 kc17 kc18 kc19 kc20 kc21 kc22 kc23 kc24 kc25 kc26 kc27 kc28 kc29 kc30 kc31 kc32 kc33 kc34 kc35 kc36 kc37 kc38 kc39 kz kt kn3 kn4 kn18 kn21 kn23 kn24 kn25 kn26 kn27 kn29 kn30 kr0_0 kr0_1 kr0_2 kr0_3 kr0_4 kr0_5 kr0_7 kr0_8 kr0_9 kr0_10 kr1_0 kr2_0 kr5_0 kr5_1 kr6_0 kr6_1 kr7_0 kr7_1 kr8_0 kr9_0 kr10_0 kr11_0 kr12_0 kr13_0 kr14_0 kr15_0 kr16_0 kr17_0 kr19_0 kr19_1 kr22_0 kr22_1 kr22_2 kr22_3 kr22_4 kr22_5 kr22_7 kr22_8 kr25_0 kr25_1 kr25_2 kr26_0 kr26_1 kr26_2 kr29_0 kr29_1)
  (refine Cn_el vcn0 ?_; intros ki5_2 ki6_2 ki7_2 ki8_1 ki8_2 ki8_3 ki9_1 ki9_2 ki9_3 ki10_1 ki10_2 ki10_3 ki11_1 ki11_2 ki11_3 ki12_1 ki12_2 ki12_3 ki13_1 ki13_2 ki13_3 ki14_1 ki14_2 ki14_3 ki28_0 ki28_1 ki31_0 ki31_1 ki32_0 ki32_1 ki33_0 ki33_1 ki34_0 ki34_1 ki35_0 ki35_1 ki36_0 ki36_1)
  have hAe : ∀ i j, i < 40 → j < 40 → (A i = A j ↔ i = j) := hA
  by_cases bs : s < 0 ∨ ¬ s < 6
  · simp only [o295_0, o295_1, o295_2, o295_3, o295_12, o295_13, o295_14, o63_0, o63_1, o63_4, o63_5, o63_6, o63_7, c_X5_checkSlot, mcs_0, mcs_r, Kn_0, Kn_x, true_and, and_true, not_true_eq_false, false_implies, forall_const, Nat.reduceLeDiff, Nat.reduceSub, Nat.reduceAdd, Nat.zero_le, Nat.le_refl, Sum.inl.injEq, Option.some.injEq, Value.int.injEq, exists_eq_left', kc0, bs, hx_295_1]
    intro t ht
    first | exact Rl_pT R ht | exact ⟨_, rfl, Rl_pT R ht⟩
  · have s1 : ¬ s < 0 := fun z => bs (Or.inl z)
    have s2 : s < 6 := Classical.byContradiction fun z => bs (Or.inr z)
    have hs := ix_ok s1 s2
    have hs2 := hs
    obtain ⟨⟨j0, j1, j2, j3⟩, d01, d02, d03, d10, d12, d13, d20, d21, d23, d30, d31, d32⟩ := hs2
    obtain ⟨l0, l1, l2, l3⟩ := ix_lt hs
    have vs0 := (vsr _ l0).1
    have vs1 := (vsr _ l1).1
    have vs2 := (vsr _ l2).1
    have vs3 := (vsr _ l3).1
    have bs2 : (¬ s < 0 ∧ s < 6) = True := eq_true ⟨s1, s2⟩
    simp only [o295_0, o295_1, o295_2, o295_3, o63_0, o63_1, o63_4, o63_5, o63_6, o63_7, o63_10, c_X5_checkSlot, c_X5_numberIn (rw := A 2) (cs := A 4), mcs_0, mcs_r, Kn_v, Kn_0, Kn_x, true_and, or_false, not_true_eq_false, not_false_eq_true, false_implies, forall_const, Nat.reduceLeDiff, Nat.reduceSub, Nat.reduceAdd, Nat.zero_le, Nat.le_refl, kc0, kc2, kc4, kn4, kr0_1, kr2_0, s1, s2, hs, vs0, vs1, vs2, vs3, i64_back, nm_eq]
    refine c_textOf R (fun m s9 R9 => ?_)
    simp only [o63_13, Kn_v, Kc_v]
    have RL9 := R9
    have R0 := R9
    obtain ⟨vk, vcn, v0, v1, v2, vp, vl0, vl1, vlr, vsr, vc, tx⟩ := R0
    have vk0 := vk
    have vcn0 := vcn
    (refine K_el vk0 ?_; intros hA kc0 kc1 kc2 kc3 kc4 kc5 kc6 kc7 kc8 kc9 kc10 kc11 kc12 kc13 kc14 kc15 kc16 kc17 kc18 kc19 kc20 kc21 kc22 kc23 kc24 kc25 kc26 kc27 kc28 kc29 kc30 kc31 kc32 kc33 kc34 kc35 kc36 kc37 kc38 kc39 kz kt kn3 kn4 kn18 kn21 kn23 kn24 kn25 kn26 kn27 kn29 kn30 kr0_0 kr0_1 kr0_2 kr0_3 kr0_4 kr0_5 kr0_7 kr0_8 kr0_9 kr0_10 kr1_0 kr2_0 kr5_0 kr5_1 kr6_0 kr6_1 kr7_0 kr7_1 kr8_0 kr9_0 kr10_0 kr11_0 kr12_0 kr13_0 kr14_0 kr15_0 kr16_0 kr17_0 kr19_0 kr19_1 kr22_0 kr22_1 kr22_2 kr22_3 kr22_4 kr22_5 kr22_7 kr22_8 kr25_0 kr25_1 kr25_2 kr26_0 kr26_1 kr26_2 kr29_0 kr29_1)
    (refine Cn_el vcn0 ?_; intros ki5_2 ki6_2 ki7_2 ki8_1 ki8_2 ki8_3 ki9_1 ki9_2 ki9_3 ki10_1 ki10_2 ki10_3 ki11_1 ki11_2 ki11_3 ki12_1 ki12_2 ki12_3 ki13_1 ki13_2 ki13_3 ki14_1 ki14_2 ki14_3 ki28_0 ki28_1 ki31_0 ki31_1 ki32_0 ki32_1 ki33_0 ki33_1 ki34_0 ki34_1 ki35_0 ki35_1 ki36_0 ki36_1)
    have hAe : ∀ i j, i < 40 → j < 40 → (A i = A j ↔ i = j) := hA
    simp only [o295_6, o295_9, o295_15, o295_16, true_and, and_self, Sum.inl.injEq, Option.some.injEq, Value.int.injEq, exists_eq_left', Nat.reduceLT, kc39, kz]
    first | exact Rl_out RL9 | exact ⟨_, rfl, Rl_out RL9⟩

theorem m_slotText_go {A : Nat → Nat} {h : MH} {Q : MR → MH → Prop} (R : Rl A h) (Cc : Cs h) {s : Int32} (hs : ixOk s) (hQ : ∀ m b, Rl A m → Q (.inl (some (.ref b))) m) : Ok 181 24 [.ref (A 22), .int s] [] h 6 474 Q := by
  obtain ⟨b, f⟩ := nSB (Rl_z R)
  have n3 := Rl_z R
  have R1 := Rl_Fr R f
  have C1 := Cs_Fx (sb := g_t h) (dg := g_t h) Cc (Fx_Fr f) n3 n3
  have n1 : (g_t h = g_t h + 1) = False := eq_false (by omega)
  simp only [o181_24, o181_27, o181_28, o181_31, o181_33, J_init, mc_pi, mc_pr, mc_pN, mt_pN, mz_pN, ma_pi, ma_pr, ma_pN, mcs_0, mcs_r, Kn_0, true_and, if_true, if_false, Nat.reduceLeDiff, Nat.reduceSub, Nat.reduceAdd, Nat.zero_le, n3, n1, Nat.lt_succ_self]
  refine J_apS4 b (Cs_St C1).1 (by decide) (by decide) (fun q f2 b2 => ?_)
  have f3 : Fx (g_t h) (g_t h) h q := Fx_tr (Fx_Fr f) f2
  have R2 := Rl_Fn R f3 (Nat.le_refl _) (Nat.le_refl _)
  have C2 := Cs_Fx Cc f3 n3 n3
  have R0 := R2
  obtain ⟨vk, vcn, v0, v1, v2, vp, vl0, vl1, vlr, vsr, vc, tx⟩ := R0
  have vk0 := vk
  have vcn0 := vcn
  (refine K_el vk0 ?_; intros hA kc0 kc1 kc2 kc3 kc4 kc5 kc6 kc7 kc8 kc9 kc10 kc11 kc12 kc13 kc14 kc15 kc16 kc17 kc18 kc19 kc20 kc21 kc22 kc23 kc24 kc25 kc26 kc27 kc28 kc29 kc30 kc31 kc32 kc33 kc34 kc35 kc36 kc37 kc38 kc39 kz kt kn3 kn4 kn18 kn21 kn23 kn24 kn25 kn26 kn27 kn29 kn30 kr0_0 kr0_1 kr0_2 kr0_3 kr0_4 kr0_5 kr0_7 kr0_8 kr0_9 kr0_10 kr1_0 kr2_0 kr5_0 kr5_1 kr6_0 kr6_1 kr7_0 kr7_1 kr8_0 kr9_0 kr10_0 kr11_0 kr12_0 kr13_0 kr14_0 kr15_0 kr16_0 kr17_0 kr19_0 kr19_1 kr22_0 kr22_1 kr22_2 kr22_3 kr22_4 kr22_5 kr22_7 kr22_8 kr25_0 kr25_1 kr25_2 kr26_0 kr26_1 kr26_2 kr29_0 kr29_1)
  (refine Cn_el vcn0 ?_; intros ki5_2 ki6_2 ki7_2 ki8_1 ki8_2 ki8_3 ki9_1 ki9_2 ki9_3 ki10_1 ki10_2 ki10_3 ki11_1 ki11_2 ki11_3 ki12_1 ki12_2 ki12_3 ki13_1 ki13_2 ki13_3 ki14_1 ki14_2 ki14_3 ki28_0 ki28_1 ki31_0 ki31_1 ki32_0 ki32_1 ki33_0 ki33_1 ki34_0 ki34_1 ki35_0 ki35_1 ki36_0 ki36_1)
  have hAe : ∀ i j, i < 40 → j < 40 → (A i = A j ↔ i = j) := hA
  simp only [o181_36, o181_37, o181_38, o181_41, c_X8_numberOf (sr := A 24), mcs_0, mcs_r, Kn_v, true_and, Nat.reduceLeDiff, Nat.reduceSub, Nat.reduceAdd, Nat.zero_le, kc22, kc24, kn24, kr22_1, hs, b2.1]
  refine J_apL4 b2 (Cs_Dt C2).1 (Cs_Dt C2).2 (Nat.le_trans (Nat.add_le_add_left (tsz_le _) _) (by decide)) (fun q2 f4 b3 => ?_)
  have f5 := Fx_tr f3 f4
  have R3 := Rl_Fn R f5 (Nat.le_refl _) (Nat.le_refl _)
  simp only [o181_44, mcs_0, Kn_v, true_and, Nat.reduceSub, Nat.zero_le, Nat.le_refl, b3.1]
  refine J_str b3 (fun q3 s3 f6 t hs3 => ?_)
  simp only [o181_47, Kn_v]
  exact hQ q3 s3 (Rl_Fr R3 f6)

theorem m_slotText {A : Nat → Nat} {h : MH} (R : Rl A h) (Cc : Cs h) {s : Int32} : Ok 181 0 [.ref (A 22), .int s] [] h 6 474 (fun r m => ∃ b : Nat, r = .inl (some (.ref b)) ∧ Rl A m) := by
  have R0 := R
  obtain ⟨vk, vcn, v0, v1, v2, vp, vl0, vl1, vlr, vsr, vc, tx⟩ := R0
  have vk0 := vk
  have vcn0 := vcn
  (refine K_el vk0 ?_; intros hA kc0 kc1 kc2 kc3 kc4 kc5 kc6 kc7 kc8 kc9 kc10 kc11 kc12 kc13 kc14 kc15 kc16 kc17 kc18 kc19 kc20 kc21 kc22 kc23 kc24 kc25 kc26 kc27 kc28 kc29 kc30 kc31 kc32 kc33 kc34 kc35 kc36 kc37 kc38 kc39 kz kt kn3 kn4 kn18 kn21 kn23 kn24 kn25 kn26 kn27 kn29 kn30 kr0_0 kr0_1 kr0_2 kr0_3 kr0_4 kr0_5 kr0_7 kr0_8 kr0_9 kr0_10 kr1_0 kr2_0 kr5_0 kr5_1 kr6_0 kr6_1 kr7_0 kr7_1 kr8_0 kr9_0 kr10_0 kr11_0 kr12_0 kr13_0 kr14_0 kr15_0 kr16_0 kr17_0 kr19_0 kr19_1 kr22_0 kr22_1 kr22_2 kr22_3 kr22_4 kr22_5 kr22_7 kr22_8 kr25_0 kr25_1 kr25_2 kr26_0 kr26_1 kr26_2 kr29_0 kr29_1)
  (refine Cn_el vcn0 ?_; intros ki5_2 ki6_2 ki7_2 ki8_1 ki8_2 ki8_3 ki9_1 ki9_2 ki9_3 ki10_1 ki10_2 ki10_3 ki11_1 ki11_2 ki11_3 ki12_1 ki12_2 ki12_3 ki13_1 ki13_2 ki13_3 ki14_1 ki14_2 ki14_3 ki28_0 ki28_1 ki31_0 ki31_1 ki32_0 ki32_1 ki33_0 ki33_1 ki34_0 ki34_1 ki35_0 ki35_1 ki36_0 ki36_1)
  have hAe : ∀ i j, i < 40 → j < 40 → (A i = A j ↔ i = j) := hA
  by_cases bs : s < 0 ∨ ¬ s < 6
  · have bs2 : (¬ s < 0 ∧ s < 6) = False := nrng bs
    simp only [o181_0, o181_1, o181_2, o181_5, o181_8, o181_9, o181_12, o181_13, o181_16, o181_19, o181_21, o181_47, c_X8_isSlot, c_X8_isThrown__, ma_pi, mcs_0, mcs_r, Kn_v, true_and, and_true, not_true_eq_false, not_false_eq_true, false_implies, forall_const, if_true, if_false, Nat.reduceLeDiff, Nat.reduceAdd, Nat.zero_le, i10, Sum.inl.injEq, Option.some.injEq, Nat.reduceLT, kc22, kz, bs2]
    first | exact Rl_thr R | exact ⟨_, rfl, Rl_thr R⟩
  · have s1 : ¬ s < 0 := fun z => bs (Or.inl z)
    have s2 : s < 6 := Classical.byContradiction fun z => bs (Or.inr z)
    have hs := ix_ok s1 s2
    have hs2 := hs
    obtain ⟨⟨j0, j1, j2, j3⟩, d01, d02, d03, d10, d12, d13, d20, d21, d23, d30, d31, d32⟩ := hs2
    obtain ⟨l0, l1, l2, l3⟩ := ix_lt hs
    have vs0 := (vsr _ l0).1
    have vs1 := (vsr _ l1).1
    have vs2 := (vsr _ l2).1
    have vs3 := (vsr _ l3).1
    have bs2 : (¬ s < 0 ∧ s < 6) = True := eq_true ⟨s1, s2⟩
    simp only [o181_0, o181_1, o181_2, o181_5, o181_8, o181_9, o181_12, o181_13, o181_16, o181_19, o181_21, c_X8_isSlot, c_X8_isThrown__, ma_pi, mcs_0, mcs_r, Kn_v, true_and, and_true, not_true_eq_false, not_false_eq_true, false_implies, forall_const, if_true, if_false, and_self, Nat.reduceLeDiff, Nat.reduceAdd, Nat.zero_le, i10, Nat.reduceLT, kc22, kz, s1, s2]
    exact m_slotText_go (Rl_thr R) (Cs_Lw Cc (Lw_pi (kz 22 (by decide)))) hs (fun m b Rm => ⟨_, rfl, Rm⟩)

theorem hx_327_1 {l rest : List Value} {bc bs : Nat} {Q : MR → MH → Prop} {h : MH} : Kc Ok 327 3 6 l rest bc bs Q (.inr 1) h ↔ ∀ q : Nat, Ok 327 12 l [.ref q] h bc bs Q := Kc_x (by decide +kernel) (by decide +kernel)
theorem x_cellText {A : Nat → Nat} {h : MH} (R : Rl A h) {s : Int32} : Ok 327 0 [.ref (A 0), .int s, .ref (A 39), mk0] [] h 25 3460 (fun r m => ∃ k : Int32, r = .inl (some (.int k)) ∧ Rl A m) := by
  have R0 := R
  obtain ⟨vk, vcn, v0, v1, v2, vp, vl0, vl1, vlr, vsr, vc, tx⟩ := R0
  have vk0 := vk
  have vcn0 := vcn
  (refine K_el vk0 ?_; intros hA kc0 kc1 kc2 kc3 kc4 kc5 kc6 kc7 kc8 kc9 kc10 kc11 kc12 kc13 kc14 kc15 kc16 kc17 kc18 kc19 kc20 kc21 kc22 kc23 kc24 kc25 kc26 kc27 kc28 kc29 kc30 kc31 kc32 kc33 kc34 kc35 kc36 kc37 kc38 kc39 kz kt kn3 kn4 kn18 kn21 kn23 kn24 kn25 kn26 kn27 kn29 kn30 kr0_0 kr0_1 kr0_2 kr0_3 kr0_4 kr0_5 kr0_7 kr0_8 kr0_9 kr0_10 kr1_0 kr2_0 kr5_0 kr5_1 kr6_0 kr6_1 kr7_0 kr7_1 kr8_0 kr9_0 kr10_0 kr11_0 kr12_0 kr13_0 kr14_0 kr15_0 kr16_0 kr17_0 kr19_0 kr19_1 kr22_0 kr22_1 kr22_2 kr22_3 kr22_4 kr22_5 kr22_7 kr22_8 kr25_0 kr25_1 kr25_2 kr26_0 kr26_1 kr26_2 kr29_0 kr29_1)
  (refine Cn_el vcn0 ?_; intros ki5_2 ki6_2 ki7_2 ki8_1 ki8_2 ki8_3 ki9_1 ki9_2 ki9_3 ki10_1 ki10_2 ki10_3 ki11_1 ki11_2 ki11_3 ki12_1 ki12_2 ki12_3 ki13_1 ki13_2 ki13_3 ki14_1 ki14_2 ki14_3 ki28_0 ki28_1 ki31_0 ki31_1 ki32_0 ki32_1 ki33_0 ki33_1 ki34_0 ki34_1 ki35_0 ki35_1 ki36_0 ki36_1)
  have hAe : ∀ i j, i < 40 → j < 40 → (A i = A j ↔ i = j) := hA
  by_cases b1 : s < 0
  · simp only [o327_0, o327_1, o327_2, o327_3, o327_12, o327_13, o327_14, o103_0, o103_1, o103_4, o103_5, o103_7, o103_10, o103_21, o103_22, o103_23, o103_26, o103_27, mcs_0, mcs_r, mrf_some, true_and, and_true, not_true_eq_false, false_implies, forall_const, Nat.reduceLeDiff, Nat.reduceSub, Nat.reduceAdd, Nat.le_refl, Sum.inl.injEq, Option.some.injEq, Value.int.injEq, exists_eq_left', kc0, kc1, kr0_0, b1, hx_327_1]
    intro t ht
    first | exact Rl_pT R ht | exact ⟨_, rfl, Rl_pT R ht⟩
  by_cases b2 : s < 16
  · have hj : rdy 16 s := by
      rw [Int32.lt_iff_toInt_lt] at b1 b2
      have e1 : (0 : Int32).toInt = 0 := rfl
      have e2 : (16 : Int32).toInt = 16 := rfl
      rw [toNat_of (x := s) (by omega)]
      exact n_rdy (by omega) (by omega)
    have b3 : (s < (16 : Int32)) = True := eq_true b2
    simp only [o327_0, o327_1, o327_2, o327_3, o103_0, o103_1, o103_4, o103_5, o103_7, o103_10, o103_21, o103_22, o103_23, o103_26, o103_27, o103_30, c_X2_read (cs := A 3) (n := 16), mcs_0, mcs_r, Kn_v, mrf_some, true_and, and_true, not_true_eq_false, not_false_eq_true, false_implies, forall_const, Nat.reduceLeDiff, Nat.reduceSub, Nat.reduceAdd, Nat.zero_le, Nat.le_refl, kc0, kc1, kc3, kn3, kr0_0, kr1_0, b1, b3, hj]
    refine c_textOf R (fun m s9 R9 => ?_)
    simp only [o103_33, Kn_v, Kc_v]
    have RL9 := R9
    have R0 := R9
    obtain ⟨vk, vcn, v0, v1, v2, vp, vl0, vl1, vlr, vsr, vc, tx⟩ := R0
    have vk0 := vk
    have vcn0 := vcn
    (refine K_el vk0 ?_; intros hA kc0 kc1 kc2 kc3 kc4 kc5 kc6 kc7 kc8 kc9 kc10 kc11 kc12 kc13 kc14 kc15 kc16 kc17 kc18 kc19 kc20 kc21 kc22 kc23 kc24 kc25 kc26 kc27 kc28 kc29 kc30 kc31 kc32 kc33 kc34 kc35 kc36 kc37 kc38 kc39 kz kt kn3 kn4 kn18 kn21 kn23 kn24 kn25 kn26 kn27 kn29 kn30 kr0_0 kr0_1 kr0_2 kr0_3 kr0_4 kr0_5 kr0_7 kr0_8 kr0_9 kr0_10 kr1_0 kr2_0 kr5_0 kr5_1 kr6_0 kr6_1 kr7_0 kr7_1 kr8_0 kr9_0 kr10_0 kr11_0 kr12_0 kr13_0 kr14_0 kr15_0 kr16_0 kr17_0 kr19_0 kr19_1 kr22_0 kr22_1 kr22_2 kr22_3 kr22_4 kr22_5 kr22_7 kr22_8 kr25_0 kr25_1 kr25_2 kr26_0 kr26_1 kr26_2 kr29_0 kr29_1)
    (refine Cn_el vcn0 ?_; intros ki5_2 ki6_2 ki7_2 ki8_1 ki8_2 ki8_3 ki9_1 ki9_2 ki9_3 ki10_1 ki10_2 ki10_3 ki11_1 ki11_2 ki11_3 ki12_1 ki12_2 ki12_3 ki13_1 ki13_2 ki13_3 ki14_1 ki14_2 ki14_3 ki28_0 ki28_1 ki31_0 ki31_1 ki32_0 ki32_1 ki33_0 ki33_1 ki34_0 ki34_1 ki35_0 ki35_1 ki36_0 ki36_1)
    have hAe : ∀ i j, i < 40 → j < 40 → (A i = A j ↔ i = j) := hA
    simp only [o327_6, o327_9, o327_15, o327_16, true_and, and_self, Sum.inl.injEq, Option.some.injEq, Value.int.injEq, exists_eq_left', Nat.reduceLT, kc39, kz]
    first | exact Rl_out RL9 | exact ⟨_, rfl, Rl_out RL9⟩
  · have b3 : (s < (16 : Int32)) = False := eq_false b2
    simp only [o327_0, o327_1, o327_2, o327_3, o327_12, o327_13, o327_14, o103_0, o103_1, o103_4, o103_5, o103_7, o103_10, o103_21, o103_22, o103_23, o103_26, o103_27, mcs_0, mcs_r, mrf_some, true_and, not_false_eq_true, false_implies, forall_const, Nat.reduceLeDiff, Nat.reduceSub, Nat.reduceAdd, Nat.le_refl, Sum.inl.injEq, Option.some.injEq, Value.int.injEq, exists_eq_left', kc0, kc1, kr0_0, b1, b3, hx_327_1]
    intro t ht
    first | exact Rl_pT R ht | exact ⟨_, rfl, Rl_pT R ht⟩

theorem m_cellText_go {A : Nat → Nat} {h : MH} {Q : MR → MH → Prop} (R : Rl A h) (Cc : Cs h) {s : Int32} (hj : vp_in s 16) (hQ : ∀ m b, Rl A m → Q (.inl (some (.ref b))) m) : Ok 238 27 [.ref (A 22), .int s] [] h 6 474 Q := by
  obtain ⟨b, f⟩ := nSB (Rl_z R)
  have n3 := Rl_z R
  have R1 := Rl_Fr R f
  have C1 := Cs_Fx (sb := g_t h) (dg := g_t h) Cc (Fx_Fr f) n3 n3
  have n1 : (g_t h = g_t h + 1) = False := eq_false (by omega)
  simp only [o238_27, o238_30, o238_31, o238_34, o238_36, J_init, mc_pi, mc_pr, mc_pN, mt_pN, mz_pN, ma_pi, ma_pr, ma_pN, mcs_0, mcs_r, Kn_0, true_and, if_true, if_false, Nat.reduceLeDiff, Nat.reduceSub, Nat.reduceAdd, Nat.zero_le, n3, n1, Nat.lt_succ_self]
  refine J_apS4 b (Cs_St C1).1 (by decide) (by decide) (fun q f2 b2 => ?_)
  have f3 : Fx (g_t h) (g_t h) h q := Fx_tr (Fx_Fr f) f2
  have R2 := Rl_Fn R f3 (Nat.le_refl _) (Nat.le_refl _)
  have C2 := Cs_Fx Cc f3 n3 n3
  have R0 := R2
  obtain ⟨vk, vcn, v0, v1, v2, vp, vl0, vl1, vlr, vsr, vc, tx⟩ := R0
  have vk0 := vk
  have vcn0 := vcn
  (refine K_el vk0 ?_; intros hA kc0 kc1 kc2 kc3 kc4 kc5 kc6 kc7 kc8 kc9 kc10 kc11 kc12 kc13 kc14 kc15 kc16 kc17 kc18 kc19 kc20 kc21 kc22 kc23 kc24 kc25 kc26 kc27 kc28 kc29 kc30 kc31 kc32 kc33 kc34 kc35 kc36 kc37 kc38 kc39 kz kt kn3 kn4 kn18 kn21 kn23 kn24 kn25 kn26 kn27 kn29 kn30 kr0_0 kr0_1 kr0_2 kr0_3 kr0_4 kr0_5 kr0_7 kr0_8 kr0_9 kr0_10 kr1_0 kr2_0 kr5_0 kr5_1 kr6_0 kr6_1 kr7_0 kr7_1 kr8_0 kr9_0 kr10_0 kr11_0 kr12_0 kr13_0 kr14_0 kr15_0 kr16_0 kr17_0 kr19_0 kr19_1 kr22_0 kr22_1 kr22_2 kr22_3 kr22_4 kr22_5 kr22_7 kr22_8 kr25_0 kr25_1 kr25_2 kr26_0 kr26_1 kr26_2 kr29_0 kr29_1)
  (refine Cn_el vcn0 ?_; intros ki5_2 ki6_2 ki7_2 ki8_1 ki8_2 ki8_3 ki9_1 ki9_2 ki9_3 ki10_1 ki10_2 ki10_3 ki11_1 ki11_2 ki11_3 ki12_1 ki12_2 ki12_3 ki13_1 ki13_2 ki13_3 ki14_1 ki14_2 ki14_3 ki28_0 ki28_1 ki31_0 ki31_1 ki32_0 ki32_1 ki33_0 ki33_1 ki34_0 ki34_1 ki35_0 ki35_1 ki36_0 ki36_1)
  have hAe : ∀ i j, i < 40 → j < 40 → (A i = A j ↔ i = j) := hA
  simp only [o238_39, o238_40, o238_43, o238_44, o238_45, mcs_0, Kn_v, mrf_some, true_and, and_self, Nat.reduceLeDiff, Nat.reduceSub, Nat.zero_le, kc22, kc23, kn23, kr22_0, hj, b2.1]
  refine J_apL4 b2 (Cs_Dt C2).1 (Cs_Dt C2).2 (Nat.le_trans (Nat.add_le_add_left (tsz_le _) _) (by decide)) (fun q2 f4 b3 => ?_)
  have f5 := Fx_tr f3 f4
  have R3 := Rl_Fn R f5 (Nat.le_refl _) (Nat.le_refl _)
  simp only [o238_48, mcs_0, Kn_v, true_and, Nat.reduceSub, Nat.zero_le, Nat.le_refl, b3.1]
  refine J_str b3 (fun q3 s3 f6 t hs3 => ?_)
  simp only [o238_51, Kn_v]
  exact hQ q3 s3 (Rl_Fr R3 f6)

theorem m_cellText {A : Nat → Nat} {h : MH} (R : Rl A h) (Cc : Cs h) {s : Int32} : Ok 238 0 [.ref (A 22), .int s] [] h 6 474 (fun r m => ∃ b : Nat, r = .inl (some (.ref b)) ∧ Rl A m) := by
  have R0 := R
  obtain ⟨vk, vcn, v0, v1, v2, vp, vl0, vl1, vlr, vsr, vc, tx⟩ := R0
  have vk0 := vk
  have vcn0 := vcn
  (refine K_el vk0 ?_; intros hA kc0 kc1 kc2 kc3 kc4 kc5 kc6 kc7 kc8 kc9 kc10 kc11 kc12 kc13 kc14 kc15 kc16 kc17 kc18 kc19 kc20 kc21 kc22 kc23 kc24 kc25 kc26 kc27 kc28 kc29 kc30 kc31 kc32 kc33 kc34 kc35 kc36 kc37 kc38 kc39 kz kt kn3 kn4 kn18 kn21 kn23 kn24 kn25 kn26 kn27 kn29 kn30 kr0_0 kr0_1 kr0_2 kr0_3 kr0_4 kr0_5 kr0_7 kr0_8 kr0_9 kr0_10 kr1_0 kr2_0 kr5_0 kr5_1 kr6_0 kr6_1 kr7_0 kr7_1 kr8_0 kr9_0 kr10_0 kr11_0 kr12_0 kr13_0 kr14_0 kr15_0 kr16_0 kr17_0 kr19_0 kr19_1 kr22_0 kr22_1 kr22_2 kr22_3 kr22_4 kr22_5 kr22_7 kr22_8 kr25_0 kr25_1 kr25_2 kr26_0 kr26_1 kr26_2 kr29_0 kr29_1)
  (refine Cn_el vcn0 ?_; intros ki5_2 ki6_2 ki7_2 ki8_1 ki8_2 ki8_3 ki9_1 ki9_2 ki9_3 ki10_1 ki10_2 ki10_3 ki11_1 ki11_2 ki11_3 ki12_1 ki12_2 ki12_3 ki13_1 ki13_2 ki13_3 ki14_1 ki14_2 ki14_3 ki28_0 ki28_1 ki31_0 ki31_1 ki32_0 ki32_1 ki33_0 ki33_1 ki34_0 ki34_1 ki35_0 ki35_1 ki36_0 ki36_1)
  have hAe : ∀ i j, i < 40 → j < 40 → (A i = A j ↔ i = j) := hA
  by_cases b1 : s < 0
  · simp only [o238_0, o238_1, o238_2, o238_5, o238_6, o238_8, o238_11, o238_12, o238_15, o238_16, o238_19, o238_22, o238_24, o238_51, c_X8_isThrown__, ma_pi, mcs_0, Kn_v, true_and, and_true, not_true_eq_false, not_false_eq_true, false_implies, forall_const, if_true, if_false, Nat.zero_le, i10, lt_le, Classical.not_not, Sum.inl.injEq, Option.some.injEq, Nat.reduceLT, kc22, kz, b1]
    first | exact Rl_thr R | exact ⟨_, rfl, Rl_thr R⟩
  by_cases b2 : 15 < s
  · have b3 : ((15 : Int32) < s) = True := eq_true b2
    simp only [o238_0, o238_1, o238_2, o238_5, o238_6, o238_8, o238_11, o238_12, o238_15, o238_16, o238_19, o238_22, o238_24, o238_51, c_X8_isThrown__, ma_pi, mcs_0, Kn_v, true_and, and_true, not_true_eq_false, not_false_eq_true, false_implies, forall_const, if_true, if_false, Nat.zero_le, i10, lt_le, Sum.inl.injEq, Option.some.injEq, Nat.reduceLT, kc22, kz, b1, b3]
    first | exact Rl_thr R | exact ⟨_, rfl, Rl_thr R⟩
  · have b3 : ((15 : Int32) < s) = False := eq_false b2
    have hj : vp_in s 16 := by
      rw [Int32.lt_iff_toInt_lt] at b1 b2
      have e1 : (0 : Int32).toInt = 0 := rfl
      have e2 : (15 : Int32).toInt = 15 := rfl
      rw [toNat_of (x := s) (by omega)]
      exact vp_of (by omega) (by omega)
    simp only [o238_0, o238_1, o238_2, o238_5, o238_6, o238_8, o238_11, o238_12, o238_15, o238_16, o238_19, o238_22, o238_24, c_X8_isThrown__, ma_pi, mcs_0, Kn_v, true_and, and_true, not_true_eq_false, not_false_eq_true, false_implies, forall_const, if_true, if_false, Nat.zero_le, i10, lt_le, Nat.reduceLT, kc22, kz, b1, b3]
    exact m_cellText_go (Rl_thr R) (Cs_Lw Cc (Lw_pi (kz 22 (by decide)))) hj (fun m b Rm => ⟨_, rfl, Rm⟩)


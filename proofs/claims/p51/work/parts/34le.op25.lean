section
set_option maxRecDepth 16384
theorem ms_L {A : Nat → Nat} {d : Int64} {h0 m : MH} {Q : MR → MH → Prop} {bc bs : Nat} (sm : Sm A h0 m) (R : Rl A m) (hQ : ∀ a6, Ok 243 180 [.ref (A 22), .long (dL A h0 d 16), mk0, .ref (A 23), .int (Int32.ofNat 16), .int (Int32.ofNat 16), a6, mk0] [] m bc bs Q) : ∀ (k s : Nat) (a6 : Value), s + k = 16 → Ok 243 138 [.ref (A 22), .long (dL A h0 d s), mk0, .ref (A 23), .int (Int32.ofNat 16), .int (Int32.ofNat s), a6, mk0] [] m bc bs Q
  | 0, s, a6, hs => by
    have : s = 16 := by omega
    subst this
    rw [o243_138]
    simp only [o243_140, o243_142, and_true, not_true_eq_false, not_false_eq_true, false_implies, forall_const, lt_le, n_irr]
    exact hQ a6
  | k + 1, s, a6, hs => by
    have ih := ms_L sm R hQ k (s + 1)
    (refine Sm_el sm ?_; intros i0 l0 i1 l1 i2 l2 i3 l3 i4 l4 i5 l5 i6 l6 i7 l7 i8 l8 i9 l9 i10 l10 i11 l11 i12 l12 i13 l13 i14 l14 i15 l15 i16 l16 i17 l17 i18 l18 i19 l19 i23 l23 i24 l24 i25 l25 i26 l26 i27 l27 i28 l28 i29 l29 i30 l30 i31 l31 i32 l32 i33 l33 i34 l34 i35 l35 i36 l36 i37 l37 i38 l38 i39 l39 i22)
    have R0 := R
    obtain ⟨vk, vcn, v0, v1, v2, vp, vl0, vl1, vlr, vsr, vc, tx⟩ := R0
    have vk0 := vk
    have vcn0 := vcn
    (refine K_el vk0 ?_; intros hA kc0 kc1 kc2 kc3 kc4 kc5 kc6 kc7 kc8 kc9 kc10 kc11 kc12 kc13 kc14 kc15 kc16 kc17 kc18 kc19 kc20 kc21 kc22 kc23 kc24 kc25 kc26 kc27 kc28 kc29 kc30 kc31 kc32 kc33 kc34 kc35 kc36 kc37 kc38 kc39 kz kt kn3 kn4 kn18 kn21 kn23 kn24 kn25 kn26 kn27 kn29 kn30 kr0_0 kr0_1 kr0_2 kr0_3 kr0_4 kr0_5 kr0_7 kr0_8 kr0_9 kr0_10 kr1_0 kr2_0 kr5_0 kr5_1 kr6_0 kr6_1 kr7_0 kr7_1 kr8_0 kr9_0 kr10_0 kr11_0 kr12_0 kr13_0 kr14_0 kr15_0 kr16_0 kr17_0 kr19_0 kr19_1 kr22_0 kr22_1 kr22_2 kr22_3 kr22_4 kr22_5 kr22_7 kr22_8 kr25_0 kr25_1 kr25_2 kr26_0 kr26_1 kr26_2 kr29_0 kr29_1)
    (refine Cn_el vcn0 ?_; intros ki5_2 ki6_2 ki7_2 ki8_1 ki8_2 ki8_3 ki9_1 ki9_2 ki9_3 ki10_1 ki10_2 ki10_3 ki11_1 ki11_2 ki11_3 ki12_1 ki12_2 ki12_3 ki13_1 ki13_2 ki13_3 ki14_1 ki14_2 ki14_3 ki28_0 ki28_1 ki31_0 ki31_1 ki32_0 ki32_1 ki33_0 ki33_1 ki34_0 ki34_1 ki35_0 ki35_1 ki36_0 ki36_1)
    have hAe : ∀ i j, i < 40 → j < 40 → (A i = A j ↔ i = j) := hA
    have c1 : (Int32.ofNat s < Int32.ofNat 16) = True := by rw [n_lt (by omega) (by omega)]; exact eq_true (by omega)
    have c6 : Int32.ofNat s + 1 = Int32.ofNat (s + 1) := n_add s 1
    have c2 : vp_in (Int32.ofNat s) 16 := vp_of (by omega) (by omega)
    have c3 : (Int32.ofNat s).toNatClampNeg = s := n_cl (by omega)
    have c4 := (vlr s (by omega)).symm
    have c5 : (32 : Int32) = 32 := by decide
    have z := ih (.long (g_l h0 (A 3) s)) (by omega)
    rw [o243_138]
    simp only [o243_140, o243_142, o243_145, o243_146, o243_148, o243_149, o243_151, o243_152, o243_155, o243_156, o243_158, o243_160, o243_161, o243_162, o243_163, o243_164, o243_167, o243_168, o243_170, o243_171, o243_172, o243_173, o243_174, o243_177, true_and, not_true_eq_false, not_false_eq_true, false_implies, forall_const, and_self, lt_le, kc23, kn23, c1, c2, c3, c4, c6, l3]
    exact z

theorem ms_I0 {A : Nat → Nat} {d : Int64} {h0 m : MH} {Q : MR → MH → Prop} {bc bs : Nat} {a4 a5 a6 a7 : Value} (sm : Sm A h0 m) (R : Rl A m) (hQ : ∀ q, Fr (p_i m (A 22) 9 0) q → Ok 243 182 [.ref (A 22), .long (dg1 d (g_i h0 (A 14) 4)), mk0, .int 1, a4, a5, a6, a7] [] q bc bs Q) : Ok 243 182 [.ref (A 22), .long (d), mk0, .int 0, a4, a5, a6, a7] [] m (bc + 1) (bs + 8) Q := by
  have R0 := R
  obtain ⟨vk, vcn, v0, v1, v2, vp, vl0, vl1, vlr, vsr, vc, tx⟩ := R0
  have vk0 := vk
  have vcn0 := vcn
  (refine K_el vk0 ?_; intros hA kc0 kc1 kc2 kc3 kc4 kc5 kc6 kc7 kc8 kc9 kc10 kc11 kc12 kc13 kc14 kc15 kc16 kc17 kc18 kc19 kc20 kc21 kc22 kc23 kc24 kc25 kc26 kc27 kc28 kc29 kc30 kc31 kc32 kc33 kc34 kc35 kc36 kc37 kc38 kc39 kz kt kn3 kn4 kn18 kn21 kn23 kn24 kn25 kn26 kn27 kn29 kn30 kr0_0 kr0_1 kr0_2 kr0_3 kr0_4 kr0_5 kr0_7 kr0_8 kr0_9 kr0_10 kr1_0 kr2_0 kr5_0 kr5_1 kr6_0 kr6_1 kr7_0 kr7_1 kr8_0 kr9_0 kr10_0 kr11_0 kr12_0 kr13_0 kr14_0 kr15_0 kr16_0 kr17_0 kr19_0 kr19_1 kr22_0 kr22_1 kr22_2 kr22_3 kr22_4 kr22_5 kr22_7 kr22_8 kr25_0 kr25_1 kr25_2 kr26_0 kr26_1 kr26_2 kr29_0 kr29_1)
  (refine Cn_el vcn0 ?_; intros ki5_2 ki6_2 ki7_2 ki8_1 ki8_2 ki8_3 ki9_1 ki9_2 ki9_3 ki10_1 ki10_2 ki10_3 ki11_1 ki11_2 ki11_3 ki12_1 ki12_2 ki12_3 ki13_1 ki13_2 ki13_3 ki14_1 ki14_2 ki14_3 ki28_0 ki28_1 ki31_0 ki31_1 ki32_0 ki32_1 ki33_0 ki33_1 ki34_0 ki34_1 ki35_0 ki35_1 ki36_0 ki36_1)
  have hAe : ∀ i j, i < 40 → j < 40 → (A i = A j ↔ i = j) := hA
  have b8 : (8 : Int32) = 8 := by decide
  have c1 : (1 ≤ bc + 1) = True := eq_true (by omega)
  have c2 : (8 ≤ bs + 8) = True := eq_true (by omega)
  have c3 : bc + 1 - 1 = bc := by omega
  have c4 : bs + 8 - 8 = bs := by omega
  (refine Sm_el sm ?_; intros i0 l0 i1 l1 i2 l2 i3 l3 i4 l4 i5 l5 i6 l6 i7 l7 i8 l8 i9 l9 i10 l10 i11 l11 i12 l12 i13 l13 i14 l14 i15 l15 i16 l16 i17 l17 i18 l18 i19 l19 i23 l23 i24 l24 i25 l25 i26 l26 i27 l27 i28 l28 i29 l29 i30 l30 i31 l31 i32 l32 i33 l33 i34 l34 i35 l35 i36 l36 i37 l37 i38 l38 i39 l39 i22)
  rw [o243_182]
  simp only [o243_183, o243_185, o243_188, o243_189, o243_192, o243_193, o243_194, o243_195, mcs_0, mcs_l, true_and, not_true_eq_false, not_false_eq_true, false_implies, forall_const, Nat.reduceLeDiff, Nat.reduceAdd, lt_le, Int32.reduceLT, kc22, Int32.reduceLT, c1, c2, c3, c4]
  refine m_piX0 R (fun q f => ?_)
  simp only [o243_198, o243_199, o243_200, o243_201, o243_204, Kn_v, Int32.reduceAdd, i14]
  exact hQ q f

theorem ms_I1 {A : Nat → Nat} {d : Int64} {h0 m : MH} {Q : MR → MH → Prop} {bc bs : Nat} {a4 a5 a6 a7 : Value} (sm : Sm A h0 m) (R : Rl A m) (hQ : ∀ q, Fr (p_i m (A 22) 9 0) q → Ok 243 182 [.ref (A 22), .long (dg1 d (g_i h0 (A 14) 5)), mk0, .int 2, a4, a5, a6, a7] [] q bc bs Q) : Ok 243 182 [.ref (A 22), .long (d), mk0, .int 1, a4, a5, a6, a7] [] m (bc + 1) (bs + 8) Q := by
  have R0 := R
  obtain ⟨vk, vcn, v0, v1, v2, vp, vl0, vl1, vlr, vsr, vc, tx⟩ := R0
  have vk0 := vk
  have vcn0 := vcn
  (refine K_el vk0 ?_; intros hA kc0 kc1 kc2 kc3 kc4 kc5 kc6 kc7 kc8 kc9 kc10 kc11 kc12 kc13 kc14 kc15 kc16 kc17 kc18 kc19 kc20 kc21 kc22 kc23 kc24 kc25 kc26 kc27 kc28 kc29 kc30 kc31 kc32 kc33 kc34 kc35 kc36 kc37 kc38 kc39 kz kt kn3 kn4 kn18 kn21 kn23 kn24 kn25 kn26 kn27 kn29 kn30 kr0_0 kr0_1 kr0_2 kr0_3 kr0_4 kr0_5 kr0_7 kr0_8 kr0_9 kr0_10 kr1_0 kr2_0 kr5_0 kr5_1 kr6_0 kr6_1 kr7_0 kr7_1 kr8_0 kr9_0 kr10_0 kr11_0 kr12_0 kr13_0 kr14_0 kr15_0 kr16_0 kr17_0 kr19_0 kr19_1 kr22_0 kr22_1 kr22_2 kr22_3 kr22_4 kr22_5 kr22_7 kr22_8 kr25_0 kr25_1 kr25_2 kr26_0 kr26_1 kr26_2 kr29_0 kr29_1)
  (refine Cn_el vcn0 ?_; intros ki5_2 ki6_2 ki7_2 ki8_1 ki8_2 ki8_3 ki9_1 ki9_2 ki9_3 ki10_1 ki10_2 ki10_3 ki11_1 ki11_2 ki11_3 ki12_1 ki12_2 ki12_3 ki13_1 ki13_2 ki13_3 ki14_1 ki14_2 ki14_3 ki28_0 ki28_1 ki31_0 ki31_1 ki32_0 ki32_1 ki33_0 ki33_1 ki34_0 ki34_1 ki35_0 ki35_1 ki36_0 ki36_1)
  have hAe : ∀ i j, i < 40 → j < 40 → (A i = A j ↔ i = j) := hA
  have b8 : (8 : Int32) = 8 := by decide
  have c1 : (1 ≤ bc + 1) = True := eq_true (by omega)
  have c2 : (8 ≤ bs + 8) = True := eq_true (by omega)
  have c3 : bc + 1 - 1 = bc := by omega
  have c4 : bs + 8 - 8 = bs := by omega
  (refine Sm_el sm ?_; intros i0 l0 i1 l1 i2 l2 i3 l3 i4 l4 i5 l5 i6 l6 i7 l7 i8 l8 i9 l9 i10 l10 i11 l11 i12 l12 i13 l13 i14 l14 i15 l15 i16 l16 i17 l17 i18 l18 i19 l19 i23 l23 i24 l24 i25 l25 i26 l26 i27 l27 i28 l28 i29 l29 i30 l30 i31 l31 i32 l32 i33 l33 i34 l34 i35 l35 i36 l36 i37 l37 i38 l38 i39 l39 i22)
  rw [o243_182]
  simp only [o243_183, o243_185, o243_188, o243_189, o243_192, o243_193, o243_194, o243_195, mcs_0, mcs_l, true_and, not_true_eq_false, not_false_eq_true, false_implies, forall_const, Nat.reduceLeDiff, Nat.reduceAdd, lt_le, Int32.reduceLT, kc22, Int32.reduceLT, c1, c2, c3, c4]
  refine m_piX1 R (fun q f => ?_)
  simp only [o243_198, o243_199, o243_200, o243_201, o243_204, Kn_v, Int32.reduceAdd, i14]
  exact hQ q f

theorem ms_I2 {A : Nat → Nat} {d : Int64} {h0 m : MH} {Q : MR → MH → Prop} {bc bs : Nat} {a4 a5 a6 a7 : Value} (sm : Sm A h0 m) (R : Rl A m) (hQ : ∀ q, Fr (p_i m (A 22) 9 0) q → Ok 243 182 [.ref (A 22), .long (dg1 d (g_i h0 (A 14) 5 - g_i h0 (A 14) 4)), mk0, .int 3, a4, a5, a6, a7] [] q bc bs Q) : Ok 243 182 [.ref (A 22), .long (d), mk0, .int 2, a4, a5, a6, a7] [] m (bc + 1) (bs + 8) Q := by
  have R0 := R
  obtain ⟨vk, vcn, v0, v1, v2, vp, vl0, vl1, vlr, vsr, vc, tx⟩ := R0
  have vk0 := vk
  have vcn0 := vcn
  (refine K_el vk0 ?_; intros hA kc0 kc1 kc2 kc3 kc4 kc5 kc6 kc7 kc8 kc9 kc10 kc11 kc12 kc13 kc14 kc15 kc16 kc17 kc18 kc19 kc20 kc21 kc22 kc23 kc24 kc25 kc26 kc27 kc28 kc29 kc30 kc31 kc32 kc33 kc34 kc35 kc36 kc37 kc38 kc39 kz kt kn3 kn4 kn18 kn21 kn23 kn24 kn25 kn26 kn27 kn29 kn30 kr0_0 kr0_1 kr0_2 kr0_3 kr0_4 kr0_5 kr0_7 kr0_8 kr0_9 kr0_10 kr1_0 kr2_0 kr5_0 kr5_1 kr6_0 kr6_1 kr7_0 kr7_1 kr8_0 kr9_0 kr10_0 kr11_0 kr12_0 kr13_0 kr14_0 kr15_0 kr16_0 kr17_0 kr19_0 kr19_1 kr22_0 kr22_1 kr22_2 kr22_3 kr22_4 kr22_5 kr22_7 kr22_8 kr25_0 kr25_1 kr25_2 kr26_0 kr26_1 kr26_2 kr29_0 kr29_1)
  (refine Cn_el vcn0 ?_; intros ki5_2 ki6_2 ki7_2 ki8_1 ki8_2 ki8_3 ki9_1 ki9_2 ki9_3 ki10_1 ki10_2 ki10_3 ki11_1 ki11_2 ki11_3 ki12_1 ki12_2 ki12_3 ki13_1 ki13_2 ki13_3 ki14_1 ki14_2 ki14_3 ki28_0 ki28_1 ki31_0 ki31_1 ki32_0 ki32_1 ki33_0 ki33_1 ki34_0 ki34_1 ki35_0 ki35_1 ki36_0 ki36_1)
  have hAe : ∀ i j, i < 40 → j < 40 → (A i = A j ↔ i = j) := hA
  have b8 : (8 : Int32) = 8 := by decide
  have c1 : (1 ≤ bc + 1) = True := eq_true (by omega)
  have c2 : (8 ≤ bs + 8) = True := eq_true (by omega)
  have c3 : bc + 1 - 1 = bc := by omega
  have c4 : bs + 8 - 8 = bs := by omega
  (refine Sm_el sm ?_; intros i0 l0 i1 l1 i2 l2 i3 l3 i4 l4 i5 l5 i6 l6 i7 l7 i8 l8 i9 l9 i10 l10 i11 l11 i12 l12 i13 l13 i14 l14 i15 l15 i16 l16 i17 l17 i18 l18 i19 l19 i23 l23 i24 l24 i25 l25 i26 l26 i27 l27 i28 l28 i29 l29 i30 l30 i31 l31 i32 l32 i33 l33 i34 l34 i35 l35 i36 l36 i37 l37 i38 l38 i39 l39 i22)
  rw [o243_182]
  simp only [o243_183, o243_185, o243_188, o243_189, o243_192, o243_193, o243_194, o243_195, mcs_0, mcs_l, true_and, not_true_eq_false, not_false_eq_true, false_implies, forall_const, Nat.reduceLeDiff, Nat.reduceAdd, lt_le, Int32.reduceLT, kc22, Int32.reduceLT, c1, c2, c3, c4]
  refine m_piX2 R (fun q f => ?_)
  simp only [o243_198, o243_199, o243_200, o243_201, o243_204, Kn_v, Int32.reduceAdd, i14]
  exact hQ q f

theorem ms_I3 {A : Nat → Nat} {d : Int64} {h0 m : MH} {Q : MR → MH → Prop} {bc bs : Nat} {a4 a5 a6 a7 : Value} (sm : Sm A h0 m) (R : Rl A m) (hQ : ∀ q, Fr (p_i m (A 22) 9 0) q → Ok 243 182 [.ref (A 22), .long (dg1 d (10)), mk0, .int 4, a4, a5, a6, a7] [] q bc bs Q) : Ok 243 182 [.ref (A 22), .long (d), mk0, .int 3, a4, a5, a6, a7] [] m (bc + 1) (bs + 8) Q := by
  have R0 := R
  obtain ⟨vk, vcn, v0, v1, v2, vp, vl0, vl1, vlr, vsr, vc, tx⟩ := R0
  have vk0 := vk
  have vcn0 := vcn
  (refine K_el vk0 ?_; intros hA kc0 kc1 kc2 kc3 kc4 kc5 kc6 kc7 kc8 kc9 kc10 kc11 kc12 kc13 kc14 kc15 kc16 kc17 kc18 kc19 kc20 kc21 kc22 kc23 kc24 kc25 kc26 kc27 kc28 kc29 kc30 kc31 kc32 kc33 kc34 kc35 kc36 kc37 kc38 kc39 kz kt kn3 kn4 kn18 kn21 kn23 kn24 kn25 kn26 kn27 kn29 kn30 kr0_0 kr0_1 kr0_2 kr0_3 kr0_4 kr0_5 kr0_7 kr0_8 kr0_9 kr0_10 kr1_0 kr2_0 kr5_0 kr5_1 kr6_0 kr6_1 kr7_0 kr7_1 kr8_0 kr9_0 kr10_0 kr11_0 kr12_0 kr13_0 kr14_0 kr15_0 kr16_0 kr17_0 kr19_0 kr19_1 kr22_0 kr22_1 kr22_2 kr22_3 kr22_4 kr22_5 kr22_7 kr22_8 kr25_0 kr25_1 kr25_2 kr26_0 kr26_1 kr26_2 kr29_0 kr29_1)
  (refine Cn_el vcn0 ?_; intros ki5_2 ki6_2 ki7_2 ki8_1 ki8_2 ki8_3 ki9_1 ki9_2 ki9_3 ki10_1 ki10_2 ki10_3 ki11_1 ki11_2 ki11_3 ki12_1 ki12_2 ki12_3 ki13_1 ki13_2 ki13_3 ki14_1 ki14_2 ki14_3 ki28_0 ki28_1 ki31_0 ki31_1 ki32_0 ki32_1 ki33_0 ki33_1 ki34_0 ki34_1 ki35_0 ki35_1 ki36_0 ki36_1)
  have hAe : ∀ i j, i < 40 → j < 40 → (A i = A j ↔ i = j) := hA
  have b8 : (8 : Int32) = 8 := by decide
  have c1 : (1 ≤ bc + 1) = True := eq_true (by omega)
  have c2 : (8 ≤ bs + 8) = True := eq_true (by omega)
  have c3 : bc + 1 - 1 = bc := by omega
  have c4 : bs + 8 - 8 = bs := by omega
  (refine Sm_el sm ?_; intros i0 l0 i1 l1 i2 l2 i3 l3 i4 l4 i5 l5 i6 l6 i7 l7 i8 l8 i9 l9 i10 l10 i11 l11 i12 l12 i13 l13 i14 l14 i15 l15 i16 l16 i17 l17 i18 l18 i19 l19 i23 l23 i24 l24 i25 l25 i26 l26 i27 l27 i28 l28 i29 l29 i30 l30 i31 l31 i32 l32 i33 l33 i34 l34 i35 l35 i36 l36 i37 l37 i38 l38 i39 l39 i22)
  rw [o243_182]
  simp only [o243_183, o243_185, o243_188, o243_189, o243_192, o243_193, o243_194, o243_195, mcs_0, mcs_l, true_and, not_true_eq_false, not_false_eq_true, false_implies, forall_const, Nat.reduceLeDiff, Nat.reduceAdd, lt_le, Int32.reduceLT, kc22, Int32.reduceLT, c1, c2, c3, c4]
  refine m_piX3 R (fun q f => ?_)
  simp only [o243_198, o243_199, o243_200, o243_201, o243_204, Kn_v, Int32.reduceAdd]
  exact hQ q f

theorem ms_I4 {A : Nat → Nat} {d : Int64} {h0 m : MH} {Q : MR → MH → Prop} {bc bs : Nat} {a4 a5 a6 a7 : Value} (sm : Sm A h0 m) (R : Rl A m) (hQ : ∀ q, Fr (p_i m (A 22) 9 0) q → Ok 243 182 [.ref (A 22), .long (dg1 d (g_i h0 (A 14) 6)), mk0, .int 5, a4, a5, a6, a7] [] q bc bs Q) : Ok 243 182 [.ref (A 22), .long (d), mk0, .int 4, a4, a5, a6, a7] [] m (bc + 1) (bs + 8) Q := by
  have R0 := R
  obtain ⟨vk, vcn, v0, v1, v2, vp, vl0, vl1, vlr, vsr, vc, tx⟩ := R0
  have vk0 := vk
  have vcn0 := vcn
  (refine K_el vk0 ?_; intros hA kc0 kc1 kc2 kc3 kc4 kc5 kc6 kc7 kc8 kc9 kc10 kc11 kc12 kc13 kc14 kc15 kc16 kc17 kc18 kc19 kc20 kc21 kc22 kc23 kc24 kc25 kc26 kc27 kc28 kc29 kc30 kc31 kc32 kc33 kc34 kc35 kc36 kc37 kc38 kc39 kz kt kn3 kn4 kn18 kn21 kn23 kn24 kn25 kn26 kn27 kn29 kn30 kr0_0 kr0_1 kr0_2 kr0_3 kr0_4 kr0_5 kr0_7 kr0_8 kr0_9 kr0_10 kr1_0 kr2_0 kr5_0 kr5_1 kr6_0 kr6_1 kr7_0 kr7_1 kr8_0 kr9_0 kr10_0 kr11_0 kr12_0 kr13_0 kr14_0 kr15_0 kr16_0 kr17_0 kr19_0 kr19_1 kr22_0 kr22_1 kr22_2 kr22_3 kr22_4 kr22_5 kr22_7 kr22_8 kr25_0 kr25_1 kr25_2 kr26_0 kr26_1 kr26_2 kr29_0 kr29_1)
  (refine Cn_el vcn0 ?_; intros ki5_2 ki6_2 ki7_2 ki8_1 ki8_2 ki8_3 ki9_1 ki9_2 ki9_3 ki10_1 ki10_2 ki10_3 ki11_1 ki11_2 ki11_3 ki12_1 ki12_2 ki12_3 ki13_1 ki13_2 ki13_3 ki14_1 ki14_2 ki14_3 ki28_0 ki28_1 ki31_0 ki31_1 ki32_0 ki32_1 ki33_0 ki33_1 ki34_0 ki34_1 ki35_0 ki35_1 ki36_0 ki36_1)
  have hAe : ∀ i j, i < 40 → j < 40 → (A i = A j ↔ i = j) := hA
  have b8 : (8 : Int32) = 8 := by decide
  have c1 : (1 ≤ bc + 1) = True := eq_true (by omega)
  have c2 : (8 ≤ bs + 8) = True := eq_true (by omega)
  have c3 : bc + 1 - 1 = bc := by omega
  have c4 : bs + 8 - 8 = bs := by omega
  (refine Sm_el sm ?_; intros i0 l0 i1 l1 i2 l2 i3 l3 i4 l4 i5 l5 i6 l6 i7 l7 i8 l8 i9 l9 i10 l10 i11 l11 i12 l12 i13 l13 i14 l14 i15 l15 i16 l16 i17 l17 i18 l18 i19 l19 i23 l23 i24 l24 i25 l25 i26 l26 i27 l27 i28 l28 i29 l29 i30 l30 i31 l31 i32 l32 i33 l33 i34 l34 i35 l35 i36 l36 i37 l37 i38 l38 i39 l39 i22)
  rw [o243_182]
  simp only [o243_183, o243_185, o243_188, o243_189, o243_192, o243_193, o243_194, o243_195, mcs_0, mcs_l, true_and, not_true_eq_false, not_false_eq_true, false_implies, forall_const, Nat.reduceLeDiff, Nat.reduceAdd, lt_le, Int32.reduceLT, kc22, Int32.reduceLT, c1, c2, c3, c4]
  refine m_piX4 R (fun q f => ?_)
  simp only [o243_198, o243_199, o243_200, o243_201, o243_204, Kn_v, Int32.reduceAdd, i14]
  exact hQ q f

theorem ms_I5 {A : Nat → Nat} {d : Int64} {h0 m : MH} {Q : MR → MH → Prop} {bc bs : Nat} {a4 a5 a6 a7 : Value} (sm : Sm A h0 m) (R : Rl A m) (hQ : ∀ q, Fr (p_i m (A 22) 9 0) q → Ok 243 182 [.ref (A 22), .long (dg1 d (if g_i h0 (A 0) 6 = 0 then 0 else 1)), mk0, .int 6, a4, a5, a6, a7] [] q bc bs Q) : Ok 243 182 [.ref (A 22), .long (d), mk0, .int 5, a4, a5, a6, a7] [] m (bc + 1) (bs + 8) Q := by
  have R0 := R
  obtain ⟨vk, vcn, v0, v1, v2, vp, vl0, vl1, vlr, vsr, vc, tx⟩ := R0
  have vk0 := vk
  have vcn0 := vcn
  (refine K_el vk0 ?_; intros hA kc0 kc1 kc2 kc3 kc4 kc5 kc6 kc7 kc8 kc9 kc10 kc11 kc12 kc13 kc14 kc15 kc16 kc17 kc18 kc19 kc20 kc21 kc22 kc23 kc24 kc25 kc26 kc27 kc28 kc29 kc30 kc31 kc32 kc33 kc34 kc35 kc36 kc37 kc38 kc39 kz kt kn3 kn4 kn18 kn21 kn23 kn24 kn25 kn26 kn27 kn29 kn30 kr0_0 kr0_1 kr0_2 kr0_3 kr0_4 kr0_5 kr0_7 kr0_8 kr0_9 kr0_10 kr1_0 kr2_0 kr5_0 kr5_1 kr6_0 kr6_1 kr7_0 kr7_1 kr8_0 kr9_0 kr10_0 kr11_0 kr12_0 kr13_0 kr14_0 kr15_0 kr16_0 kr17_0 kr19_0 kr19_1 kr22_0 kr22_1 kr22_2 kr22_3 kr22_4 kr22_5 kr22_7 kr22_8 kr25_0 kr25_1 kr25_2 kr26_0 kr26_1 kr26_2 kr29_0 kr29_1)
  (refine Cn_el vcn0 ?_; intros ki5_2 ki6_2 ki7_2 ki8_1 ki8_2 ki8_3 ki9_1 ki9_2 ki9_3 ki10_1 ki10_2 ki10_3 ki11_1 ki11_2 ki11_3 ki12_1 ki12_2 ki12_3 ki13_1 ki13_2 ki13_3 ki14_1 ki14_2 ki14_3 ki28_0 ki28_1 ki31_0 ki31_1 ki32_0 ki32_1 ki33_0 ki33_1 ki34_0 ki34_1 ki35_0 ki35_1 ki36_0 ki36_1)
  have hAe : ∀ i j, i < 40 → j < 40 → (A i = A j ↔ i = j) := hA
  have b8 : (8 : Int32) = 8 := by decide
  have c1 : (1 ≤ bc + 1) = True := eq_true (by omega)
  have c2 : (8 ≤ bs + 8) = True := eq_true (by omega)
  have c3 : bc + 1 - 1 = bc := by omega
  have c4 : bs + 8 - 8 = bs := by omega
  (refine Sm_el sm ?_; intros i0 l0 i1 l1 i2 l2 i3 l3 i4 l4 i5 l5 i6 l6 i7 l7 i8 l8 i9 l9 i10 l10 i11 l11 i12 l12 i13 l13 i14 l14 i15 l15 i16 l16 i17 l17 i18 l18 i19 l19 i23 l23 i24 l24 i25 l25 i26 l26 i27 l27 i28 l28 i29 l29 i30 l30 i31 l31 i32 l32 i33 l33 i34 l34 i35 l35 i36 l36 i37 l37 i38 l38 i39 l39 i22)
  rw [o243_182]
  simp only [o243_183, o243_185, o243_188, o243_189, o243_192, o243_193, o243_194, o243_195, mcs_0, mcs_l, true_and, not_true_eq_false, not_false_eq_true, false_implies, forall_const, Nat.reduceLeDiff, Nat.reduceAdd, lt_le, Int32.reduceLT, kc22, Int32.reduceLT, c1, c2, c3, c4]
  refine m_piX5 R (fun q f => ?_)
  simp only [o243_198, o243_199, o243_200, o243_201, o243_204, Kn_v, Int32.reduceAdd, i0]
  exact hQ q f

theorem ms_I6 {A : Nat → Nat} {d : Int64} {h0 m : MH} {Q : MR → MH → Prop} {bc bs : Nat} {a4 a5 a6 a7 : Value} (sm : Sm A h0 m) (R : Rl A m) (hQ : ∀ q, Fr (p_i m (A 22) 9 0) q → Ok 243 182 [.ref (A 22), .long (dg1 d (1)), mk0, .int 7, a4, a5, a6, a7] [] q bc bs Q) : Ok 243 182 [.ref (A 22), .long (d), mk0, .int 6, a4, a5, a6, a7] [] m (bc + 1) (bs + 8) Q := by
  have R0 := R
  obtain ⟨vk, vcn, v0, v1, v2, vp, vl0, vl1, vlr, vsr, vc, tx⟩ := R0
  have vk0 := vk
  have vcn0 := vcn
  (refine K_el vk0 ?_; intros hA kc0 kc1 kc2 kc3 kc4 kc5 kc6 kc7 kc8 kc9 kc10 kc11 kc12 kc13 kc14 kc15 kc16 kc17 kc18 kc19 kc20 kc21 kc22 kc23 kc24 kc25 kc26 kc27 kc28 kc29 kc30 kc31 kc32 kc33 kc34 kc35 kc36 kc37 kc38 kc39 kz kt kn3 kn4 kn18 kn21 kn23 kn24 kn25 kn26 kn27 kn29 kn30 kr0_0 kr0_1 kr0_2 kr0_3 kr0_4 kr0_5 kr0_7 kr0_8 kr0_9 kr0_10 kr1_0 kr2_0 kr5_0 kr5_1 kr6_0 kr6_1 kr7_0 kr7_1 kr8_0 kr9_0 kr10_0 kr11_0 kr12_0 kr13_0 kr14_0 kr15_0 kr16_0 kr17_0 kr19_0 kr19_1 kr22_0 kr22_1 kr22_2 kr22_3 kr22_4 kr22_5 kr22_7 kr22_8 kr25_0 kr25_1 kr25_2 kr26_0 kr26_1 kr26_2 kr29_0 kr29_1)
  (refine Cn_el vcn0 ?_; intros ki5_2 ki6_2 ki7_2 ki8_1 ki8_2 ki8_3 ki9_1 ki9_2 ki9_3 ki10_1 ki10_2 ki10_3 ki11_1 ki11_2 ki11_3 ki12_1 ki12_2 ki12_3 ki13_1 ki13_2 ki13_3 ki14_1 ki14_2 ki14_3 ki28_0 ki28_1 ki31_0 ki31_1 ki32_0 ki32_1 ki33_0 ki33_1 ki34_0 ki34_1 ki35_0 ki35_1 ki36_0 ki36_1)
  have hAe : ∀ i j, i < 40 → j < 40 → (A i = A j ↔ i = j) := hA
  have b8 : (8 : Int32) = 8 := by decide
  have c1 : (1 ≤ bc + 1) = True := eq_true (by omega)
  have c2 : (8 ≤ bs + 8) = True := eq_true (by omega)
  have c3 : bc + 1 - 1 = bc := by omega
  have c4 : bs + 8 - 8 = bs := by omega
  (refine Sm_el sm ?_; intros i0 l0 i1 l1 i2 l2 i3 l3 i4 l4 i5 l5 i6 l6 i7 l7 i8 l8 i9 l9 i10 l10 i11 l11 i12 l12 i13 l13 i14 l14 i15 l15 i16 l16 i17 l17 i18 l18 i19 l19 i23 l23 i24 l24 i25 l25 i26 l26 i27 l27 i28 l28 i29 l29 i30 l30 i31 l31 i32 l32 i33 l33 i34 l34 i35 l35 i36 l36 i37 l37 i38 l38 i39 l39 i22)
  rw [o243_182]
  simp only [o243_183, o243_185, o243_188, o243_189, o243_192, o243_193, o243_194, o243_195, mcs_0, mcs_l, true_and, not_true_eq_false, not_false_eq_true, false_implies, forall_const, Nat.reduceLeDiff, Nat.reduceAdd, lt_le, Int32.reduceLT, kc22, Int32.reduceLT, c1, c2, c3, c4]
  refine m_piX6 R (fun q f => ?_)
  simp only [o243_198, o243_199, o243_200, o243_201, o243_204, Kn_v, Int32.reduceAdd]
  exact hQ q f

theorem ms_I7 {A : Nat → Nat} {d : Int64} {h0 m : MH} {Q : MR → MH → Prop} {bc bs : Nat} {a4 a5 a6 a7 : Value} (sm : Sm A h0 m) (R : Rl A m) (hQ : ∀ q, Fr (p_i m (A 22) 9 0) q → Ok 243 182 [.ref (A 22), .long (dg1 d (if g_i h0 (A 0) 6 = 0 then g_i h0 (A 14) 4 else g_i h0 (A 14) 5 - g_i h0 (A 14) 4)), mk0, .int 8, a4, a5, a6, a7] [] q bc bs Q) : Ok 243 182 [.ref (A 22), .long (d), mk0, .int 7, a4, a5, a6, a7] [] m (bc + 1) (bs + 8) Q := by
  have R0 := R
  obtain ⟨vk, vcn, v0, v1, v2, vp, vl0, vl1, vlr, vsr, vc, tx⟩ := R0
  have vk0 := vk
  have vcn0 := vcn
  (refine K_el vk0 ?_; intros hA kc0 kc1 kc2 kc3 kc4 kc5 kc6 kc7 kc8 kc9 kc10 kc11 kc12 kc13 kc14 kc15 kc16 kc17 kc18 kc19 kc20 kc21 kc22 kc23 kc24 kc25 kc26 kc27 kc28 kc29 kc30 kc31 kc32 kc33 kc34 kc35 kc36 kc37 kc38 kc39 kz kt kn3 kn4 kn18 kn21 kn23 kn24 kn25 kn26 kn27 kn29 kn30 kr0_0 kr0_1 kr0_2 kr0_3 kr0_4 kr0_5 kr0_7 kr0_8 kr0_9 kr0_10 kr1_0 kr2_0 kr5_0 kr5_1 kr6_0 kr6_1 kr7_0 kr7_1 kr8_0 kr9_0 kr10_0 kr11_0 kr12_0 kr13_0 kr14_0 kr15_0 kr16_0 kr17_0 kr19_0 kr19_1 kr22_0 kr22_1 kr22_2 kr22_3 kr22_4 kr22_5 kr22_7 kr22_8 kr25_0 kr25_1 kr25_2 kr26_0 kr26_1 kr26_2 kr29_0 kr29_1)
  (refine Cn_el vcn0 ?_; intros ki5_2 ki6_2 ki7_2 ki8_1 ki8_2 ki8_3 ki9_1 ki9_2 ki9_3 ki10_1 ki10_2 ki10_3 ki11_1 ki11_2 ki11_3 ki12_1 ki12_2 ki12_3 ki13_1 ki13_2 ki13_3 ki14_1 ki14_2 ki14_3 ki28_0 ki28_1 ki31_0 ki31_1 ki32_0 ki32_1 ki33_0 ki33_1 ki34_0 ki34_1 ki35_0 ki35_1 ki36_0 ki36_1)
  have hAe : ∀ i j, i < 40 → j < 40 → (A i = A j ↔ i = j) := hA
  have b8 : (8 : Int32) = 8 := by decide
  have c1 : (1 ≤ bc + 1) = True := eq_true (by omega)
  have c2 : (8 ≤ bs + 8) = True := eq_true (by omega)
  have c3 : bc + 1 - 1 = bc := by omega
  have c4 : bs + 8 - 8 = bs := by omega
  (refine Sm_el sm ?_; intros i0 l0 i1 l1 i2 l2 i3 l3 i4 l4 i5 l5 i6 l6 i7 l7 i8 l8 i9 l9 i10 l10 i11 l11 i12 l12 i13 l13 i14 l14 i15 l15 i16 l16 i17 l17 i18 l18 i19 l19 i23 l23 i24 l24 i25 l25 i26 l26 i27 l27 i28 l28 i29 l29 i30 l30 i31 l31 i32 l32 i33 l33 i34 l34 i35 l35 i36 l36 i37 l37 i38 l38 i39 l39 i22)
  rw [o243_182]
  simp only [o243_183, o243_185, o243_188, o243_189, o243_192, o243_193, o243_194, o243_195, mcs_0, mcs_l, true_and, not_true_eq_false, not_false_eq_true, false_implies, forall_const, Nat.reduceLeDiff, Nat.reduceAdd, lt_le, Int32.reduceLT, kc22, Int32.reduceLT, c1, c2, c3, c4]
  refine m_piX7 R (fun q f => ?_)
  simp only [o243_198, o243_199, o243_200, o243_201, o243_204, Kn_v, Int32.reduceAdd, i0, i14]
  exact hQ q f

theorem ms_T {A : Nat → Nat} {d : Int64} {h0 m : MH} {Q : MR → MH → Prop} {bc bs : Nat} {a4 a5 a6 a7 : Value} (sm : Sm A h0 m) (R : Rl A m) (cs : Cs m) (hQ : ∀ q, Sm A h0 q → Rl A q → Cs q → Ok 243 222 [.ref (A 22), .long (dT A h0 d), mk0, .int 8, a4, a5, a6, a7] [] q bc bs Q) : Ok 243 182 [.ref (A 22), .long (d), mk0, .int 0, a4, a5, a6, a7] [] m (bc + 32) (bs + 3238) Q := by
  have b8 : (8 : Int32) = 8 := by decide
  refine ms_I0 (bc := bc + 31) (bs := bs + 3230) sm R (fun q0 f0 => ?_)
  obtain ⟨R0, s0⟩ := Rl_fr0 R f0
  have cs0 := Cs_fr0 R cs f0
  replace s0 := Sm_tr sm s0
  refine ms_I1 (bc := bc + 30) (bs := bs + 3222) s0 R0 (fun q1 f1 => ?_)
  obtain ⟨R1, s1⟩ := Rl_fr0 R0 f1
  have cs1 := Cs_fr0 R0 cs0 f1
  replace s1 := Sm_tr s0 s1
  refine ms_I2 (bc := bc + 29) (bs := bs + 3214) s1 R1 (fun q2 f2 => ?_)
  obtain ⟨R2, s2⟩ := Rl_fr0 R1 f2
  have cs2 := Cs_fr0 R1 cs1 f2
  replace s2 := Sm_tr s1 s2
  refine ms_I3 (bc := bc + 28) (bs := bs + 3206) s2 R2 (fun q3 f3 => ?_)
  obtain ⟨R3, s3⟩ := Rl_fr0 R2 f3
  have cs3 := Cs_fr0 R2 cs2 f3
  replace s3 := Sm_tr s2 s3
  refine ms_I4 (bc := bc + 27) (bs := bs + 3198) s3 R3 (fun q4 f4 => ?_)
  obtain ⟨R4, s4⟩ := Rl_fr0 R3 f4
  have cs4 := Cs_fr0 R3 cs3 f4
  replace s4 := Sm_tr s3 s4
  refine ms_I5 (bc := bc + 26) (bs := bs + 3190) s4 R4 (fun q5 f5 => ?_)
  obtain ⟨R5, s5⟩ := Rl_fr0 R4 f5
  have cs5 := Cs_fr0 R4 cs4 f5
  replace s5 := Sm_tr s4 s5
  refine ms_I6 (bc := bc + 25) (bs := bs + 3182) s5 R5 (fun q6 f6 => ?_)
  obtain ⟨R6, s6⟩ := Rl_fr0 R5 f6
  have cs6 := Cs_fr0 R5 cs5 f6
  replace s6 := Sm_tr s5 s6
  refine ms_I7 (bc := bc + 24) (bs := bs + 3174) s6 R6 (fun q7 f7 => ?_)
  obtain ⟨R7, s7⟩ := Rl_fr0 R6 f7
  have cs7 := Cs_fr0 R6 cs6 f7
  replace s7 := Sm_tr s6 s7
  have c1 : (24 ≤ bc + 24) = True := eq_true (by omega)
  have c2 : (3174 ≤ bs + 3174) = True := eq_true (by omega)
  have c3 : bc + 24 - 24 = bc := by omega
  have c4 : bs + 3174 - 3174 = bs := by omega
  have R0 := R7
  obtain ⟨vk, vcn, v0, v1, v2, vp, vl0, vl1, vlr, vsr, vc, tx⟩ := R0
  have vk0 := vk
  have vcn0 := vcn
  (refine K_el vk0 ?_; intros hA kc0 kc1 kc2 kc3 kc4 kc5 kc6 kc7 kc8 kc9 kc10 kc11 kc12 kc13 kc14 kc15 kc16 kc17 kc18 kc19 kc20 kc21 kc22 kc23 kc24 kc25 kc26 kc27 kc28 kc29 kc30 kc31 kc32 kc33 kc34 kc35 kc36 kc37 kc38 kc39 kz kt kn3 kn4 kn18 kn21 kn23 kn24 kn25 kn26 kn27 kn29 kn30 kr0_0 kr0_1 kr0_2 kr0_3 kr0_4 kr0_5 kr0_7 kr0_8 kr0_9 kr0_10 kr1_0 kr2_0 kr5_0 kr5_1 kr6_0 kr6_1 kr7_0 kr7_1 kr8_0 kr9_0 kr10_0 kr11_0 kr12_0 kr13_0 kr14_0 kr15_0 kr16_0 kr17_0 kr19_0 kr19_1 kr22_0 kr22_1 kr22_2 kr22_3 kr22_4 kr22_5 kr22_7 kr22_8 kr25_0 kr25_1 kr25_2 kr26_0 kr26_1 kr26_2 kr29_0 kr29_1)
  (refine Cn_el vcn0 ?_; intros ki5_2 ki6_2 ki7_2 ki8_1 ki8_2 ki8_3 ki9_1 ki9_2 ki9_3 ki10_1 ki10_2 ki10_3 ki11_1 ki11_2 ki11_3 ki12_1 ki12_2 ki12_3 ki13_1 ki13_2 ki13_3 ki14_1 ki14_2 ki14_3 ki28_0 ki28_1 ki31_0 ki31_1 ki32_0 ki32_1 ki33_0 ki33_1 ki34_0 ki34_1 ki35_0 ki35_1 ki36_0 ki36_1)
  have hAe : ∀ i j, i < 40 → j < 40 → (A i = A j ↔ i = j) := hA
  rw [o243_182]
  simp only [o243_183, o243_185, o243_207, o243_208, o243_211, o243_212, o243_213, mcs_0, mcs_l, true_and, and_true, not_true_eq_false, not_false_eq_true, false_implies, forall_const, Nat.reduceLeDiff, Nat.reduceAdd, lt_le, Int32.reduceLT, kc22, Int32.reduceLT, c1, c2, c3, c4]
  refine m_pipeTextNow R7 cs7 (fun q t sb hsb f st => ?_)
  have Rq := Rl_Fn R7 f hsb hsb
  have sq := Sm_tr s7 (Sm_Fn R7 f hsb)
  have cq := Cs_Fx cs7 f (Nat.le_trans (Rl_z R7) hsb) (Nat.le_trans (Rl_z R7) hsb)
  obtain ⟨t1, t2, t3, v, t4, t5, t6, t7⟩ := st
  rw [(Sm_qv s7).2.2.2.1, (Sm_qv s7).2.2.2.2] at t7
  simp only [o243_216, o243_219, o243_220, o243_221, J_slen (v := v), mcs_0, mcs_l, Kn_v, true_and, Nat.reduceLeDiff, Nat.reduceAdd, t1, t3, t4, t5, t7]
  exact hQ q sq Rq cq

theorem ms_E0_0 {A : Nat → Nat} {d : Int64} {h0 m : MH} {Q : MR → MH → Prop} {bc bs : Nat} {a5 a6 a7 : Value} (sm : Sm A h0 m) (R : Rl A m) (hQ : ∀ q, Fr m q → Ok 243 232 [.ref (A 22), .long (dg1 d (g_i h0 (A 15) 4)), mk0, .int 0, .int 1, a5, a6, a7] [] q bc bs Q) : Ok 243 232 [.ref (A 22), .long (d), mk0, .int 0, .int 0, a5, a6, a7] [] m (bc + 1) (bs + 9) Q := by
  have R0 := R
  obtain ⟨vk, vcn, v0, v1, v2, vp, vl0, vl1, vlr, vsr, vc, tx⟩ := R0
  have vk0 := vk
  have vcn0 := vcn
  (refine K_el vk0 ?_; intros hA kc0 kc1 kc2 kc3 kc4 kc5 kc6 kc7 kc8 kc9 kc10 kc11 kc12 kc13 kc14 kc15 kc16 kc17 kc18 kc19 kc20 kc21 kc22 kc23 kc24 kc25 kc26 kc27 kc28 kc29 kc30 kc31 kc32 kc33 kc34 kc35 kc36 kc37 kc38 kc39 kz kt kn3 kn4 kn18 kn21 kn23 kn24 kn25 kn26 kn27 kn29 kn30 kr0_0 kr0_1 kr0_2 kr0_3 kr0_4 kr0_5 kr0_7 kr0_8 kr0_9 kr0_10 kr1_0 kr2_0 kr5_0 kr5_1 kr6_0 kr6_1 kr7_0 kr7_1 kr8_0 kr9_0 kr10_0 kr11_0 kr12_0 kr13_0 kr14_0 kr15_0 kr16_0 kr17_0 kr19_0 kr19_1 kr22_0 kr22_1 kr22_2 kr22_3 kr22_4 kr22_5 kr22_7 kr22_8 kr25_0 kr25_1 kr25_2 kr26_0 kr26_1 kr26_2 kr29_0 kr29_1)
  (refine Cn_el vcn0 ?_; intros ki5_2 ki6_2 ki7_2 ki8_1 ki8_2 ki8_3 ki9_1 ki9_2 ki9_3 ki10_1 ki10_2 ki10_3 ki11_1 ki11_2 ki11_3 ki12_1 ki12_2 ki12_3 ki13_1 ki13_2 ki13_3 ki14_1 ki14_2 ki14_3 ki28_0 ki28_1 ki31_0 ki31_1 ki32_0 ki32_1 ki33_0 ki33_1 ki34_0 ki34_1 ki35_0 ki35_1 ki36_0 ki36_1)
  have hAe : ∀ i j, i < 40 → j < 40 → (A i = A j ↔ i = j) := hA
  have b9 : (9 : Int32) = 9 := by decide
  have c1 : (1 ≤ bc + 1) = True := eq_true (by omega)
  have c2 : (9 ≤ bs + 9) = True := eq_true (by omega)
  have c3 : bc + 1 - 1 = bc := by omega
  have c4 : bs + 9 - 9 = bs := by omega
  (refine Sm_el sm ?_; intros i0 l0 i1 l1 i2 l2 i3 l3 i4 l4 i5 l5 i6 l6 i7 l7 i8 l8 i9 l9 i10 l10 i11 l11 i12 l12 i13 l13 i14 l14 i15 l15 i16 l16 i17 l17 i18 l18 i19 l19 i23 l23 i24 l24 i25 l25 i26 l26 i27 l27 i28 l28 i29 l29 i30 l30 i31 l31 i32 l32 i33 l33 i34 l34 i35 l35 i36 l36 i37 l37 i38 l38 i39 l39 i22)
  rw [o243_232]
  simp only [o243_234, o243_236, o243_239, o243_240, o243_243, o243_244, o243_245, o243_246, o243_248, mcs_0, mcs_l, true_and, not_true_eq_false, not_false_eq_true, false_implies, forall_const, Nat.reduceLeDiff, Nat.reduceAdd, lt_le, Int32.reduceLT, kc22, Int32.reduceLT, c1, c2, c3, c4]
  refine m_leX0_0 R (fun q f => ?_)
  simp only [o243_251, o243_252, o243_253, o243_254, o243_257, Kn_v, Int32.reduceAdd, i15]
  exact hQ q f

theorem ms_E0_1 {A : Nat → Nat} {d : Int64} {h0 m : MH} {Q : MR → MH → Prop} {bc bs : Nat} {a5 a6 a7 : Value} (sm : Sm A h0 m) (R : Rl A m) (hQ : ∀ q, Fr m q → Ok 243 232 [.ref (A 22), .long (dg1 d (g_i h0 (A 15) 5)), mk0, .int 0, .int 2, a5, a6, a7] [] q bc bs Q) : Ok 243 232 [.ref (A 22), .long (d), mk0, .int 0, .int 1, a5, a6, a7] [] m (bc + 1) (bs + 9) Q := by
  have R0 := R
  obtain ⟨vk, vcn, v0, v1, v2, vp, vl0, vl1, vlr, vsr, vc, tx⟩ := R0
  have vk0 := vk
  have vcn0 := vcn
  (refine K_el vk0 ?_; intros hA kc0 kc1 kc2 kc3 kc4 kc5 kc6 kc7 kc8 kc9 kc10 kc11 kc12 kc13 kc14 kc15 kc16 kc17 kc18 kc19 kc20 kc21 kc22 kc23 kc24 kc25 kc26 kc27 kc28 kc29 kc30 kc31 kc32 kc33 kc34 kc35 kc36 kc37 kc38 kc39 kz kt kn3 kn4 kn18 kn21 kn23 kn24 kn25 kn26 kn27 kn29 kn30 kr0_0 kr0_1 kr0_2 kr0_3 kr0_4 kr0_5 kr0_7 kr0_8 kr0_9 kr0_10 kr1_0 kr2_0 kr5_0 kr5_1 kr6_0 kr6_1 kr7_0 kr7_1 kr8_0 kr9_0 kr10_0 kr11_0 kr12_0 kr13_0 kr14_0 kr15_0 kr16_0 kr17_0 kr19_0 kr19_1 kr22_0 kr22_1 kr22_2 kr22_3 kr22_4 kr22_5 kr22_7 kr22_8 kr25_0 kr25_1 kr25_2 kr26_0 kr26_1 kr26_2 kr29_0 kr29_1)
  (refine Cn_el vcn0 ?_; intros ki5_2 ki6_2 ki7_2 ki8_1 ki8_2 ki8_3 ki9_1 ki9_2 ki9_3 ki10_1 ki10_2 ki10_3 ki11_1 ki11_2 ki11_3 ki12_1 ki12_2 ki12_3 ki13_1 ki13_2 ki13_3 ki14_1 ki14_2 ki14_3 ki28_0 ki28_1 ki31_0 ki31_1 ki32_0 ki32_1 ki33_0 ki33_1 ki34_0 ki34_1 ki35_0 ki35_1 ki36_0 ki36_1)
  have hAe : ∀ i j, i < 40 → j < 40 → (A i = A j ↔ i = j) := hA
  have b9 : (9 : Int32) = 9 := by decide
  have c1 : (1 ≤ bc + 1) = True := eq_true (by omega)
  have c2 : (9 ≤ bs + 9) = True := eq_true (by omega)
  have c3 : bc + 1 - 1 = bc := by omega
  have c4 : bs + 9 - 9 = bs := by omega
  (refine Sm_el sm ?_; intros i0 l0 i1 l1 i2 l2 i3 l3 i4 l4 i5 l5 i6 l6 i7 l7 i8 l8 i9 l9 i10 l10 i11 l11 i12 l12 i13 l13 i14 l14 i15 l15 i16 l16 i17 l17 i18 l18 i19 l19 i23 l23 i24 l24 i25 l25 i26 l26 i27 l27 i28 l28 i29 l29 i30 l30 i31 l31 i32 l32 i33 l33 i34 l34 i35 l35 i36 l36 i37 l37 i38 l38 i39 l39 i22)
  rw [o243_232]
  simp only [o243_234, o243_236, o243_239, o243_240, o243_243, o243_244, o243_245, o243_246, o243_248, mcs_0, mcs_l, true_and, not_true_eq_false, not_false_eq_true, false_implies, forall_const, Nat.reduceLeDiff, Nat.reduceAdd, lt_le, Int32.reduceLT, kc22, Int32.reduceLT, c1, c2, c3, c4]
  refine m_leX0_1 R (fun q f => ?_)
  simp only [o243_251, o243_252, o243_253, o243_254, o243_257, Kn_v, Int32.reduceAdd, i15]
  exact hQ q f

theorem ms_E0_2 {A : Nat → Nat} {d : Int64} {h0 m : MH} {Q : MR → MH → Prop} {bc bs : Nat} {a5 a6 a7 : Value} (sm : Sm A h0 m) (R : Rl A m) (hQ : ∀ q, Fr m q → Ok 243 232 [.ref (A 22), .long (dg1 d (g_i h0 (A 15) 2)), mk0, .int 0, .int 3, a5, a6, a7] [] q bc bs Q) : Ok 243 232 [.ref (A 22), .long (d), mk0, .int 0, .int 2, a5, a6, a7] [] m (bc + 1) (bs + 9) Q := by
  have R0 := R
  obtain ⟨vk, vcn, v0, v1, v2, vp, vl0, vl1, vlr, vsr, vc, tx⟩ := R0
  have vk0 := vk
  have vcn0 := vcn
  (refine K_el vk0 ?_; intros hA kc0 kc1 kc2 kc3 kc4 kc5 kc6 kc7 kc8 kc9 kc10 kc11 kc12 kc13 kc14 kc15 kc16 kc17 kc18 kc19 kc20 kc21 kc22 kc23 kc24 kc25 kc26 kc27 kc28 kc29 kc30 kc31 kc32 kc33 kc34 kc35 kc36 kc37 kc38 kc39 kz kt kn3 kn4 kn18 kn21 kn23 kn24 kn25 kn26 kn27 kn29 kn30 kr0_0 kr0_1 kr0_2 kr0_3 kr0_4 kr0_5 kr0_7 kr0_8 kr0_9 kr0_10 kr1_0 kr2_0 kr5_0 kr5_1 kr6_0 kr6_1 kr7_0 kr7_1 kr8_0 kr9_0 kr10_0 kr11_0 kr12_0 kr13_0 kr14_0 kr15_0 kr16_0 kr17_0 kr19_0 kr19_1 kr22_0 kr22_1 kr22_2 kr22_3 kr22_4 kr22_5 kr22_7 kr22_8 kr25_0 kr25_1 kr25_2 kr26_0 kr26_1 kr26_2 kr29_0 kr29_1)
  (refine Cn_el vcn0 ?_; intros ki5_2 ki6_2 ki7_2 ki8_1 ki8_2 ki8_3 ki9_1 ki9_2 ki9_3 ki10_1 ki10_2 ki10_3 ki11_1 ki11_2 ki11_3 ki12_1 ki12_2 ki12_3 ki13_1 ki13_2 ki13_3 ki14_1 ki14_2 ki14_3 ki28_0 ki28_1 ki31_0 ki31_1 ki32_0 ki32_1 ki33_0 ki33_1 ki34_0 ki34_1 ki35_0 ki35_1 ki36_0 ki36_1)
  have hAe : ∀ i j, i < 40 → j < 40 → (A i = A j ↔ i = j) := hA
  have b9 : (9 : Int32) = 9 := by decide
  have c1 : (1 ≤ bc + 1) = True := eq_true (by omega)
  have c2 : (9 ≤ bs + 9) = True := eq_true (by omega)
  have c3 : bc + 1 - 1 = bc := by omega
  have c4 : bs + 9 - 9 = bs := by omega
  (refine Sm_el sm ?_; intros i0 l0 i1 l1 i2 l2 i3 l3 i4 l4 i5 l5 i6 l6 i7 l7 i8 l8 i9 l9 i10 l10 i11 l11 i12 l12 i13 l13 i14 l14 i15 l15 i16 l16 i17 l17 i18 l18 i19 l19 i23 l23 i24 l24 i25 l25 i26 l26 i27 l27 i28 l28 i29 l29 i30 l30 i31 l31 i32 l32 i33 l33 i34 l34 i35 l35 i36 l36 i37 l37 i38 l38 i39 l39 i22)
  rw [o243_232]
  simp only [o243_234, o243_236, o243_239, o243_240, o243_243, o243_244, o243_245, o243_246, o243_248, mcs_0, mcs_l, true_and, not_true_eq_false, not_false_eq_true, false_implies, forall_const, Nat.reduceLeDiff, Nat.reduceAdd, lt_le, Int32.reduceLT, kc22, Int32.reduceLT, c1, c2, c3, c4]
  refine m_leX0_2 R (fun q f => ?_)
  simp only [o243_251, o243_252, o243_253, o243_254, o243_257, Kn_v, Int32.reduceAdd, i15]
  exact hQ q f

theorem ms_E0_3 {A : Nat → Nat} {d : Int64} {h0 m : MH} {Q : MR → MH → Prop} {bc bs : Nat} {a5 a6 a7 : Value} (sm : Sm A h0 m) (R : Rl A m) (hQ : ∀ q, Fr m q → Ok 243 232 [.ref (A 22), .long (dg1 d (g_i h0 (A 15) 5 - g_i h0 (A 15) 4)), mk0, .int 0, .int 4, a5, a6, a7] [] q bc bs Q) : Ok 243 232 [.ref (A 22), .long (d), mk0, .int 0, .int 3, a5, a6, a7] [] m (bc + 1) (bs + 9) Q := by
  have R0 := R
  obtain ⟨vk, vcn, v0, v1, v2, vp, vl0, vl1, vlr, vsr, vc, tx⟩ := R0
  have vk0 := vk
  have vcn0 := vcn
  (refine K_el vk0 ?_; intros hA kc0 kc1 kc2 kc3 kc4 kc5 kc6 kc7 kc8 kc9 kc10 kc11 kc12 kc13 kc14 kc15 kc16 kc17 kc18 kc19 kc20 kc21 kc22 kc23 kc24 kc25 kc26 kc27 kc28 kc29 kc30 kc31 kc32 kc33 kc34 kc35 kc36 kc37 kc38 kc39 kz kt kn3 kn4 kn18 kn21 kn23 kn24 kn25 kn26 kn27 kn29 kn30 kr0_0 kr0_1 kr0_2 kr0_3 kr0_4 kr0_5 kr0_7 kr0_8 kr0_9 kr0_10 kr1_0 kr2_0 kr5_0 kr5_1 kr6_0 kr6_1 kr7_0 kr7_1 kr8_0 kr9_0 kr10_0 kr11_0 kr12_0 kr13_0 kr14_0 kr15_0 kr16_0 kr17_0 kr19_0 kr19_1 kr22_0 kr22_1 kr22_2 kr22_3 kr22_4 kr22_5 kr22_7 kr22_8 kr25_0 kr25_1 kr25_2 kr26_0 kr26_1 kr26_2 kr29_0 kr29_1)
  (refine Cn_el vcn0 ?_; intros ki5_2 ki6_2 ki7_2 ki8_1 ki8_2 ki8_3 ki9_1 ki9_2 ki9_3 ki10_1 ki10_2 ki10_3 ki11_1 ki11_2 ki11_3 ki12_1 ki12_2 ki12_3 ki13_1 ki13_2 ki13_3 ki14_1 ki14_2 ki14_3 ki28_0 ki28_1 ki31_0 ki31_1 ki32_0 ki32_1 ki33_0 ki33_1 ki34_0 ki34_1 ki35_0 ki35_1 ki36_0 ki36_1)
  have hAe : ∀ i j, i < 40 → j < 40 → (A i = A j ↔ i = j) := hA
  have b9 : (9 : Int32) = 9 := by decide
  have c1 : (1 ≤ bc + 1) = True := eq_true (by omega)
  have c2 : (9 ≤ bs + 9) = True := eq_true (by omega)
  have c3 : bc + 1 - 1 = bc := by omega
  have c4 : bs + 9 - 9 = bs := by omega
  (refine Sm_el sm ?_; intros i0 l0 i1 l1 i2 l2 i3 l3 i4 l4 i5 l5 i6 l6 i7 l7 i8 l8 i9 l9 i10 l10 i11 l11 i12 l12 i13 l13 i14 l14 i15 l15 i16 l16 i17 l17 i18 l18 i19 l19 i23 l23 i24 l24 i25 l25 i26 l26 i27 l27 i28 l28 i29 l29 i30 l30 i31 l31 i32 l32 i33 l33 i34 l34 i35 l35 i36 l36 i37 l37 i38 l38 i39 l39 i22)
  rw [o243_232]
  simp only [o243_234, o243_236, o243_239, o243_240, o243_243, o243_244, o243_245, o243_246, o243_248, mcs_0, mcs_l, true_and, not_true_eq_false, not_false_eq_true, false_implies, forall_const, Nat.reduceLeDiff, Nat.reduceAdd, lt_le, Int32.reduceLT, kc22, Int32.reduceLT, c1, c2, c3, c4]
  refine m_leX0_3 R (fun q f => ?_)
  simp only [o243_251, o243_252, o243_253, o243_254, o243_257, Kn_v, Int32.reduceAdd, i15]
  exact hQ q f

theorem ms_E0_4 {A : Nat → Nat} {d : Int64} {h0 m : MH} {Q : MR → MH → Prop} {bc bs : Nat} {a5 a6 a7 : Value} (sm : Sm A h0 m) (R : Rl A m) (hQ : ∀ q, Fr m q → Ok 243 232 [.ref (A 22), .long (dg1 d (g_i h0 (A 15) 6)), mk0, .int 0, .int 5, a5, a6, a7] [] q bc bs Q) : Ok 243 232 [.ref (A 22), .long (d), mk0, .int 0, .int 4, a5, a6, a7] [] m (bc + 1) (bs + 9) Q := by
  have R0 := R
  obtain ⟨vk, vcn, v0, v1, v2, vp, vl0, vl1, vlr, vsr, vc, tx⟩ := R0
  have vk0 := vk
  have vcn0 := vcn
  (refine K_el vk0 ?_; intros hA kc0 kc1 kc2 kc3 kc4 kc5 kc6 kc7 kc8 kc9 kc10 kc11 kc12 kc13 kc14 kc15 kc16 kc17 kc18 kc19 kc20 kc21 kc22 kc23 kc24 kc25 kc26 kc27 kc28 kc29 kc30 kc31 kc32 kc33 kc34 kc35 kc36 kc37 kc38 kc39 kz kt kn3 kn4 kn18 kn21 kn23 kn24 kn25 kn26 kn27 kn29 kn30 kr0_0 kr0_1 kr0_2 kr0_3 kr0_4 kr0_5 kr0_7 kr0_8 kr0_9 kr0_10 kr1_0 kr2_0 kr5_0 kr5_1 kr6_0 kr6_1 kr7_0 kr7_1 kr8_0 kr9_0 kr10_0 kr11_0 kr12_0 kr13_0 kr14_0 kr15_0 kr16_0 kr17_0 kr19_0 kr19_1 kr22_0 kr22_1 kr22_2 kr22_3 kr22_4 kr22_5 kr22_7 kr22_8 kr25_0 kr25_1 kr25_2 kr26_0 kr26_1 kr26_2 kr29_0 kr29_1)
  (refine Cn_el vcn0 ?_; intros ki5_2 ki6_2 ki7_2 ki8_1 ki8_2 ki8_3 ki9_1 ki9_2 ki9_3 ki10_1 ki10_2 ki10_3 ki11_1 ki11_2 ki11_3 ki12_1 ki12_2 ki12_3 ki13_1 ki13_2 ki13_3 ki14_1 ki14_2 ki14_3 ki28_0 ki28_1 ki31_0 ki31_1 ki32_0 ki32_1 ki33_0 ki33_1 ki34_0 ki34_1 ki35_0 ki35_1 ki36_0 ki36_1)
  have hAe : ∀ i j, i < 40 → j < 40 → (A i = A j ↔ i = j) := hA
  have b9 : (9 : Int32) = 9 := by decide
  have c1 : (1 ≤ bc + 1) = True := eq_true (by omega)
  have c2 : (9 ≤ bs + 9) = True := eq_true (by omega)
  have c3 : bc + 1 - 1 = bc := by omega
  have c4 : bs + 9 - 9 = bs := by omega
  (refine Sm_el sm ?_; intros i0 l0 i1 l1 i2 l2 i3 l3 i4 l4 i5 l5 i6 l6 i7 l7 i8 l8 i9 l9 i10 l10 i11 l11 i12 l12 i13 l13 i14 l14 i15 l15 i16 l16 i17 l17 i18 l18 i19 l19 i23 l23 i24 l24 i25 l25 i26 l26 i27 l27 i28 l28 i29 l29 i30 l30 i31 l31 i32 l32 i33 l33 i34 l34 i35 l35 i36 l36 i37 l37 i38 l38 i39 l39 i22)
  rw [o243_232]
  simp only [o243_234, o243_236, o243_239, o243_240, o243_243, o243_244, o243_245, o243_246, o243_248, mcs_0, mcs_l, true_and, not_true_eq_false, not_false_eq_true, false_implies, forall_const, Nat.reduceLeDiff, Nat.reduceAdd, lt_le, Int32.reduceLT, kc22, Int32.reduceLT, c1, c2, c3, c4]
  refine m_leX0_4 R (fun q f => ?_)
  simp only [o243_251, o243_252, o243_253, o243_254, o243_257, Kn_v, Int32.reduceAdd, i15]
  exact hQ q f

theorem ms_E0_5 {A : Nat → Nat} {d : Int64} {h0 m : MH} {Q : MR → MH → Prop} {bc bs : Nat} {a5 a6 a7 : Value} (sm : Sm A h0 m) (R : Rl A m) (hQ : ∀ q, Fr m q → Ok 243 232 [.ref (A 22), .long (dg1 d (if g_i h0 (A 15) 3 = 0 then 0 else 1)), mk0, .int 0, .int 6, a5, a6, a7] [] q bc bs Q) : Ok 243 232 [.ref (A 22), .long (d), mk0, .int 0, .int 5, a5, a6, a7] [] m (bc + 1) (bs + 9) Q := by
  have R0 := R
  obtain ⟨vk, vcn, v0, v1, v2, vp, vl0, vl1, vlr, vsr, vc, tx⟩ := R0
  have vk0 := vk
  have vcn0 := vcn
  (refine K_el vk0 ?_; intros hA kc0 kc1 kc2 kc3 kc4 kc5 kc6 kc7 kc8 kc9 kc10 kc11 kc12 kc13 kc14 kc15 kc16 kc17 kc18 kc19 kc20 kc21 kc22 kc23 kc24 kc25 kc26 kc27 kc28 kc29 kc30 kc31 kc32 kc33 kc34 kc35 kc36 kc37 kc38 kc39 kz kt kn3 kn4 kn18 kn21 kn23 kn24 kn25 kn26 kn27 kn29 kn30 kr0_0 kr0_1 kr0_2 kr0_3 kr0_4 kr0_5 kr0_7 kr0_8 kr0_9 kr0_10 kr1_0 kr2_0 kr5_0 kr5_1 kr6_0 kr6_1 kr7_0 kr7_1 kr8_0 kr9_0 kr10_0 kr11_0 kr12_0 kr13_0 kr14_0 kr15_0 kr16_0 kr17_0 kr19_0 kr19_1 kr22_0 kr22_1 kr22_2 kr22_3 kr22_4 kr22_5 kr22_7 kr22_8 kr25_0 kr25_1 kr25_2 kr26_0 kr26_1 kr26_2 kr29_0 kr29_1)
  (refine Cn_el vcn0 ?_; intros ki5_2 ki6_2 ki7_2 ki8_1 ki8_2 ki8_3 ki9_1 ki9_2 ki9_3 ki10_1 ki10_2 ki10_3 ki11_1 ki11_2 ki11_3 ki12_1 ki12_2 ki12_3 ki13_1 ki13_2 ki13_3 ki14_1 ki14_2 ki14_3 ki28_0 ki28_1 ki31_0 ki31_1 ki32_0 ki32_1 ki33_0 ki33_1 ki34_0 ki34_1 ki35_0 ki35_1 ki36_0 ki36_1)
  have hAe : ∀ i j, i < 40 → j < 40 → (A i = A j ↔ i = j) := hA
  have b9 : (9 : Int32) = 9 := by decide
  have c1 : (1 ≤ bc + 1) = True := eq_true (by omega)
  have c2 : (9 ≤ bs + 9) = True := eq_true (by omega)
  have c3 : bc + 1 - 1 = bc := by omega
  have c4 : bs + 9 - 9 = bs := by omega
  (refine Sm_el sm ?_; intros i0 l0 i1 l1 i2 l2 i3 l3 i4 l4 i5 l5 i6 l6 i7 l7 i8 l8 i9 l9 i10 l10 i11 l11 i12 l12 i13 l13 i14 l14 i15 l15 i16 l16 i17 l17 i18 l18 i19 l19 i23 l23 i24 l24 i25 l25 i26 l26 i27 l27 i28 l28 i29 l29 i30 l30 i31 l31 i32 l32 i33 l33 i34 l34 i35 l35 i36 l36 i37 l37 i38 l38 i39 l39 i22)
  rw [o243_232]
  simp only [o243_234, o243_236, o243_239, o243_240, o243_243, o243_244, o243_245, o243_246, o243_248, mcs_0, mcs_l, true_and, not_true_eq_false, not_false_eq_true, false_implies, forall_const, Nat.reduceLeDiff, Nat.reduceAdd, lt_le, Int32.reduceLT, kc22, Int32.reduceLT, c1, c2, c3, c4]
  refine m_leX0_5 R (fun q f => ?_)
  simp only [o243_251, o243_252, o243_253, o243_254, o243_257, Kn_v, Int32.reduceAdd, i15]
  exact hQ q f

theorem ms_E0_6 {A : Nat → Nat} {d : Int64} {h0 m : MH} {Q : MR → MH → Prop} {bc bs : Nat} {a5 a6 a7 : Value} (sm : Sm A h0 m) (R : Rl A m) (hQ : ∀ q, Fr m q → Ok 243 232 [.ref (A 22), .long (dg1 d (if g_i h0 (A 15) 3 = 0 then 1 else 0)), mk0, .int 0, .int 7, a5, a6, a7] [] q bc bs Q) : Ok 243 232 [.ref (A 22), .long (d), mk0, .int 0, .int 6, a5, a6, a7] [] m (bc + 1) (bs + 9) Q := by
  have R0 := R
  obtain ⟨vk, vcn, v0, v1, v2, vp, vl0, vl1, vlr, vsr, vc, tx⟩ := R0
  have vk0 := vk
  have vcn0 := vcn
  (refine K_el vk0 ?_; intros hA kc0 kc1 kc2 kc3 kc4 kc5 kc6 kc7 kc8 kc9 kc10 kc11 kc12 kc13 kc14 kc15 kc16 kc17 kc18 kc19 kc20 kc21 kc22 kc23 kc24 kc25 kc26 kc27 kc28 kc29 kc30 kc31 kc32 kc33 kc34 kc35 kc36 kc37 kc38 kc39 kz kt kn3 kn4 kn18 kn21 kn23 kn24 kn25 kn26 kn27 kn29 kn30 kr0_0 kr0_1 kr0_2 kr0_3 kr0_4 kr0_5 kr0_7 kr0_8 kr0_9 kr0_10 kr1_0 kr2_0 kr5_0 kr5_1 kr6_0 kr6_1 kr7_0 kr7_1 kr8_0 kr9_0 kr10_0 kr11_0 kr12_0 kr13_0 kr14_0 kr15_0 kr16_0 kr17_0 kr19_0 kr19_1 kr22_0 kr22_1 kr22_2 kr22_3 kr22_4 kr22_5 kr22_7 kr22_8 kr25_0 kr25_1 kr25_2 kr26_0 kr26_1 kr26_2 kr29_0 kr29_1)
  (refine Cn_el vcn0 ?_; intros ki5_2 ki6_2 ki7_2 ki8_1 ki8_2 ki8_3 ki9_1 ki9_2 ki9_3 ki10_1 ki10_2 ki10_3 ki11_1 ki11_2 ki11_3 ki12_1 ki12_2 ki12_3 ki13_1 ki13_2 ki13_3 ki14_1 ki14_2 ki14_3 ki28_0 ki28_1 ki31_0 ki31_1 ki32_0 ki32_1 ki33_0 ki33_1 ki34_0 ki34_1 ki35_0 ki35_1 ki36_0 ki36_1)
  have hAe : ∀ i j, i < 40 → j < 40 → (A i = A j ↔ i = j) := hA
  have b9 : (9 : Int32) = 9 := by decide
  have c1 : (1 ≤ bc + 1) = True := eq_true (by omega)
  have c2 : (9 ≤ bs + 9) = True := eq_true (by omega)
  have c3 : bc + 1 - 1 = bc := by omega
  have c4 : bs + 9 - 9 = bs := by omega
  (refine Sm_el sm ?_; intros i0 l0 i1 l1 i2 l2 i3 l3 i4 l4 i5 l5 i6 l6 i7 l7 i8 l8 i9 l9 i10 l10 i11 l11 i12 l12 i13 l13 i14 l14 i15 l15 i16 l16 i17 l17 i18 l18 i19 l19 i23 l23 i24 l24 i25 l25 i26 l26 i27 l27 i28 l28 i29 l29 i30 l30 i31 l31 i32 l32 i33 l33 i34 l34 i35 l35 i36 l36 i37 l37 i38 l38 i39 l39 i22)
  rw [o243_232]
  simp only [o243_234, o243_236, o243_239, o243_240, o243_243, o243_244, o243_245, o243_246, o243_248, mcs_0, mcs_l, true_and, not_true_eq_false, not_false_eq_true, false_implies, forall_const, Nat.reduceLeDiff, Nat.reduceAdd, lt_le, Int32.reduceLT, kc22, Int32.reduceLT, c1, c2, c3, c4]
  refine m_leX0_6 R (fun q f => ?_)
  simp only [o243_251, o243_252, o243_253, o243_254, o243_257, Kn_v, Int32.reduceAdd, i15]
  exact hQ q f

theorem ms_E0_7 {A : Nat → Nat} {d : Int64} {h0 m : MH} {Q : MR → MH → Prop} {bc bs : Nat} {a5 a6 a7 : Value} (sm : Sm A h0 m) (R : Rl A m) (hQ : ∀ q, Fr m q → Ok 243 232 [.ref (A 22), .long (dg1 d (0)), mk0, .int 0, .int 8, a5, a6, a7] [] q bc bs Q) : Ok 243 232 [.ref (A 22), .long (d), mk0, .int 0, .int 7, a5, a6, a7] [] m (bc + 1) (bs + 9) Q := by
  have R0 := R
  obtain ⟨vk, vcn, v0, v1, v2, vp, vl0, vl1, vlr, vsr, vc, tx⟩ := R0
  have vk0 := vk
  have vcn0 := vcn
  (refine K_el vk0 ?_; intros hA kc0 kc1 kc2 kc3 kc4 kc5 kc6 kc7 kc8 kc9 kc10 kc11 kc12 kc13 kc14 kc15 kc16 kc17 kc18 kc19 kc20 kc21 kc22 kc23 kc24 kc25 kc26 kc27 kc28 kc29 kc30 kc31 kc32 kc33 kc34 kc35 kc36 kc37 kc38 kc39 kz kt kn3 kn4 kn18 kn21 kn23 kn24 kn25 kn26 kn27 kn29 kn30 kr0_0 kr0_1 kr0_2 kr0_3 kr0_4 kr0_5 kr0_7 kr0_8 kr0_9 kr0_10 kr1_0 kr2_0 kr5_0 kr5_1 kr6_0 kr6_1 kr7_0 kr7_1 kr8_0 kr9_0 kr10_0 kr11_0 kr12_0 kr13_0 kr14_0 kr15_0 kr16_0 kr17_0 kr19_0 kr19_1 kr22_0 kr22_1 kr22_2 kr22_3 kr22_4 kr22_5 kr22_7 kr22_8 kr25_0 kr25_1 kr25_2 kr26_0 kr26_1 kr26_2 kr29_0 kr29_1)
  (refine Cn_el vcn0 ?_; intros ki5_2 ki6_2 ki7_2 ki8_1 ki8_2 ki8_3 ki9_1 ki9_2 ki9_3 ki10_1 ki10_2 ki10_3 ki11_1 ki11_2 ki11_3 ki12_1 ki12_2 ki12_3 ki13_1 ki13_2 ki13_3 ki14_1 ki14_2 ki14_3 ki28_0 ki28_1 ki31_0 ki31_1 ki32_0 ki32_1 ki33_0 ki33_1 ki34_0 ki34_1 ki35_0 ki35_1 ki36_0 ki36_1)
  have hAe : ∀ i j, i < 40 → j < 40 → (A i = A j ↔ i = j) := hA
  have b9 : (9 : Int32) = 9 := by decide
  have c1 : (1 ≤ bc + 1) = True := eq_true (by omega)
  have c2 : (9 ≤ bs + 9) = True := eq_true (by omega)
  have c3 : bc + 1 - 1 = bc := by omega
  have c4 : bs + 9 - 9 = bs := by omega
  (refine Sm_el sm ?_; intros i0 l0 i1 l1 i2 l2 i3 l3 i4 l4 i5 l5 i6 l6 i7 l7 i8 l8 i9 l9 i10 l10 i11 l11 i12 l12 i13 l13 i14 l14 i15 l15 i16 l16 i17 l17 i18 l18 i19 l19 i23 l23 i24 l24 i25 l25 i26 l26 i27 l27 i28 l28 i29 l29 i30 l30 i31 l31 i32 l32 i33 l33 i34 l34 i35 l35 i36 l36 i37 l37 i38 l38 i39 l39 i22)
  rw [o243_232]
  simp only [o243_234, o243_236, o243_239, o243_240, o243_243, o243_244, o243_245, o243_246, o243_248, mcs_0, mcs_l, true_and, not_true_eq_false, not_false_eq_true, false_implies, forall_const, Nat.reduceLeDiff, Nat.reduceAdd, lt_le, Int32.reduceLT, kc22, Int32.reduceLT, c1, c2, c3, c4]
  refine m_leX0_7 R (fun q f => ?_)
  simp only [o243_251, o243_252, o243_253, o243_254, o243_257, Kn_v, Int32.reduceAdd]
  exact hQ q f

theorem ms_E0_8 {A : Nat → Nat} {d : Int64} {h0 m : MH} {Q : MR → MH → Prop} {bc bs : Nat} {a5 a6 a7 : Value} (sm : Sm A h0 m) (R : Rl A m) (hQ : ∀ q, Fr m q → Ok 243 232 [.ref (A 22), .long (dg1 d (if g_i h0 (A 15) 3 = 0 then g_i h0 (A 15) 1 else -1)), mk0, .int 0, .int 9, a5, a6, a7] [] q bc bs Q) : Ok 243 232 [.ref (A 22), .long (d), mk0, .int 0, .int 8, a5, a6, a7] [] m (bc + 1) (bs + 9) Q := by
  have R0 := R
  obtain ⟨vk, vcn, v0, v1, v2, vp, vl0, vl1, vlr, vsr, vc, tx⟩ := R0
  have vk0 := vk
  have vcn0 := vcn
  (refine K_el vk0 ?_; intros hA kc0 kc1 kc2 kc3 kc4 kc5 kc6 kc7 kc8 kc9 kc10 kc11 kc12 kc13 kc14 kc15 kc16 kc17 kc18 kc19 kc20 kc21 kc22 kc23 kc24 kc25 kc26 kc27 kc28 kc29 kc30 kc31 kc32 kc33 kc34 kc35 kc36 kc37 kc38 kc39 kz kt kn3 kn4 kn18 kn21 kn23 kn24 kn25 kn26 kn27 kn29 kn30 kr0_0 kr0_1 kr0_2 kr0_3 kr0_4 kr0_5 kr0_7 kr0_8 kr0_9 kr0_10 kr1_0 kr2_0 kr5_0 kr5_1 kr6_0 kr6_1 kr7_0 kr7_1 kr8_0 kr9_0 kr10_0 kr11_0 kr12_0 kr13_0 kr14_0 kr15_0 kr16_0 kr17_0 kr19_0 kr19_1 kr22_0 kr22_1 kr22_2 kr22_3 kr22_4 kr22_5 kr22_7 kr22_8 kr25_0 kr25_1 kr25_2 kr26_0 kr26_1 kr26_2 kr29_0 kr29_1)
  (refine Cn_el vcn0 ?_; intros ki5_2 ki6_2 ki7_2 ki8_1 ki8_2 ki8_3 ki9_1 ki9_2 ki9_3 ki10_1 ki10_2 ki10_3 ki11_1 ki11_2 ki11_3 ki12_1 ki12_2 ki12_3 ki13_1 ki13_2 ki13_3 ki14_1 ki14_2 ki14_3 ki28_0 ki28_1 ki31_0 ki31_1 ki32_0 ki32_1 ki33_0 ki33_1 ki34_0 ki34_1 ki35_0 ki35_1 ki36_0 ki36_1)
  have hAe : ∀ i j, i < 40 → j < 40 → (A i = A j ↔ i = j) := hA
  have b9 : (9 : Int32) = 9 := by decide
  have c1 : (1 ≤ bc + 1) = True := eq_true (by omega)
  have c2 : (9 ≤ bs + 9) = True := eq_true (by omega)
  have c3 : bc + 1 - 1 = bc := by omega
  have c4 : bs + 9 - 9 = bs := by omega
  (refine Sm_el sm ?_; intros i0 l0 i1 l1 i2 l2 i3 l3 i4 l4 i5 l5 i6 l6 i7 l7 i8 l8 i9 l9 i10 l10 i11 l11 i12 l12 i13 l13 i14 l14 i15 l15 i16 l16 i17 l17 i18 l18 i19 l19 i23 l23 i24 l24 i25 l25 i26 l26 i27 l27 i28 l28 i29 l29 i30 l30 i31 l31 i32 l32 i33 l33 i34 l34 i35 l35 i36 l36 i37 l37 i38 l38 i39 l39 i22)
  rw [o243_232]
  simp only [o243_234, o243_236, o243_239, o243_240, o243_243, o243_244, o243_245, o243_246, o243_248, mcs_0, mcs_l, true_and, not_true_eq_false, not_false_eq_true, false_implies, forall_const, Nat.reduceLeDiff, Nat.reduceAdd, lt_le, Int32.reduceLT, kc22, Int32.reduceLT, c1, c2, c3, c4]
  refine m_leX0_8 R (fun q f => ?_)
  simp only [o243_251, o243_252, o243_253, o243_254, o243_257, Kn_v, Int32.reduceAdd, i15]
  exact hQ q f

theorem ms_E1_0 {A : Nat → Nat} {d : Int64} {h0 m : MH} {Q : MR → MH → Prop} {bc bs : Nat} {a5 a6 a7 : Value} (sm : Sm A h0 m) (R : Rl A m) (hQ : ∀ q, Fr m q → Ok 243 232 [.ref (A 22), .long (dg1 d (g_i h0 (A 16) 4)), mk0, .int 1, .int 1, a5, a6, a7] [] q bc bs Q) : Ok 243 232 [.ref (A 22), .long (d), mk0, .int 1, .int 0, a5, a6, a7] [] m (bc + 1) (bs + 9) Q := by
  have R0 := R
  obtain ⟨vk, vcn, v0, v1, v2, vp, vl0, vl1, vlr, vsr, vc, tx⟩ := R0
  have vk0 := vk
  have vcn0 := vcn
  (refine K_el vk0 ?_; intros hA kc0 kc1 kc2 kc3 kc4 kc5 kc6 kc7 kc8 kc9 kc10 kc11 kc12 kc13 kc14 kc15 kc16 kc17 kc18 kc19 kc20 kc21 kc22 kc23 kc24 kc25 kc26 kc27 kc28 kc29 kc30 kc31 kc32 kc33 kc34 kc35 kc36 kc37 kc38 kc39 kz kt kn3 kn4 kn18 kn21 kn23 kn24 kn25 kn26 kn27 kn29 kn30 kr0_0 kr0_1 kr0_2 kr0_3 kr0_4 kr0_5 kr0_7 kr0_8 kr0_9 kr0_10 kr1_0 kr2_0 kr5_0 kr5_1 kr6_0 kr6_1 kr7_0 kr7_1 kr8_0 kr9_0 kr10_0 kr11_0 kr12_0 kr13_0 kr14_0 kr15_0 kr16_0 kr17_0 kr19_0 kr19_1 kr22_0 kr22_1 kr22_2 kr22_3 kr22_4 kr22_5 kr22_7 kr22_8 kr25_0 kr25_1 kr25_2 kr26_0 kr26_1 kr26_2 kr29_0 kr29_1)
  (refine Cn_el vcn0 ?_; intros ki5_2 ki6_2 ki7_2 ki8_1 ki8_2 ki8_3 ki9_1 ki9_2 ki9_3 ki10_1 ki10_2 ki10_3 ki11_1 ki11_2 ki11_3 ki12_1 ki12_2 ki12_3 ki13_1 ki13_2 ki13_3 ki14_1 ki14_2 ki14_3 ki28_0 ki28_1 ki31_0 ki31_1 ki32_0 ki32_1 ki33_0 ki33_1 ki34_0 ki34_1 ki35_0 ki35_1 ki36_0 ki36_1)
  have hAe : ∀ i j, i < 40 → j < 40 → (A i = A j ↔ i = j) := hA
  have b9 : (9 : Int32) = 9 := by decide
  have c1 : (1 ≤ bc + 1) = True := eq_true (by omega)
  have c2 : (9 ≤ bs + 9) = True := eq_true (by omega)
  have c3 : bc + 1 - 1 = bc := by omega
  have c4 : bs + 9 - 9 = bs := by omega
  (refine Sm_el sm ?_; intros i0 l0 i1 l1 i2 l2 i3 l3 i4 l4 i5 l5 i6 l6 i7 l7 i8 l8 i9 l9 i10 l10 i11 l11 i12 l12 i13 l13 i14 l14 i15 l15 i16 l16 i17 l17 i18 l18 i19 l19 i23 l23 i24 l24 i25 l25 i26 l26 i27 l27 i28 l28 i29 l29 i30 l30 i31 l31 i32 l32 i33 l33 i34 l34 i35 l35 i36 l36 i37 l37 i38 l38 i39 l39 i22)
  rw [o243_232]
  simp only [o243_234, o243_236, o243_239, o243_240, o243_243, o243_244, o243_245, o243_246, o243_248, mcs_0, mcs_l, true_and, not_true_eq_false, not_false_eq_true, false_implies, forall_const, Nat.reduceLeDiff, Nat.reduceAdd, lt_le, Int32.reduceLT, kc22, Int32.reduceLT, c1, c2, c3, c4]
  refine m_leX1_0 R (fun q f => ?_)
  simp only [o243_251, o243_252, o243_253, o243_254, o243_257, Kn_v, Int32.reduceAdd, i16]
  exact hQ q f

theorem ms_E1_1 {A : Nat → Nat} {d : Int64} {h0 m : MH} {Q : MR → MH → Prop} {bc bs : Nat} {a5 a6 a7 : Value} (sm : Sm A h0 m) (R : Rl A m) (hQ : ∀ q, Fr m q → Ok 243 232 [.ref (A 22), .long (dg1 d (g_i h0 (A 16) 5)), mk0, .int 1, .int 2, a5, a6, a7] [] q bc bs Q) : Ok 243 232 [.ref (A 22), .long (d), mk0, .int 1, .int 1, a5, a6, a7] [] m (bc + 1) (bs + 9) Q := by
  have R0 := R
  obtain ⟨vk, vcn, v0, v1, v2, vp, vl0, vl1, vlr, vsr, vc, tx⟩ := R0
  have vk0 := vk
  have vcn0 := vcn
  (refine K_el vk0 ?_; intros hA kc0 kc1 kc2 kc3 kc4 kc5 kc6 kc7 kc8 kc9 kc10 kc11 kc12 kc13 kc14 kc15 kc16 kc17 kc18 kc19 kc20 kc21 kc22 kc23 kc24 kc25 kc26 kc27 kc28 kc29 kc30 kc31 kc32 kc33 kc34 kc35 kc36 kc37 kc38 kc39 kz kt kn3 kn4 kn18 kn21 kn23 kn24 kn25 kn26 kn27 kn29 kn30 kr0_0 kr0_1 kr0_2 kr0_3 kr0_4 kr0_5 kr0_7 kr0_8 kr0_9 kr0_10 kr1_0 kr2_0 kr5_0 kr5_1 kr6_0 kr6_1 kr7_0 kr7_1 kr8_0 kr9_0 kr10_0 kr11_0 kr12_0 kr13_0 kr14_0 kr15_0 kr16_0 kr17_0 kr19_0 kr19_1 kr22_0 kr22_1 kr22_2 kr22_3 kr22_4 kr22_5 kr22_7 kr22_8 kr25_0 kr25_1 kr25_2 kr26_0 kr26_1 kr26_2 kr29_0 kr29_1)
  (refine Cn_el vcn0 ?_; intros ki5_2 ki6_2 ki7_2 ki8_1 ki8_2 ki8_3 ki9_1 ki9_2 ki9_3 ki10_1 ki10_2 ki10_3 ki11_1 ki11_2 ki11_3 ki12_1 ki12_2 ki12_3 ki13_1 ki13_2 ki13_3 ki14_1 ki14_2 ki14_3 ki28_0 ki28_1 ki31_0 ki31_1 ki32_0 ki32_1 ki33_0 ki33_1 ki34_0 ki34_1 ki35_0 ki35_1 ki36_0 ki36_1)
  have hAe : ∀ i j, i < 40 → j < 40 → (A i = A j ↔ i = j) := hA
  have b9 : (9 : Int32) = 9 := by decide
  have c1 : (1 ≤ bc + 1) = True := eq_true (by omega)
  have c2 : (9 ≤ bs + 9) = True := eq_true (by omega)
  have c3 : bc + 1 - 1 = bc := by omega
  have c4 : bs + 9 - 9 = bs := by omega
  (refine Sm_el sm ?_; intros i0 l0 i1 l1 i2 l2 i3 l3 i4 l4 i5 l5 i6 l6 i7 l7 i8 l8 i9 l9 i10 l10 i11 l11 i12 l12 i13 l13 i14 l14 i15 l15 i16 l16 i17 l17 i18 l18 i19 l19 i23 l23 i24 l24 i25 l25 i26 l26 i27 l27 i28 l28 i29 l29 i30 l30 i31 l31 i32 l32 i33 l33 i34 l34 i35 l35 i36 l36 i37 l37 i38 l38 i39 l39 i22)
  rw [o243_232]
  simp only [o243_234, o243_236, o243_239, o243_240, o243_243, o243_244, o243_245, o243_246, o243_248, mcs_0, mcs_l, true_and, not_true_eq_false, not_false_eq_true, false_implies, forall_const, Nat.reduceLeDiff, Nat.reduceAdd, lt_le, Int32.reduceLT, kc22, Int32.reduceLT, c1, c2, c3, c4]
  refine m_leX1_1 R (fun q f => ?_)
  simp only [o243_251, o243_252, o243_253, o243_254, o243_257, Kn_v, Int32.reduceAdd, i16]
  exact hQ q f

theorem ms_E1_2 {A : Nat → Nat} {d : Int64} {h0 m : MH} {Q : MR → MH → Prop} {bc bs : Nat} {a5 a6 a7 : Value} (sm : Sm A h0 m) (R : Rl A m) (hQ : ∀ q, Fr m q → Ok 243 232 [.ref (A 22), .long (dg1 d (g_i h0 (A 16) 2)), mk0, .int 1, .int 3, a5, a6, a7] [] q bc bs Q) : Ok 243 232 [.ref (A 22), .long (d), mk0, .int 1, .int 2, a5, a6, a7] [] m (bc + 1) (bs + 9) Q := by
  have R0 := R
  obtain ⟨vk, vcn, v0, v1, v2, vp, vl0, vl1, vlr, vsr, vc, tx⟩ := R0
  have vk0 := vk
  have vcn0 := vcn
  (refine K_el vk0 ?_; intros hA kc0 kc1 kc2 kc3 kc4 kc5 kc6 kc7 kc8 kc9 kc10 kc11 kc12 kc13 kc14 kc15 kc16 kc17 kc18 kc19 kc20 kc21 kc22 kc23 kc24 kc25 kc26 kc27 kc28 kc29 kc30 kc31 kc32 kc33 kc34 kc35 kc36 kc37 kc38 kc39 kz kt kn3 kn4 kn18 kn21 kn23 kn24 kn25 kn26 kn27 kn29 kn30 kr0_0 kr0_1 kr0_2 kr0_3 kr0_4 kr0_5 kr0_7 kr0_8 kr0_9 kr0_10 kr1_0 kr2_0 kr5_0 kr5_1 kr6_0 kr6_1 kr7_0 kr7_1 kr8_0 kr9_0 kr10_0 kr11_0 kr12_0 kr13_0 kr14_0 kr15_0 kr16_0 kr17_0 kr19_0 kr19_1 kr22_0 kr22_1 kr22_2 kr22_3 kr22_4 kr22_5 kr22_7 kr22_8 kr25_0 kr25_1 kr25_2 kr26_0 kr26_1 kr26_2 kr29_0 kr29_1)
  (refine Cn_el vcn0 ?_; intros ki5_2 ki6_2 ki7_2 ki8_1 ki8_2 ki8_3 ki9_1 ki9_2 ki9_3 ki10_1 ki10_2 ki10_3 ki11_1 ki11_2 ki11_3 ki12_1 ki12_2 ki12_3 ki13_1 ki13_2 ki13_3 ki14_1 ki14_2 ki14_3 ki28_0 ki28_1 ki31_0 ki31_1 ki32_0 ki32_1 ki33_0 ki33_1 ki34_0 ki34_1 ki35_0 ki35_1 ki36_0 ki36_1)
  have hAe : ∀ i j, i < 40 → j < 40 → (A i = A j ↔ i = j) := hA
  have b9 : (9 : Int32) = 9 := by decide
  have c1 : (1 ≤ bc + 1) = True := eq_true (by omega)
  have c2 : (9 ≤ bs + 9) = True := eq_true (by omega)
  have c3 : bc + 1 - 1 = bc := by omega
  have c4 : bs + 9 - 9 = bs := by omega
  (refine Sm_el sm ?_; intros i0 l0 i1 l1 i2 l2 i3 l3 i4 l4 i5 l5 i6 l6 i7 l7 i8 l8 i9 l9 i10 l10 i11 l11 i12 l12 i13 l13 i14 l14 i15 l15 i16 l16 i17 l17 i18 l18 i19 l19 i23 l23 i24 l24 i25 l25 i26 l26 i27 l27 i28 l28 i29 l29 i30 l30 i31 l31 i32 l32 i33 l33 i34 l34 i35 l35 i36 l36 i37 l37 i38 l38 i39 l39 i22)
  rw [o243_232]
  simp only [o243_234, o243_236, o243_239, o243_240, o243_243, o243_244, o243_245, o243_246, o243_248, mcs_0, mcs_l, true_and, not_true_eq_false, not_false_eq_true, false_implies, forall_const, Nat.reduceLeDiff, Nat.reduceAdd, lt_le, Int32.reduceLT, kc22, Int32.reduceLT, c1, c2, c3, c4]
  refine m_leX1_2 R (fun q f => ?_)
  simp only [o243_251, o243_252, o243_253, o243_254, o243_257, Kn_v, Int32.reduceAdd, i16]
  exact hQ q f

theorem ms_E1_3 {A : Nat → Nat} {d : Int64} {h0 m : MH} {Q : MR → MH → Prop} {bc bs : Nat} {a5 a6 a7 : Value} (sm : Sm A h0 m) (R : Rl A m) (hQ : ∀ q, Fr m q → Ok 243 232 [.ref (A 22), .long (dg1 d (g_i h0 (A 16) 5 - g_i h0 (A 16) 4)), mk0, .int 1, .int 4, a5, a6, a7] [] q bc bs Q) : Ok 243 232 [.ref (A 22), .long (d), mk0, .int 1, .int 3, a5, a6, a7] [] m (bc + 1) (bs + 9) Q := by
  have R0 := R
  obtain ⟨vk, vcn, v0, v1, v2, vp, vl0, vl1, vlr, vsr, vc, tx⟩ := R0
  have vk0 := vk
  have vcn0 := vcn
  (refine K_el vk0 ?_; intros hA kc0 kc1 kc2 kc3 kc4 kc5 kc6 kc7 kc8 kc9 kc10 kc11 kc12 kc13 kc14 kc15 kc16 kc17 kc18 kc19 kc20 kc21 kc22 kc23 kc24 kc25 kc26 kc27 kc28 kc29 kc30 kc31 kc32 kc33 kc34 kc35 kc36 kc37 kc38 kc39 kz kt kn3 kn4 kn18 kn21 kn23 kn24 kn25 kn26 kn27 kn29 kn30 kr0_0 kr0_1 kr0_2 kr0_3 kr0_4 kr0_5 kr0_7 kr0_8 kr0_9 kr0_10 kr1_0 kr2_0 kr5_0 kr5_1 kr6_0 kr6_1 kr7_0 kr7_1 kr8_0 kr9_0 kr10_0 kr11_0 kr12_0 kr13_0 kr14_0 kr15_0 kr16_0 kr17_0 kr19_0 kr19_1 kr22_0 kr22_1 kr22_2 kr22_3 kr22_4 kr22_5 kr22_7 kr22_8 kr25_0 kr25_1 kr25_2 kr26_0 kr26_1 kr26_2 kr29_0 kr29_1)
  (refine Cn_el vcn0 ?_; intros ki5_2 ki6_2 ki7_2 ki8_1 ki8_2 ki8_3 ki9_1 ki9_2 ki9_3 ki10_1 ki10_2 ki10_3 ki11_1 ki11_2 ki11_3 ki12_1 ki12_2 ki12_3 ki13_1 ki13_2 ki13_3 ki14_1 ki14_2 ki14_3 ki28_0 ki28_1 ki31_0 ki31_1 ki32_0 ki32_1 ki33_0 ki33_1 ki34_0 ki34_1 ki35_0 ki35_1 ki36_0 ki36_1)
  have hAe : ∀ i j, i < 40 → j < 40 → (A i = A j ↔ i = j) := hA
  have b9 : (9 : Int32) = 9 := by decide
  have c1 : (1 ≤ bc + 1) = True := eq_true (by omega)
  have c2 : (9 ≤ bs + 9) = True := eq_true (by omega)
  have c3 : bc + 1 - 1 = bc := by omega
  have c4 : bs + 9 - 9 = bs := by omega
  (refine Sm_el sm ?_; intros i0 l0 i1 l1 i2 l2 i3 l3 i4 l4 i5 l5 i6 l6 i7 l7 i8 l8 i9 l9 i10 l10 i11 l11 i12 l12 i13 l13 i14 l14 i15 l15 i16 l16 i17 l17 i18 l18 i19 l19 i23 l23 i24 l24 i25 l25 i26 l26 i27 l27 i28 l28 i29 l29 i30 l30 i31 l31 i32 l32 i33 l33 i34 l34 i35 l35 i36 l36 i37 l37 i38 l38 i39 l39 i22)
  rw [o243_232]
  simp only [o243_234, o243_236, o243_239, o243_240, o243_243, o243_244, o243_245, o243_246, o243_248, mcs_0, mcs_l, true_and, not_true_eq_false, not_false_eq_true, false_implies, forall_const, Nat.reduceLeDiff, Nat.reduceAdd, lt_le, Int32.reduceLT, kc22, Int32.reduceLT, c1, c2, c3, c4]
  refine m_leX1_3 R (fun q f => ?_)
  simp only [o243_251, o243_252, o243_253, o243_254, o243_257, Kn_v, Int32.reduceAdd, i16]
  exact hQ q f

theorem ms_E1_4 {A : Nat → Nat} {d : Int64} {h0 m : MH} {Q : MR → MH → Prop} {bc bs : Nat} {a5 a6 a7 : Value} (sm : Sm A h0 m) (R : Rl A m) (hQ : ∀ q, Fr m q → Ok 243 232 [.ref (A 22), .long (dg1 d (g_i h0 (A 16) 6)), mk0, .int 1, .int 5, a5, a6, a7] [] q bc bs Q) : Ok 243 232 [.ref (A 22), .long (d), mk0, .int 1, .int 4, a5, a6, a7] [] m (bc + 1) (bs + 9) Q := by
  have R0 := R
  obtain ⟨vk, vcn, v0, v1, v2, vp, vl0, vl1, vlr, vsr, vc, tx⟩ := R0
  have vk0 := vk
  have vcn0 := vcn
  (refine K_el vk0 ?_; intros hA kc0 kc1 kc2 kc3 kc4 kc5 kc6 kc7 kc8 kc9 kc10 kc11 kc12 kc13 kc14 kc15 kc16 kc17 kc18 kc19 kc20 kc21 kc22 kc23 kc24 kc25 kc26 kc27 kc28 kc29 kc30 kc31 kc32 kc33 kc34 kc35 kc36 kc37 kc38 kc39 kz kt kn3 kn4 kn18 kn21 kn23 kn24 kn25 kn26 kn27 kn29 kn30 kr0_0 kr0_1 kr0_2 kr0_3 kr0_4 kr0_5 kr0_7 kr0_8 kr0_9 kr0_10 kr1_0 kr2_0 kr5_0 kr5_1 kr6_0 kr6_1 kr7_0 kr7_1 kr8_0 kr9_0 kr10_0 kr11_0 kr12_0 kr13_0 kr14_0 kr15_0 kr16_0 kr17_0 kr19_0 kr19_1 kr22_0 kr22_1 kr22_2 kr22_3 kr22_4 kr22_5 kr22_7 kr22_8 kr25_0 kr25_1 kr25_2 kr26_0 kr26_1 kr26_2 kr29_0 kr29_1)
  (refine Cn_el vcn0 ?_; intros ki5_2 ki6_2 ki7_2 ki8_1 ki8_2 ki8_3 ki9_1 ki9_2 ki9_3 ki10_1 ki10_2 ki10_3 ki11_1 ki11_2 ki11_3 ki12_1 ki12_2 ki12_3 ki13_1 ki13_2 ki13_3 ki14_1 ki14_2 ki14_3 ki28_0 ki28_1 ki31_0 ki31_1 ki32_0 ki32_1 ki33_0 ki33_1 ki34_0 ki34_1 ki35_0 ki35_1 ki36_0 ki36_1)
  have hAe : ∀ i j, i < 40 → j < 40 → (A i = A j ↔ i = j) := hA
  have b9 : (9 : Int32) = 9 := by decide
  have c1 : (1 ≤ bc + 1) = True := eq_true (by omega)
  have c2 : (9 ≤ bs + 9) = True := eq_true (by omega)
  have c3 : bc + 1 - 1 = bc := by omega
  have c4 : bs + 9 - 9 = bs := by omega
  (refine Sm_el sm ?_; intros i0 l0 i1 l1 i2 l2 i3 l3 i4 l4 i5 l5 i6 l6 i7 l7 i8 l8 i9 l9 i10 l10 i11 l11 i12 l12 i13 l13 i14 l14 i15 l15 i16 l16 i17 l17 i18 l18 i19 l19 i23 l23 i24 l24 i25 l25 i26 l26 i27 l27 i28 l28 i29 l29 i30 l30 i31 l31 i32 l32 i33 l33 i34 l34 i35 l35 i36 l36 i37 l37 i38 l38 i39 l39 i22)
  rw [o243_232]
  simp only [o243_234, o243_236, o243_239, o243_240, o243_243, o243_244, o243_245, o243_246, o243_248, mcs_0, mcs_l, true_and, not_true_eq_false, not_false_eq_true, false_implies, forall_const, Nat.reduceLeDiff, Nat.reduceAdd, lt_le, Int32.reduceLT, kc22, Int32.reduceLT, c1, c2, c3, c4]
  refine m_leX1_4 R (fun q f => ?_)
  simp only [o243_251, o243_252, o243_253, o243_254, o243_257, Kn_v, Int32.reduceAdd, i16]
  exact hQ q f

theorem ms_E1_5 {A : Nat → Nat} {d : Int64} {h0 m : MH} {Q : MR → MH → Prop} {bc bs : Nat} {a5 a6 a7 : Value} (sm : Sm A h0 m) (R : Rl A m) (hQ : ∀ q, Fr m q → Ok 243 232 [.ref (A 22), .long (dg1 d (if g_i h0 (A 16) 3 = 0 then 0 else 1)), mk0, .int 1, .int 6, a5, a6, a7] [] q bc bs Q) : Ok 243 232 [.ref (A 22), .long (d), mk0, .int 1, .int 5, a5, a6, a7] [] m (bc + 1) (bs + 9) Q := by
  have R0 := R
  obtain ⟨vk, vcn, v0, v1, v2, vp, vl0, vl1, vlr, vsr, vc, tx⟩ := R0
  have vk0 := vk
  have vcn0 := vcn
  (refine K_el vk0 ?_; intros hA kc0 kc1 kc2 kc3 kc4 kc5 kc6 kc7 kc8 kc9 kc10 kc11 kc12 kc13 kc14 kc15 kc16 kc17 kc18 kc19 kc20 kc21 kc22 kc23 kc24 kc25 kc26 kc27 kc28 kc29 kc30 kc31 kc32 kc33 kc34 kc35 kc36 kc37 kc38 kc39 kz kt kn3 kn4 kn18 kn21 kn23 kn24 kn25 kn26 kn27 kn29 kn30 kr0_0 kr0_1 kr0_2 kr0_3 kr0_4 kr0_5 kr0_7 kr0_8 kr0_9 kr0_10 kr1_0 kr2_0 kr5_0 kr5_1 kr6_0 kr6_1 kr7_0 kr7_1 kr8_0 kr9_0 kr10_0 kr11_0 kr12_0 kr13_0 kr14_0 kr15_0 kr16_0 kr17_0 kr19_0 kr19_1 kr22_0 kr22_1 kr22_2 kr22_3 kr22_4 kr22_5 kr22_7 kr22_8 kr25_0 kr25_1 kr25_2 kr26_0 kr26_1 kr26_2 kr29_0 kr29_1)
  (refine Cn_el vcn0 ?_; intros ki5_2 ki6_2 ki7_2 ki8_1 ki8_2 ki8_3 ki9_1 ki9_2 ki9_3 ki10_1 ki10_2 ki10_3 ki11_1 ki11_2 ki11_3 ki12_1 ki12_2 ki12_3 ki13_1 ki13_2 ki13_3 ki14_1 ki14_2 ki14_3 ki28_0 ki28_1 ki31_0 ki31_1 ki32_0 ki32_1 ki33_0 ki33_1 ki34_0 ki34_1 ki35_0 ki35_1 ki36_0 ki36_1)
  have hAe : ∀ i j, i < 40 → j < 40 → (A i = A j ↔ i = j) := hA
  have b9 : (9 : Int32) = 9 := by decide
  have c1 : (1 ≤ bc + 1) = True := eq_true (by omega)
  have c2 : (9 ≤ bs + 9) = True := eq_true (by omega)
  have c3 : bc + 1 - 1 = bc := by omega
  have c4 : bs + 9 - 9 = bs := by omega
  (refine Sm_el sm ?_; intros i0 l0 i1 l1 i2 l2 i3 l3 i4 l4 i5 l5 i6 l6 i7 l7 i8 l8 i9 l9 i10 l10 i11 l11 i12 l12 i13 l13 i14 l14 i15 l15 i16 l16 i17 l17 i18 l18 i19 l19 i23 l23 i24 l24 i25 l25 i26 l26 i27 l27 i28 l28 i29 l29 i30 l30 i31 l31 i32 l32 i33 l33 i34 l34 i35 l35 i36 l36 i37 l37 i38 l38 i39 l39 i22)
  rw [o243_232]
  simp only [o243_234, o243_236, o243_239, o243_240, o243_243, o243_244, o243_245, o243_246, o243_248, mcs_0, mcs_l, true_and, not_true_eq_false, not_false_eq_true, false_implies, forall_const, Nat.reduceLeDiff, Nat.reduceAdd, lt_le, Int32.reduceLT, kc22, Int32.reduceLT, c1, c2, c3, c4]
  refine m_leX1_5 R (fun q f => ?_)
  simp only [o243_251, o243_252, o243_253, o243_254, o243_257, Kn_v, Int32.reduceAdd, i16]
  exact hQ q f

theorem ms_E1_6 {A : Nat → Nat} {d : Int64} {h0 m : MH} {Q : MR → MH → Prop} {bc bs : Nat} {a5 a6 a7 : Value} (sm : Sm A h0 m) (R : Rl A m) (hQ : ∀ q, Fr m q → Ok 243 232 [.ref (A 22), .long (dg1 d (if g_i h0 (A 16) 3 = 0 then 1 else 0)), mk0, .int 1, .int 7, a5, a6, a7] [] q bc bs Q) : Ok 243 232 [.ref (A 22), .long (d), mk0, .int 1, .int 6, a5, a6, a7] [] m (bc + 1) (bs + 9) Q := by
  have R0 := R
  obtain ⟨vk, vcn, v0, v1, v2, vp, vl0, vl1, vlr, vsr, vc, tx⟩ := R0
  have vk0 := vk
  have vcn0 := vcn
  (refine K_el vk0 ?_; intros hA kc0 kc1 kc2 kc3 kc4 kc5 kc6 kc7 kc8 kc9 kc10 kc11 kc12 kc13 kc14 kc15 kc16 kc17 kc18 kc19 kc20 kc21 kc22 kc23 kc24 kc25 kc26 kc27 kc28 kc29 kc30 kc31 kc32 kc33 kc34 kc35 kc36 kc37 kc38 kc39 kz kt kn3 kn4 kn18 kn21 kn23 kn24 kn25 kn26 kn27 kn29 kn30 kr0_0 kr0_1 kr0_2 kr0_3 kr0_4 kr0_5 kr0_7 kr0_8 kr0_9 kr0_10 kr1_0 kr2_0 kr5_0 kr5_1 kr6_0 kr6_1 kr7_0 kr7_1 kr8_0 kr9_0 kr10_0 kr11_0 kr12_0 kr13_0 kr14_0 kr15_0 kr16_0 kr17_0 kr19_0 kr19_1 kr22_0 kr22_1 kr22_2 kr22_3 kr22_4 kr22_5 kr22_7 kr22_8 kr25_0 kr25_1 kr25_2 kr26_0 kr26_1 kr26_2 kr29_0 kr29_1)
  (refine Cn_el vcn0 ?_; intros ki5_2 ki6_2 ki7_2 ki8_1 ki8_2 ki8_3 ki9_1 ki9_2 ki9_3 ki10_1 ki10_2 ki10_3 ki11_1 ki11_2 ki11_3 ki12_1 ki12_2 ki12_3 ki13_1 ki13_2 ki13_3 ki14_1 ki14_2 ki14_3 ki28_0 ki28_1 ki31_0 ki31_1 ki32_0 ki32_1 ki33_0 ki33_1 ki34_0 ki34_1 ki35_0 ki35_1 ki36_0 ki36_1)
  have hAe : ∀ i j, i < 40 → j < 40 → (A i = A j ↔ i = j) := hA
  have b9 : (9 : Int32) = 9 := by decide
  have c1 : (1 ≤ bc + 1) = True := eq_true (by omega)
  have c2 : (9 ≤ bs + 9) = True := eq_true (by omega)
  have c3 : bc + 1 - 1 = bc := by omega
  have c4 : bs + 9 - 9 = bs := by omega
  (refine Sm_el sm ?_; intros i0 l0 i1 l1 i2 l2 i3 l3 i4 l4 i5 l5 i6 l6 i7 l7 i8 l8 i9 l9 i10 l10 i11 l11 i12 l12 i13 l13 i14 l14 i15 l15 i16 l16 i17 l17 i18 l18 i19 l19 i23 l23 i24 l24 i25 l25 i26 l26 i27 l27 i28 l28 i29 l29 i30 l30 i31 l31 i32 l32 i33 l33 i34 l34 i35 l35 i36 l36 i37 l37 i38 l38 i39 l39 i22)
  rw [o243_232]
  simp only [o243_234, o243_236, o243_239, o243_240, o243_243, o243_244, o243_245, o243_246, o243_248, mcs_0, mcs_l, true_and, not_true_eq_false, not_false_eq_true, false_implies, forall_const, Nat.reduceLeDiff, Nat.reduceAdd, lt_le, Int32.reduceLT, kc22, Int32.reduceLT, c1, c2, c3, c4]
  refine m_leX1_6 R (fun q f => ?_)
  simp only [o243_251, o243_252, o243_253, o243_254, o243_257, Kn_v, Int32.reduceAdd, i16]
  exact hQ q f

theorem ms_E1_7 {A : Nat → Nat} {d : Int64} {h0 m : MH} {Q : MR → MH → Prop} {bc bs : Nat} {a5 a6 a7 : Value} (sm : Sm A h0 m) (R : Rl A m) (hQ : ∀ q, Fr m q → Ok 243 232 [.ref (A 22), .long (dg1 d (0)), mk0, .int 1, .int 8, a5, a6, a7] [] q bc bs Q) : Ok 243 232 [.ref (A 22), .long (d), mk0, .int 1, .int 7, a5, a6, a7] [] m (bc + 1) (bs + 9) Q := by
  have R0 := R
  obtain ⟨vk, vcn, v0, v1, v2, vp, vl0, vl1, vlr, vsr, vc, tx⟩ := R0
  have vk0 := vk
  have vcn0 := vcn
  (refine K_el vk0 ?_; intros hA kc0 kc1 kc2 kc3 kc4 kc5 kc6 kc7 kc8 kc9 kc10 kc11 kc12 kc13 kc14 kc15 kc16 kc17 kc18 kc19 kc20 kc21 kc22 kc23 kc24 kc25 kc26 kc27 kc28 kc29 kc30 kc31 kc32 kc33 kc34 kc35 kc36 kc37 kc38 kc39 kz kt kn3 kn4 kn18 kn21 kn23 kn24 kn25 kn26 kn27 kn29 kn30 kr0_0 kr0_1 kr0_2 kr0_3 kr0_4 kr0_5 kr0_7 kr0_8 kr0_9 kr0_10 kr1_0 kr2_0 kr5_0 kr5_1 kr6_0 kr6_1 kr7_0 kr7_1 kr8_0 kr9_0 kr10_0 kr11_0 kr12_0 kr13_0 kr14_0 kr15_0 kr16_0 kr17_0 kr19_0 kr19_1 kr22_0 kr22_1 kr22_2 kr22_3 kr22_4 kr22_5 kr22_7 kr22_8 kr25_0 kr25_1 kr25_2 kr26_0 kr26_1 kr26_2 kr29_0 kr29_1)
  (refine Cn_el vcn0 ?_; intros ki5_2 ki6_2 ki7_2 ki8_1 ki8_2 ki8_3 ki9_1 ki9_2 ki9_3 ki10_1 ki10_2 ki10_3 ki11_1 ki11_2 ki11_3 ki12_1 ki12_2 ki12_3 ki13_1 ki13_2 ki13_3 ki14_1 ki14_2 ki14_3 ki28_0 ki28_1 ki31_0 ki31_1 ki32_0 ki32_1 ki33_0 ki33_1 ki34_0 ki34_1 ki35_0 ki35_1 ki36_0 ki36_1)
  have hAe : ∀ i j, i < 40 → j < 40 → (A i = A j ↔ i = j) := hA
  have b9 : (9 : Int32) = 9 := by decide
  have c1 : (1 ≤ bc + 1) = True := eq_true (by omega)
  have c2 : (9 ≤ bs + 9) = True := eq_true (by omega)
  have c3 : bc + 1 - 1 = bc := by omega
  have c4 : bs + 9 - 9 = bs := by omega
  (refine Sm_el sm ?_; intros i0 l0 i1 l1 i2 l2 i3 l3 i4 l4 i5 l5 i6 l6 i7 l7 i8 l8 i9 l9 i10 l10 i11 l11 i12 l12 i13 l13 i14 l14 i15 l15 i16 l16 i17 l17 i18 l18 i19 l19 i23 l23 i24 l24 i25 l25 i26 l26 i27 l27 i28 l28 i29 l29 i30 l30 i31 l31 i32 l32 i33 l33 i34 l34 i35 l35 i36 l36 i37 l37 i38 l38 i39 l39 i22)
  rw [o243_232]
  simp only [o243_234, o243_236, o243_239, o243_240, o243_243, o243_244, o243_245, o243_246, o243_248, mcs_0, mcs_l, true_and, not_true_eq_false, not_false_eq_true, false_implies, forall_const, Nat.reduceLeDiff, Nat.reduceAdd, lt_le, Int32.reduceLT, kc22, Int32.reduceLT, c1, c2, c3, c4]
  refine m_leX1_7 R (fun q f => ?_)
  simp only [o243_251, o243_252, o243_253, o243_254, o243_257, Kn_v, Int32.reduceAdd]
  exact hQ q f

theorem ms_E1_8 {A : Nat → Nat} {d : Int64} {h0 m : MH} {Q : MR → MH → Prop} {bc bs : Nat} {a5 a6 a7 : Value} (sm : Sm A h0 m) (R : Rl A m) (hQ : ∀ q, Fr m q → Ok 243 232 [.ref (A 22), .long (dg1 d (if g_i h0 (A 16) 3 = 0 then g_i h0 (A 16) 1 else -1)), mk0, .int 1, .int 9, a5, a6, a7] [] q bc bs Q) : Ok 243 232 [.ref (A 22), .long (d), mk0, .int 1, .int 8, a5, a6, a7] [] m (bc + 1) (bs + 9) Q := by
  have R0 := R
  obtain ⟨vk, vcn, v0, v1, v2, vp, vl0, vl1, vlr, vsr, vc, tx⟩ := R0
  have vk0 := vk
  have vcn0 := vcn
  (refine K_el vk0 ?_; intros hA kc0 kc1 kc2 kc3 kc4 kc5 kc6 kc7 kc8 kc9 kc10 kc11 kc12 kc13 kc14 kc15 kc16 kc17 kc18 kc19 kc20 kc21 kc22 kc23 kc24 kc25 kc26 kc27 kc28 kc29 kc30 kc31 kc32 kc33 kc34 kc35 kc36 kc37 kc38 kc39 kz kt kn3 kn4 kn18 kn21 kn23 kn24 kn25 kn26 kn27 kn29 kn30 kr0_0 kr0_1 kr0_2 kr0_3 kr0_4 kr0_5 kr0_7 kr0_8 kr0_9 kr0_10 kr1_0 kr2_0 kr5_0 kr5_1 kr6_0 kr6_1 kr7_0 kr7_1 kr8_0 kr9_0 kr10_0 kr11_0 kr12_0 kr13_0 kr14_0 kr15_0 kr16_0 kr17_0 kr19_0 kr19_1 kr22_0 kr22_1 kr22_2 kr22_3 kr22_4 kr22_5 kr22_7 kr22_8 kr25_0 kr25_1 kr25_2 kr26_0 kr26_1 kr26_2 kr29_0 kr29_1)
  (refine Cn_el vcn0 ?_; intros ki5_2 ki6_2 ki7_2 ki8_1 ki8_2 ki8_3 ki9_1 ki9_2 ki9_3 ki10_1 ki10_2 ki10_3 ki11_1 ki11_2 ki11_3 ki12_1 ki12_2 ki12_3 ki13_1 ki13_2 ki13_3 ki14_1 ki14_2 ki14_3 ki28_0 ki28_1 ki31_0 ki31_1 ki32_0 ki32_1 ki33_0 ki33_1 ki34_0 ki34_1 ki35_0 ki35_1 ki36_0 ki36_1)
  have hAe : ∀ i j, i < 40 → j < 40 → (A i = A j ↔ i = j) := hA
  have b9 : (9 : Int32) = 9 := by decide
  have c1 : (1 ≤ bc + 1) = True := eq_true (by omega)
  have c2 : (9 ≤ bs + 9) = True := eq_true (by omega)
  have c3 : bc + 1 - 1 = bc := by omega
  have c4 : bs + 9 - 9 = bs := by omega
  (refine Sm_el sm ?_; intros i0 l0 i1 l1 i2 l2 i3 l3 i4 l4 i5 l5 i6 l6 i7 l7 i8 l8 i9 l9 i10 l10 i11 l11 i12 l12 i13 l13 i14 l14 i15 l15 i16 l16 i17 l17 i18 l18 i19 l19 i23 l23 i24 l24 i25 l25 i26 l26 i27 l27 i28 l28 i29 l29 i30 l30 i31 l31 i32 l32 i33 l33 i34 l34 i35 l35 i36 l36 i37 l37 i38 l38 i39 l39 i22)
  rw [o243_232]
  simp only [o243_234, o243_236, o243_239, o243_240, o243_243, o243_244, o243_245, o243_246, o243_248, mcs_0, mcs_l, true_and, not_true_eq_false, not_false_eq_true, false_implies, forall_const, Nat.reduceLeDiff, Nat.reduceAdd, lt_le, Int32.reduceLT, kc22, Int32.reduceLT, c1, c2, c3, c4]
  refine m_leX1_8 R (fun q f => ?_)
  simp only [o243_251, o243_252, o243_253, o243_254, o243_257, Kn_v, Int32.reduceAdd, i16]
  exact hQ q f

theorem ms_EE {A : Nat → Nat} {d : Int64} {h0 m : MH} {Q : MR → MH → Prop} {bc bs : Nat} {a4 a5 a6 a7 : Value} (sm : Sm A h0 m) (R : Rl A m) (cs : Cs m) (hQ : ∀ q, Sm A h0 q → Rl A q → Cs q → Ok 243 266 [.ref (A 22), .long (dE A h0 d), mk0, .int 2, .int 9, a5, a6, a7] [] q bc bs Q) : Ok 243 224 [.ref (A 22), .long (d), mk0, .int 0, a4, a5, a6, a7] [] m (bc + 18) (bs + 162) Q := by
  have b9 : (9 : Int32) = 9 := by decide
  rw [o243_224]
  simp only [o243_225, o243_226, o243_229, o243_230, true_and, not_true_eq_false, not_false_eq_true, false_implies, forall_const, lt_le, Int32.reduceLT, Int32.reduceLT]
  refine ms_E0_0 (bc := bc + 17) (bs := bs + 153) sm R (fun q0 f0 => ?_)
  have R0 := Rl_Fr R f0
  have s0 := Sm_tr sm (Sm_Fr R f0)
  have cs0 := Cs_Fx (sb := g_t q0) (dg := g_t q0) cs (Fx_Fr f0) (Nat.le_trans (Rl_z R) f0.2.1) (Nat.le_trans (Rl_z R) f0.2.1)
  refine ms_E0_1 (bc := bc + 16) (bs := bs + 144) s0 R0 (fun q1 f1 => ?_)
  have R1 := Rl_Fr R0 f1
  have s1 := Sm_tr s0 (Sm_Fr R0 f1)
  have cs1 := Cs_Fx (sb := g_t q1) (dg := g_t q1) cs0 (Fx_Fr f1) (Nat.le_trans (Rl_z R0) f1.2.1) (Nat.le_trans (Rl_z R0) f1.2.1)
  refine ms_E0_2 (bc := bc + 15) (bs := bs + 135) s1 R1 (fun q2 f2 => ?_)
  have R2 := Rl_Fr R1 f2
  have s2 := Sm_tr s1 (Sm_Fr R1 f2)
  have cs2 := Cs_Fx (sb := g_t q2) (dg := g_t q2) cs1 (Fx_Fr f2) (Nat.le_trans (Rl_z R1) f2.2.1) (Nat.le_trans (Rl_z R1) f2.2.1)
  refine ms_E0_3 (bc := bc + 14) (bs := bs + 126) s2 R2 (fun q3 f3 => ?_)
  have R3 := Rl_Fr R2 f3
  have s3 := Sm_tr s2 (Sm_Fr R2 f3)
  have cs3 := Cs_Fx (sb := g_t q3) (dg := g_t q3) cs2 (Fx_Fr f3) (Nat.le_trans (Rl_z R2) f3.2.1) (Nat.le_trans (Rl_z R2) f3.2.1)
  refine ms_E0_4 (bc := bc + 13) (bs := bs + 117) s3 R3 (fun q4 f4 => ?_)
  have R4 := Rl_Fr R3 f4
  have s4 := Sm_tr s3 (Sm_Fr R3 f4)
  have cs4 := Cs_Fx (sb := g_t q4) (dg := g_t q4) cs3 (Fx_Fr f4) (Nat.le_trans (Rl_z R3) f4.2.1) (Nat.le_trans (Rl_z R3) f4.2.1)
  refine ms_E0_5 (bc := bc + 12) (bs := bs + 108) s4 R4 (fun q5 f5 => ?_)
  have R5 := Rl_Fr R4 f5
  have s5 := Sm_tr s4 (Sm_Fr R4 f5)
  have cs5 := Cs_Fx (sb := g_t q5) (dg := g_t q5) cs4 (Fx_Fr f5) (Nat.le_trans (Rl_z R4) f5.2.1) (Nat.le_trans (Rl_z R4) f5.2.1)
  refine ms_E0_6 (bc := bc + 11) (bs := bs + 99) s5 R5 (fun q6 f6 => ?_)
  have R6 := Rl_Fr R5 f6
  have s6 := Sm_tr s5 (Sm_Fr R5 f6)
  have cs6 := Cs_Fx (sb := g_t q6) (dg := g_t q6) cs5 (Fx_Fr f6) (Nat.le_trans (Rl_z R5) f6.2.1) (Nat.le_trans (Rl_z R5) f6.2.1)
  refine ms_E0_7 (bc := bc + 10) (bs := bs + 90) s6 R6 (fun q7 f7 => ?_)
  have R7 := Rl_Fr R6 f7
  have s7 := Sm_tr s6 (Sm_Fr R6 f7)
  have cs7 := Cs_Fx (sb := g_t q7) (dg := g_t q7) cs6 (Fx_Fr f7) (Nat.le_trans (Rl_z R6) f7.2.1) (Nat.le_trans (Rl_z R6) f7.2.1)
  refine ms_E0_8 (bc := bc + 9) (bs := bs + 81) s7 R7 (fun q8 f8 => ?_)
  have R8 := Rl_Fr R7 f8
  have s8 := Sm_tr s7 (Sm_Fr R7 f8)
  have cs8 := Cs_Fx (sb := g_t q8) (dg := g_t q8) cs7 (Fx_Fr f8) (Nat.le_trans (Rl_z R7) f8.2.1) (Nat.le_trans (Rl_z R7) f8.2.1)
  rw [o243_232]
  simp only [o243_234, o243_236, o243_260, o243_263, and_true, not_true_eq_false, not_false_eq_true, false_implies, forall_const, lt_le, Int32.reduceLT, Int32.reduceAdd, Int32.reduceLT]
  rw [o243_224]
  simp only [o243_225, o243_226, o243_229, o243_230, true_and, not_true_eq_false, not_false_eq_true, false_implies, forall_const, lt_le, Int32.reduceLT, Int32.reduceLT]
  refine ms_E1_0 (bc := bc + 8) (bs := bs + 72) s8 R8 (fun q9 f9 => ?_)
  have R9 := Rl_Fr R8 f9
  have s9 := Sm_tr s8 (Sm_Fr R8 f9)
  have cs9 := Cs_Fx (sb := g_t q9) (dg := g_t q9) cs8 (Fx_Fr f9) (Nat.le_trans (Rl_z R8) f9.2.1) (Nat.le_trans (Rl_z R8) f9.2.1)
  refine ms_E1_1 (bc := bc + 7) (bs := bs + 63) s9 R9 (fun q10 f10 => ?_)
  have R10 := Rl_Fr R9 f10
  have s10 := Sm_tr s9 (Sm_Fr R9 f10)
  have cs10 := Cs_Fx (sb := g_t q10) (dg := g_t q10) cs9 (Fx_Fr f10) (Nat.le_trans (Rl_z R9) f10.2.1) (Nat.le_trans (Rl_z R9) f10.2.1)
  refine ms_E1_2 (bc := bc + 6) (bs := bs + 54) s10 R10 (fun q11 f11 => ?_)
  have R11 := Rl_Fr R10 f11
  have s11 := Sm_tr s10 (Sm_Fr R10 f11)
  have cs11 := Cs_Fx (sb := g_t q11) (dg := g_t q11) cs10 (Fx_Fr f11) (Nat.le_trans (Rl_z R10) f11.2.1) (Nat.le_trans (Rl_z R10) f11.2.1)
  refine ms_E1_3 (bc := bc + 5) (bs := bs + 45) s11 R11 (fun q12 f12 => ?_)
  have R12 := Rl_Fr R11 f12
  have s12 := Sm_tr s11 (Sm_Fr R11 f12)
  have cs12 := Cs_Fx (sb := g_t q12) (dg := g_t q12) cs11 (Fx_Fr f12) (Nat.le_trans (Rl_z R11) f12.2.1) (Nat.le_trans (Rl_z R11) f12.2.1)
  refine ms_E1_4 (bc := bc + 4) (bs := bs + 36) s12 R12 (fun q13 f13 => ?_)
  have R13 := Rl_Fr R12 f13
  have s13 := Sm_tr s12 (Sm_Fr R12 f13)
  have cs13 := Cs_Fx (sb := g_t q13) (dg := g_t q13) cs12 (Fx_Fr f13) (Nat.le_trans (Rl_z R12) f13.2.1) (Nat.le_trans (Rl_z R12) f13.2.1)
  refine ms_E1_5 (bc := bc + 3) (bs := bs + 27) s13 R13 (fun q14 f14 => ?_)
  have R14 := Rl_Fr R13 f14
  have s14 := Sm_tr s13 (Sm_Fr R13 f14)
  have cs14 := Cs_Fx (sb := g_t q14) (dg := g_t q14) cs13 (Fx_Fr f14) (Nat.le_trans (Rl_z R13) f14.2.1) (Nat.le_trans (Rl_z R13) f14.2.1)
  refine ms_E1_6 (bc := bc + 2) (bs := bs + 18) s14 R14 (fun q15 f15 => ?_)
  have R15 := Rl_Fr R14 f15
  have s15 := Sm_tr s14 (Sm_Fr R14 f15)
  have cs15 := Cs_Fx (sb := g_t q15) (dg := g_t q15) cs14 (Fx_Fr f15) (Nat.le_trans (Rl_z R14) f15.2.1) (Nat.le_trans (Rl_z R14) f15.2.1)
  refine ms_E1_7 (bc := bc + 1) (bs := bs + 9) s15 R15 (fun q16 f16 => ?_)
  have R16 := Rl_Fr R15 f16
  have s16 := Sm_tr s15 (Sm_Fr R15 f16)
  have cs16 := Cs_Fx (sb := g_t q16) (dg := g_t q16) cs15 (Fx_Fr f16) (Nat.le_trans (Rl_z R15) f16.2.1) (Nat.le_trans (Rl_z R15) f16.2.1)
  refine ms_E1_8 (bc := bc + 0) (bs := bs + 0) s16 R16 (fun q17 f17 => ?_)
  have R17 := Rl_Fr R16 f17
  have s17 := Sm_tr s16 (Sm_Fr R16 f17)
  have cs17 := Cs_Fx (sb := g_t q17) (dg := g_t q17) cs16 (Fx_Fr f17) (Nat.le_trans (Rl_z R16) f17.2.1) (Nat.le_trans (Rl_z R16) f17.2.1)
  rw [o243_232]
  simp only [o243_234, o243_236, o243_260, o243_263, and_true, not_true_eq_false, not_false_eq_true, false_implies, forall_const, lt_le, Int32.reduceLT, Int32.reduceAdd, Int32.reduceLT]
  rw [o243_224]
  simp only [o243_225, o243_226, and_true, not_true_eq_false, not_false_eq_true, false_implies, forall_const, lt_le, Int32.reduceLT, Int32.reduceLT]
  exact hQ q17 s17 R17 cs17

theorem ms_H {A : Nat → Nat} {d : Int64} {h0 m : MH} {Q : MR → MH → Prop} {bc bs : Nat} {a4 a5 a6 a7 : Value} (sm : Sm A h0 m) (R : Rl A m) (hQ : Ok 243 294 [.ref (A 22), .long (dH A h0 d 8), mk0, .int (Int32.ofNat 8), a4, a5, a6, a7] [] m bc bs Q) : ∀ (k s : Nat), s + k = 8 → Ok 243 268 [.ref (A 22), .long (dH A h0 d s), mk0, .int (Int32.ofNat s), a4, a5, a6, a7] [] m bc bs Q
  | 0, s, hs => by
    have : s = 8 := by omega
    subst this
    have c1 : (Int32.ofNat 8 < (8 : Int32)) = False := by decide
    rw [o243_268]
    simp only [o243_269, o243_271, and_true, not_true_eq_false, not_false_eq_true, false_implies, forall_const, lt_le, c1]
    exact hQ
  | k + 1, s, hs => by
    have ih := ms_H sm R hQ k (s + 1) (by omega)
    (refine Sm_el sm ?_; intros i0 l0 i1 l1 i2 l2 i3 l3 i4 l4 i5 l5 i6 l6 i7 l7 i8 l8 i9 l9 i10 l10 i11 l11 i12 l12 i13 l13 i14 l14 i15 l15 i16 l16 i17 l17 i18 l18 i19 l19 i23 l23 i24 l24 i25 l25 i26 l26 i27 l27 i28 l28 i29 l29 i30 l30 i31 l31 i32 l32 i33 l33 i34 l34 i35 l35 i36 l36 i37 l37 i38 l38 i39 l39 i22)
    have R0 := R
    obtain ⟨vk, vcn, v0, v1, v2, vp, vl0, vl1, vlr, vsr, vc, tx⟩ := R0
    have vk0 := vk
    have vcn0 := vcn
    (refine K_el vk0 ?_; intros hA kc0 kc1 kc2 kc3 kc4 kc5 kc6 kc7 kc8 kc9 kc10 kc11 kc12 kc13 kc14 kc15 kc16 kc17 kc18 kc19 kc20 kc21 kc22 kc23 kc24 kc25 kc26 kc27 kc28 kc29 kc30 kc31 kc32 kc33 kc34 kc35 kc36 kc37 kc38 kc39 kz kt kn3 kn4 kn18 kn21 kn23 kn24 kn25 kn26 kn27 kn29 kn30 kr0_0 kr0_1 kr0_2 kr0_3 kr0_4 kr0_5 kr0_7 kr0_8 kr0_9 kr0_10 kr1_0 kr2_0 kr5_0 kr5_1 kr6_0 kr6_1 kr7_0 kr7_1 kr8_0 kr9_0 kr10_0 kr11_0 kr12_0 kr13_0 kr14_0 kr15_0 kr16_0 kr17_0 kr19_0 kr19_1 kr22_0 kr22_1 kr22_2 kr22_3 kr22_4 kr22_5 kr22_7 kr22_8 kr25_0 kr25_1 kr25_2 kr26_0 kr26_1 kr26_2 kr29_0 kr29_1)
    (refine Cn_el vcn0 ?_; intros ki5_2 ki6_2 ki7_2 ki8_1 ki8_2 ki8_3 ki9_1 ki9_2 ki9_3 ki10_1 ki10_2 ki10_3 ki11_1 ki11_2 ki11_3 ki12_1 ki12_2 ki12_3 ki13_1 ki13_2 ki13_3 ki14_1 ki14_2 ki14_3 ki28_0 ki28_1 ki31_0 ki31_1 ki32_0 ki32_1 ki33_0 ki33_1 ki34_0 ki34_1 ki35_0 ki35_1 ki36_0 ki36_1)
    have hAe : ∀ i j, i < 40 → j < 40 → (A i = A j ↔ i = j) := hA
    have c1 : (Int32.ofNat s < (8 : Int32)) = True := by
      rw [show (8 : Int32) = Int32.ofNat 8 by decide, n_lt (by omega) (by omega)]
      exact eq_true (by omega)
    have c6 : Int32.ofNat s + 1 = Int32.ofNat (s + 1) := n_add s 1
    have c2 : vp_in (Int32.ofNat s) 8 := vp_of (by omega) (by omega)
    have c3 : (Int32.ofNat s).toNatClampNeg = s := n_cl (by omega)
    have c4 := (vc s (by omega)).symm
    have c5 : g_i h0 (A 30) s = g_i h0 (A 18) s := by rw [← i30 s, ← i18 s]; exact c4
    rw [o243_268]
    simp only [o243_269, o243_271, o243_274, o243_275, o243_278, o243_279, o243_280, o243_283, o243_284, o243_285, o243_286, o243_287, o243_288, o243_291, mrf_some, true_and, not_true_eq_false, not_false_eq_true, false_implies, forall_const, and_self, lt_le, i30, kc22, kc30, kn30, kr22_8, c1, c2, c3, c5, c6]
    exact ih

theorem m_digest {A : Nat → Nat} {h0 m : MH} {v : Int32} {Q : MR → MH → Prop} (sm : Sm A h0 m) (R : Rl A m) (cs : Cs m) (hv : edV A h0 v) (hQ : ∀ q, Rl A q → Q (.inl (some (.long (DG A h0 v)))) q) : Ok 243 0 [.ref (A 22), mk0, mk0, mk0, mk0, mk0, mk0, mk0] [] m 119 9469 Q := by
  simp only [o243_0, o243_3, o243_4, o243_5]
  refine ms_S (d0 := 7701) (h0 := h0) (a4 := mk0) (a5 := mk0) (a6 := mk0) (a7 := mk0) (fun m1 s1 R1 cs1 => ?_) 6 0 m rfl sm R cs
  simp only [o243_42, o243_43]
  refine ms_Q0 (bc := 96) (bs := 7446) s1 R1 cs1 (fun m2 s2 R2 cs2 => ?_)
  refine ms_Q1 (bc := 73) (bs := 5423) s2 R2 cs2 (fun m3 s3 R3 cs3 => ?_)
  refine ms_Q2 (bc := 50) (bs := 3400) s3 R3 cs3 (fun m4 s4 R4 cs4 => ?_)
  have R0 := R4
  obtain ⟨vk, vcn, v0, v1, v2, vp, vl0, vl1, vlr, vsr, vc, tx⟩ := R0
  have vk0 := vk
  have vcn0 := vcn
  (refine K_el vk0 ?_; intros hA kc0 kc1 kc2 kc3 kc4 kc5 kc6 kc7 kc8 kc9 kc10 kc11 kc12 kc13 kc14 kc15 kc16 kc17 kc18 kc19 kc20 kc21 kc22 kc23 kc24 kc25 kc26 kc27 kc28 kc29 kc30 kc31 kc32 kc33 kc34 kc35 kc36 kc37 kc38 kc39 kz kt kn3 kn4 kn18 kn21 kn23 kn24 kn25 kn26 kn27 kn29 kn30 kr0_0 kr0_1 kr0_2 kr0_3 kr0_4 kr0_5 kr0_7 kr0_8 kr0_9 kr0_10 kr1_0 kr2_0 kr5_0 kr5_1 kr6_0 kr6_1 kr7_0 kr7_1 kr8_0 kr9_0 kr10_0 kr11_0 kr12_0 kr13_0 kr14_0 kr15_0 kr16_0 kr17_0 kr19_0 kr19_1 kr22_0 kr22_1 kr22_2 kr22_3 kr22_4 kr22_5 kr22_7 kr22_8 kr25_0 kr25_1 kr25_2 kr26_0 kr26_1 kr26_2 kr29_0 kr29_1)
  (refine Cn_el vcn0 ?_; intros ki5_2 ki6_2 ki7_2 ki8_1 ki8_2 ki8_3 ki9_1 ki9_2 ki9_3 ki10_1 ki10_2 ki10_3 ki11_1 ki11_2 ki11_3 ki12_1 ki12_2 ki12_3 ki13_1 ki13_2 ki13_3 ki14_1 ki14_2 ki14_3 ki28_0 ki28_1 ki31_0 ki31_1 ki32_0 ki32_1 ki33_0 ki33_1 ki34_0 ki34_1 ki35_0 ki35_1 ki36_0 ki36_1)
  have hAe : ∀ i j, i < 40 → j < 40 → (A i = A j ↔ i = j) := hA
  rw [o243_44]
  simp only [o243_45, o243_46, o243_126, o243_127, o243_130, o243_131, o243_132, o243_133, o243_135, o243_136, mrf_some, true_and, and_true, not_true_eq_false, not_false_eq_true, false_implies, forall_const, and_self, Nat.reduceLeDiff, lt_le, Int32.reduceLT, kc22, kc23, kn23, kr22_0, Int32.reduceLT]
  refine ms_L s4 R4 (fun a6 => ?_) 16 0 mk0 rfl
  simp only [o243_180, o243_181]
  refine ms_T (bc := 18) (bs := 162) s4 R4 cs4 (fun m5 s5 R5 cs5 => ?_)
  simp only [o243_222, o243_223]
  refine ms_EE (bc := 0) (bs := 0) s5 R5 cs5 (fun m6 s6 R6 cs6 => ?_)
  simp only [o243_266, o243_267]
  refine ms_H s6 R6 ?_ 8 0 rfl
  have R0 := R6
  obtain ⟨vk, vcn, v0, v1, v2, vp, vl0, vl1, vlr, vsr, vc, tx⟩ := R0
  have vk0 := vk
  have vcn0 := vcn
  (refine K_el vk0 ?_; intros hA kc0 kc1 kc2 kc3 kc4 kc5 kc6 kc7 kc8 kc9 kc10 kc11 kc12 kc13 kc14 kc15 kc16 kc17 kc18 kc19 kc20 kc21 kc22 kc23 kc24 kc25 kc26 kc27 kc28 kc29 kc30 kc31 kc32 kc33 kc34 kc35 kc36 kc37 kc38 kc39 kz kt kn3 kn4 kn18 kn21 kn23 kn24 kn25 kn26 kn27 kn29 kn30 kr0_0 kr0_1 kr0_2 kr0_3 kr0_4 kr0_5 kr0_7 kr0_8 kr0_9 kr0_10 kr1_0 kr2_0 kr5_0 kr5_1 kr6_0 kr6_1 kr7_0 kr7_1 kr8_0 kr9_0 kr10_0 kr11_0 kr12_0 kr13_0 kr14_0 kr15_0 kr16_0 kr17_0 kr19_0 kr19_1 kr22_0 kr22_1 kr22_2 kr22_3 kr22_4 kr22_5 kr22_7 kr22_8 kr25_0 kr25_1 kr25_2 kr26_0 kr26_1 kr26_2 kr29_0 kr29_1)
  (refine Cn_el vcn0 ?_; intros ki5_2 ki6_2 ki7_2 ki8_1 ki8_2 ki8_3 ki9_1 ki9_2 ki9_3 ki10_1 ki10_2 ki10_3 ki11_1 ki11_2 ki11_3 ki12_1 ki12_2 ki12_3 ki13_1 ki13_2 ki13_3 ki14_1 ki14_2 ki14_3 ki28_0 ki28_1 ki31_0 ki31_1 ki32_0 ki32_1 ki33_0 ki33_1 ki34_0 ki34_1 ki35_0 ki35_1 ki36_0 ki36_1)
  have hAe : ∀ i j, i < 40 → j < 40 → (A i = A j ↔ i = j) := hA
  have Rt : Rl A (p_i m6 (A 22) 9 0) := Rl_thr R6
  have et := Sm_ed (Sm_tr s6 (Sm_thr (v := 0) R6)) hv
  rcases et with ⟨z, rfl⟩ | ⟨z, rfl⟩
  · have cs1 := fun {Q : MR → MH → Prop} => m_soundNow (Q := Q) Rt (Or.inl ⟨z, rfl⟩)
    simp only [o243_294, o243_295, o243_296, o243_299, o243_300, o243_303, o243_304, o243_305, o243_308, o243_311, o243_312, o243_315, o243_316, o243_317, o243_318, cs1, mc_pi, mcs_0, mcs_l, Kn_v, kok_0, true_and, not_false_eq_true, false_implies, forall_const, and_self, Nat.reduceLeDiff, Nat.reduceAdd, i10, Nat.reduceLT, kc22, kz]
    exact hQ _ Rt
  · have cs1 := fun {Q : MR → MH → Prop} => m_soundNow (Q := Q) Rt (Or.inr ⟨z, rfl⟩)
    simp only [o243_294, o243_295, o243_296, o243_299, o243_300, o243_303, o243_304, o243_305, o243_308, o243_311, o243_312, o243_315, o243_316, o243_317, o243_318, cs1, mc_pi, mcs_0, mcs_l, Kn_v, kok_0, true_and, and_true, not_true_eq_false, false_implies, forall_const, and_self, Nat.reduceLeDiff, Nat.reduceAdd, Nat.reduceLT, kc22, kz]
    exact hQ _ Rt

theorem op_digest {A : Nat → Nat} {h : MH} (R : Rl A h) (Cc : Cs h) : Ok 107 0 [.ref (A 0), mk0, mk0, mk0] [] h 707 89490 (fun r h1 => ∃ k : Int64, r = .inl (some (.long k)) ∧ g_c h1 (A 22) = 9 ∧ Ok 243 0 [.ref (A 22), mk0, mk0, mk0, mk0, mk0, mk0, mk0] [] h1 119 9469 (fun r2 h2 => ∃ b : Int64, r2 = .inl (some (.long b)) ∧ Rl A h2 ∧ k = b)) := by
  have hv : ∃ v, edV A h v := by
    by_cases z : edg A h
    · exact ⟨1, Or.inl ⟨z, rfl⟩⟩
    · exact ⟨0, Or.inr ⟨z, rfl⟩⟩
  obtain ⟨v, hv⟩ := hv
  have k := Ok_low (c_digest (Q := fun r m => r = .inl (some (.long (DG A h v))) ∧ Sm A h m ∧ Rl A m) R hv (fun m s Rm => ⟨rfl, s, Rm⟩))
  refine Ok_mono _ _ _ _ _ _ _ _ _ (fun r m q => ?_) k
  obtain ⟨⟨rfl, s, Rm⟩, lw⟩ := q
  have Cm := Cs_Lw Cc (lw (Rl_z R))
  obtain ⟨vk, -⟩ := id Rm
  (refine K_el vk ?_; intros hA kc0 kc1 kc2 kc3 kc4 kc5 kc6 kc7 kc8 kc9 kc10 kc11 kc12 kc13 kc14 kc15 kc16 kc17 kc18 kc19 kc20 kc21 kc22 kc23 kc24 kc25 kc26 kc27 kc28 kc29 kc30 kc31 kc32 kc33 kc34 kc35 kc36 kc37 kc38 kc39 kz kt kn3 kn4 kn18 kn21 kn23 kn24 kn25 kn26 kn27 kn29 kn30 kr0_0 kr0_1 kr0_2 kr0_3 kr0_4 kr0_5 kr0_7 kr0_8 kr0_9 kr0_10 kr1_0 kr2_0 kr5_0 kr5_1 kr6_0 kr6_1 kr7_0 kr7_1 kr8_0 kr9_0 kr10_0 kr11_0 kr12_0 kr13_0 kr14_0 kr15_0 kr16_0 kr17_0 kr19_0 kr19_1 kr22_0 kr22_1 kr22_2 kr22_3 kr22_4 kr22_5 kr22_7 kr22_8 kr25_0 kr25_1 kr25_2 kr26_0 kr26_1 kr26_2 kr29_0 kr29_1)
  exact ⟨_, rfl, kc22, m_digest s Rm Cm hv (fun q Rq => ⟨_, rfl, Rq, rfl⟩)⟩
end

section
set_option maxRecDepth 16384
/-! THE LAW: its calls -/
def Scr (scr n : Nat) (h : MH) : Prop := g_c h scr = 107 ∧ g_n h scr = n ∧ scr < g_z h ∧ g_z h ≤ g_t h
theorem Scr_Lw {scr n : Nat} {h m : MH} (s : Scr scr n h) (f : Lw h m) : Scr scr n m ∧ ∀ k, g_i m scr k = g_i h scr k := by
  obtain ⟨s1, s2, s3, s4⟩ := s
  obtain ⟨f1, f2, f3, f4⟩ := f
  obtain ⟨⟨x1, x2⟩, x3, -, -⟩ := f4 _ s3
  exact ⟨⟨x1.trans s1, x2.trans s2, by rw [f1]; exact s3, by omega⟩, x3⟩
theorem Rl_c {A : Nat → Nat} {h : MH} (R : Rl A h) : g_c h (A 0) = 7 ∧ g_c h (A 22) = 9 ∧ g_c h (A 39) = 1 := by
  obtain ⟨⟨-, k, -⟩, -⟩ := R
  unfold Kc1 at k
  exact ⟨by simp only [k], by simp only [k], by simp only [k]⟩
def LQ (A : Nat → Nat) (scr n j bc bs : Nat) (Q : MR → MH → Prop) : Prop := ∀ (B : Nat → Nat) (m : MH) (b5 b6 : Value), B 0 = A 0 → B 22 = A 22 → B 39 = A 39 → Rl B m → Cs m → Scr scr n m → Ok 328 1792 [.ref scr, .ref (A 0), .ref (A 22), .ref (A 39), .int (Int32.ofNat (4 * j)), b5, b6] [] m bc bs Q
theorem n_m4 {n a : Nat} (hn : n ≤ 256) (ha : a ≤ 256) : (Int32.ofNat n - 4 < Int32.ofNat a) = (n < a + 4) := by
  apply propext
  rw [Int32.lt_iff_toInt_lt, Int32.toInt_sub, nat_t (by omega), nat_t (by omega), show (4 : Int32).toInt = 4 from rfl, Int.bmod_eq_of_le (by omega) (by omega)]
  omega
theorem lc_lay {scr n j : Nat} {A : Nat → Nat} {h : MH} {a5 a6 : Value} {bc bs B1 B2 : Nat} {Q : MR → MH → Prop} (R : Rl A h) (C : Cs h) (S : Scr scr n h) (hj : 4 * j + 4 ≤ n) (hn : n ≤ 256) (hb1 : bc + 826 ≤ B1) (hb2 : bs + 98959 ≤ B2) (hQ : LQ A scr n j bc bs Q) : Ok 328 256 [.ref scr, .ref (A 0), .ref (A 22), .ref (A 39), .int (Int32.ofNat (4 * j)), a5, a6] [] h B1 B2 Q := by
  have S0 := S
  obtain ⟨s1, s2, s3, s4⟩ := S
  obtain ⟨k0, k1, k2⟩ := Rl_c R
  have e1 : Int32.ofNat (4 * j) + 1 = Int32.ofNat (4 * j + 1) := n_add (4 * j) 1
  have v1 : vp_in (Int32.ofNat (4 * j + 1)) n := vp_of (by omega) (by omega)
  have e2 : Int32.ofNat (4 * j) + 2 = Int32.ofNat (4 * j + 2) := n_add (4 * j) 2
  have v2 : vp_in (Int32.ofNat (4 * j + 2)) n := vp_of (by omega) (by omega)
  have e3 : Int32.ofNat (4 * j) + 3 = Int32.ofNat (4 * j + 3) := n_add (4 * j) 3
  have v3 : vp_in (Int32.ofNat (4 * j + 3)) n := vp_of (by omega) (by omega)
  have b0 : (1 ≤ B1) = True := eq_true (by omega)
  have b1 : (6 ≤ B2) = True := eq_true (by omega)
  simp only [o328_256, o328_257, o328_258, o328_260, o328_261, o328_262, o328_263, o328_264, o328_266, o328_267, o328_268, o328_269, o328_270, o328_272, o328_273, o328_274, o328_275, o328_276, mcs_0, true_and, and_self, Nat.zero_le, s1, s2, e1, v1, e2, v2, e3, v3, b0, b1]
  refine Ok_mono _ _ _ _ _ _ _ _ _ (fun r h1 q => ?_) (Ok_low (op_lay R))
  obtain ⟨⟨k, rfl, g1, z⟩, lw⟩ := q
  replace lw := lw s4
  obtain ⟨S1, si⟩ := Scr_Lw S0 lw
  have C1 := Cs_Lw C lw
  obtain ⟨t1, t2, t3, t4⟩ := id S1
  have d0 : (0 ≤ (B1 - 1)) = True := eq_true (by omega)
  have d1 : (0 ≤ (B2 - 6)) = True := eq_true (by omega)
  simp only [o328_279, o328_281, o328_282, o328_283, o328_285, o328_286, o328_287, o328_288, o328_289, o328_291, o328_292, o328_293, o328_294, o328_295, o328_297, o328_298, o328_299, o328_300, mcs_0, Kn_v, true_and, and_self, Nat.zero_le, t1, t2, g1, si, e1, v1, e2, v2, e3, v3]
  refine Ok_mono _ _ _ _ _ _ _ _ _ (fun r h2 q => ?_) (Ok_low (z))
  obtain ⟨⟨b, rfl, R2, x1, x2⟩, lw2⟩ := q
  have hB0 : A 0 = A 0 := rfl
  have hB1 : A 22 = A 22 := rfl
  have hB2 : A 39 = A 39 := rfl
  replace lw2 := lw2 t4
  have S2 := (Scr_Lw S1 lw2).1
  have C2 := Cs_Lw C1 lw2
  simp only [o328_303, o328_305, Kn_v]
  exact Ok_le (hQ A h2 _ _ hB0 hB1 hB2 R2 C2 S2) _ _ (by omega) (by omega)
theorem lc_layFourth {scr n j : Nat} {A : Nat → Nat} {h : MH} {a5 a6 : Value} {bc bs B1 B2 : Nat} {Q : MR → MH → Prop} (R : Rl A h) (C : Cs h) (S : Scr scr n h) (hj : 4 * j + 4 ≤ n) (hn : n ≤ 256) (hb1 : bc + 826 ≤ B1) (hb2 : bs + 98959 ≤ B2) (hQ : LQ A scr n j bc bs Q) : Ok 328 308 [.ref scr, .ref (A 0), .ref (A 22), .ref (A 39), .int (Int32.ofNat (4 * j)), a5, a6] [] h B1 B2 Q := by
  have S0 := S
  obtain ⟨s1, s2, s3, s4⟩ := S
  obtain ⟨k0, k1, k2⟩ := Rl_c R
  have e1 : Int32.ofNat (4 * j) + 1 = Int32.ofNat (4 * j + 1) := n_add (4 * j) 1
  have v1 : vp_in (Int32.ofNat (4 * j + 1)) n := vp_of (by omega) (by omega)
  have e2 : Int32.ofNat (4 * j) + 2 = Int32.ofNat (4 * j + 2) := n_add (4 * j) 2
  have v2 : vp_in (Int32.ofNat (4 * j + 2)) n := vp_of (by omega) (by omega)
  have e3 : Int32.ofNat (4 * j) + 3 = Int32.ofNat (4 * j + 3) := n_add (4 * j) 3
  have v3 : vp_in (Int32.ofNat (4 * j + 3)) n := vp_of (by omega) (by omega)
  have b0 : (3 ≤ B1) = True := eq_true (by omega)
  have b1 : (18 ≤ B2) = True := eq_true (by omega)
  simp only [o328_308, o328_309, o328_310, o328_312, o328_313, o328_314, o328_315, o328_316, o328_318, o328_319, o328_320, o328_321, o328_322, o328_324, o328_325, o328_326, o328_327, o328_328, mcs_0, true_and, and_self, Nat.zero_le, s1, s2, e1, v1, e2, v2, e3, v3, b0, b1]
  refine Ok_mono _ _ _ _ _ _ _ _ _ (fun r h1 q => ?_) (Ok_low (op_layFourth R))
  obtain ⟨⟨k, rfl, g1, z⟩, lw⟩ := q
  replace lw := lw s4
  obtain ⟨S1, si⟩ := Scr_Lw S0 lw
  have C1 := Cs_Lw C lw
  obtain ⟨t1, t2, t3, t4⟩ := id S1
  have d0 : (0 ≤ (B1 - 3)) = True := eq_true (by omega)
  have d1 : (0 ≤ (B2 - 18)) = True := eq_true (by omega)
  simp only [o328_331, o328_333, o328_334, o328_335, o328_337, o328_338, o328_339, o328_340, o328_341, o328_343, o328_344, o328_345, o328_346, o328_347, o328_349, o328_350, o328_351, o328_352, mcs_0, Kn_v, true_and, and_self, Nat.zero_le, t1, t2, g1, si, e1, v1, e2, v2, e3, v3]
  refine Ok_mono _ _ _ _ _ _ _ _ _ (fun r h2 q => ?_) (Ok_low (z))
  obtain ⟨⟨b, rfl, R2, x1, x2⟩, lw2⟩ := q
  have hB0 : A 0 = A 0 := rfl
  have hB1 : A 22 = A 22 := rfl
  have hB2 : A 39 = A 39 := rfl
  replace lw2 := lw2 t4
  have S2 := (Scr_Lw S1 lw2).1
  have C2 := Cs_Lw C1 lw2
  simp only [o328_355, o328_357, Kn_v]
  exact Ok_le (hQ A h2 _ _ hB0 hB1 hB2 R2 C2 S2) _ _ (by omega) (by omega)
theorem lc_upper {scr n j : Nat} {A : Nat → Nat} {h : MH} {a5 a6 : Value} {bc bs B1 B2 : Nat} {Q : MR → MH → Prop} (R : Rl A h) (C : Cs h) (S : Scr scr n h) (hj : 4 * j + 4 ≤ n) (hn : n ≤ 256) (hb1 : bc + 826 ≤ B1) (hb2 : bs + 98959 ≤ B2) (hQ : LQ A scr n j bc bs Q) : Ok 328 360 [.ref scr, .ref (A 0), .ref (A 22), .ref (A 39), .int (Int32.ofNat (4 * j)), a5, a6] [] h B1 B2 Q := by
  have S0 := S
  obtain ⟨s1, s2, s3, s4⟩ := S
  obtain ⟨k0, k1, k2⟩ := Rl_c R
  have e1 : Int32.ofNat (4 * j) + 1 = Int32.ofNat (4 * j + 1) := n_add (4 * j) 1
  have v1 : vp_in (Int32.ofNat (4 * j + 1)) n := vp_of (by omega) (by omega)
  have e2 : Int32.ofNat (4 * j) + 2 = Int32.ofNat (4 * j + 2) := n_add (4 * j) 2
  have v2 : vp_in (Int32.ofNat (4 * j + 2)) n := vp_of (by omega) (by omega)
  have e3 : Int32.ofNat (4 * j) + 3 = Int32.ofNat (4 * j + 3) := n_add (4 * j) 3
  have v3 : vp_in (Int32.ofNat (4 * j + 3)) n := vp_of (by omega) (by omega)
  have b0 : (1 ≤ B1) = True := eq_true (by omega)
  have b1 : (6 ≤ B2) = True := eq_true (by omega)
  simp only [o328_360, o328_361, o328_362, o328_364, o328_365, o328_366, o328_367, o328_368, mcs_0, true_and, and_self, Nat.zero_le, s1, s2, e1, v1, b0, b1]
  refine Ok_mono _ _ _ _ _ _ _ _ _ (fun r h1 q => ?_) (Ok_low (op_upper R))
  obtain ⟨⟨k, rfl, g1, z⟩, lw⟩ := q
  replace lw := lw s4
  obtain ⟨S1, si⟩ := Scr_Lw S0 lw
  have C1 := Cs_Lw C lw
  obtain ⟨t1, t2, t3, t4⟩ := id S1
  have d0 : (0 ≤ (B1 - 1)) = True := eq_true (by omega)
  have d1 : (0 ≤ (B2 - 6)) = True := eq_true (by omega)
  simp only [o328_371, o328_373, o328_374, o328_375, o328_377, o328_378, o328_379, o328_380, mcs_0, Kn_v, true_and, and_self, Nat.zero_le, t1, t2, g1, si, e1, v1]
  refine Ok_mono _ _ _ _ _ _ _ _ _ (fun r h2 q => ?_) (Ok_low (z))
  obtain ⟨⟨b, rfl, R2, x1, x2⟩, lw2⟩ := q
  have hB0 : A 0 = A 0 := rfl
  have hB1 : A 22 = A 22 := rfl
  have hB2 : A 39 = A 39 := rfl
  replace lw2 := lw2 t4
  have S2 := (Scr_Lw S1 lw2).1
  have C2 := Cs_Lw C1 lw2
  simp only [o328_383, o328_385, Kn_v]
  exact Ok_le (hQ A h2 _ _ hB0 hB1 hB2 R2 C2 S2) _ _ (by omega) (by omega)
theorem lc_lower {scr n j : Nat} {A : Nat → Nat} {h : MH} {a5 a6 : Value} {bc bs B1 B2 : Nat} {Q : MR → MH → Prop} (R : Rl A h) (C : Cs h) (S : Scr scr n h) (hj : 4 * j + 4 ≤ n) (hn : n ≤ 256) (hb1 : bc + 826 ≤ B1) (hb2 : bs + 98959 ≤ B2) (hQ : LQ A scr n j bc bs Q) : Ok 328 388 [.ref scr, .ref (A 0), .ref (A 22), .ref (A 39), .int (Int32.ofNat (4 * j)), a5, a6] [] h B1 B2 Q := by
  have S0 := S
  obtain ⟨s1, s2, s3, s4⟩ := S
  obtain ⟨k0, k1, k2⟩ := Rl_c R
  have e1 : Int32.ofNat (4 * j) + 1 = Int32.ofNat (4 * j + 1) := n_add (4 * j) 1
  have v1 : vp_in (Int32.ofNat (4 * j + 1)) n := vp_of (by omega) (by omega)
  have e2 : Int32.ofNat (4 * j) + 2 = Int32.ofNat (4 * j + 2) := n_add (4 * j) 2
  have v2 : vp_in (Int32.ofNat (4 * j + 2)) n := vp_of (by omega) (by omega)
  have e3 : Int32.ofNat (4 * j) + 3 = Int32.ofNat (4 * j + 3) := n_add (4 * j) 3
  have v3 : vp_in (Int32.ofNat (4 * j + 3)) n := vp_of (by omega) (by omega)
  have b0 : (1 ≤ B1) = True := eq_true (by omega)
  have b1 : (6 ≤ B2) = True := eq_true (by omega)
  simp only [o328_388, o328_389, o328_390, o328_392, o328_393, o328_394, o328_395, o328_396, mcs_0, true_and, and_self, Nat.zero_le, s1, s2, e1, v1, b0, b1]
  refine Ok_mono _ _ _ _ _ _ _ _ _ (fun r h1 q => ?_) (Ok_low (op_lower R))
  obtain ⟨⟨k, rfl, g1, z⟩, lw⟩ := q
  replace lw := lw s4
  obtain ⟨S1, si⟩ := Scr_Lw S0 lw
  have C1 := Cs_Lw C lw
  obtain ⟨t1, t2, t3, t4⟩ := id S1
  have d0 : (0 ≤ (B1 - 1)) = True := eq_true (by omega)
  have d1 : (0 ≤ (B2 - 6)) = True := eq_true (by omega)
  simp only [o328_399, o328_401, o328_402, o328_403, o328_405, o328_406, o328_407, o328_408, mcs_0, Kn_v, true_and, and_self, Nat.zero_le, t1, t2, g1, si, e1, v1]
  refine Ok_mono _ _ _ _ _ _ _ _ _ (fun r h2 q => ?_) (Ok_low (z))
  obtain ⟨⟨b, rfl, R2, x1, x2⟩, lw2⟩ := q
  have hB0 : A 0 = A 0 := rfl
  have hB1 : A 22 = A 22 := rfl
  have hB2 : A 39 = A 39 := rfl
  replace lw2 := lw2 t4
  have S2 := (Scr_Lw S1 lw2).1
  have C2 := Cs_Lw C1 lw2
  simp only [o328_411, o328_413, Kn_v]
  exact Ok_le (hQ A h2 _ _ hB0 hB1 hB2 R2 C2 S2) _ _ (by omega) (by omega)
theorem lc_fourth {scr n j : Nat} {A : Nat → Nat} {h : MH} {a5 a6 : Value} {bc bs B1 B2 : Nat} {Q : MR → MH → Prop} (R : Rl A h) (C : Cs h) (S : Scr scr n h) (hj : 4 * j + 4 ≤ n) (hn : n ≤ 256) (hb1 : bc + 826 ≤ B1) (hb2 : bs + 98959 ≤ B2) (hQ : LQ A scr n j bc bs Q) : Ok 328 416 [.ref scr, .ref (A 0), .ref (A 22), .ref (A 39), .int (Int32.ofNat (4 * j)), a5, a6] [] h B1 B2 Q := by
  have S0 := S
  obtain ⟨s1, s2, s3, s4⟩ := S
  obtain ⟨k0, k1, k2⟩ := Rl_c R
  have e1 : Int32.ofNat (4 * j) + 1 = Int32.ofNat (4 * j + 1) := n_add (4 * j) 1
  have v1 : vp_in (Int32.ofNat (4 * j + 1)) n := vp_of (by omega) (by omega)
  have e2 : Int32.ofNat (4 * j) + 2 = Int32.ofNat (4 * j + 2) := n_add (4 * j) 2
  have v2 : vp_in (Int32.ofNat (4 * j + 2)) n := vp_of (by omega) (by omega)
  have e3 : Int32.ofNat (4 * j) + 3 = Int32.ofNat (4 * j + 3) := n_add (4 * j) 3
  have v3 : vp_in (Int32.ofNat (4 * j + 3)) n := vp_of (by omega) (by omega)
  have b0 : (2 ≤ B1) = True := eq_true (by omega)
  have b1 : (12 ≤ B2) = True := eq_true (by omega)
  simp only [o328_416, o328_417, o328_418, o328_420, o328_421, o328_422, o328_423, o328_424, o328_426, o328_427, o328_428, o328_429, o328_430, mcs_0, true_and, and_self, Nat.zero_le, s1, s2, e1, v1, e2, v2, b0, b1]
  refine Ok_mono _ _ _ _ _ _ _ _ _ (fun r h1 q => ?_) (Ok_low (op_fourth R))
  obtain ⟨⟨k, rfl, g1, z⟩, lw⟩ := q
  replace lw := lw s4
  obtain ⟨S1, si⟩ := Scr_Lw S0 lw
  have C1 := Cs_Lw C lw
  obtain ⟨t1, t2, t3, t4⟩ := id S1
  have d0 : (0 ≤ (B1 - 2)) = True := eq_true (by omega)
  have d1 : (0 ≤ (B2 - 12)) = True := eq_true (by omega)
  simp only [o328_433, o328_435, o328_436, o328_437, o328_439, o328_440, o328_441, o328_442, o328_443, o328_445, o328_446, o328_447, o328_448, mcs_0, Kn_v, true_and, and_self, Nat.zero_le, t1, t2, g1, si, e1, v1, e2, v2]
  refine Ok_mono _ _ _ _ _ _ _ _ _ (fun r h2 q => ?_) (Ok_low (z))
  obtain ⟨⟨b, rfl, R2, x1, x2⟩, lw2⟩ := q
  have hB0 : A 0 = A 0 := rfl
  have hB1 : A 22 = A 22 := rfl
  have hB2 : A 39 = A 39 := rfl
  replace lw2 := lw2 t4
  have S2 := (Scr_Lw S1 lw2).1
  have C2 := Cs_Lw C1 lw2
  simp only [o328_451, o328_453, Kn_v]
  exact Ok_le (hQ A h2 _ _ hB0 hB1 hB2 R2 C2 S2) _ _ (by omega) (by omega)
theorem lc_slotText {scr n j : Nat} {A : Nat → Nat} {h : MH} {a5 a6 : Value} {bc bs B1 B2 : Nat} {Q : MR → MH → Prop} (R : Rl A h) (C : Cs h) (S : Scr scr n h) (hj : 4 * j + 4 ≤ n) (hn : n ≤ 256) (hb1 : bc + 826 ≤ B1) (hb2 : bs + 98959 ≤ B2) (hQ : LQ A scr n j bc bs Q) : Ok 328 456 [.ref scr, .ref (A 0), .ref (A 22), .ref (A 39), .int (Int32.ofNat (4 * j)), a5, a6] [] h B1 B2 Q := by
  have S0 := S
  obtain ⟨s1, s2, s3, s4⟩ := S
  obtain ⟨k0, k1, k2⟩ := Rl_c R
  have e1 : Int32.ofNat (4 * j) + 1 = Int32.ofNat (4 * j + 1) := n_add (4 * j) 1
  have v1 : vp_in (Int32.ofNat (4 * j + 1)) n := vp_of (by omega) (by omega)
  have e2 : Int32.ofNat (4 * j) + 2 = Int32.ofNat (4 * j + 2) := n_add (4 * j) 2
  have v2 : vp_in (Int32.ofNat (4 * j + 2)) n := vp_of (by omega) (by omega)
  have e3 : Int32.ofNat (4 * j) + 3 = Int32.ofNat (4 * j + 3) := n_add (4 * j) 3
  have v3 : vp_in (Int32.ofNat (4 * j + 3)) n := vp_of (by omega) (by omega)
  have b0 : (25 ≤ B1) = True := eq_true (by omega)
  have b1 : (3460 ≤ B2) = True := eq_true (by omega)
  simp only [o328_456, o328_457, o328_458, o328_460, o328_461, o328_462, o328_463, o328_464, mcs_0, true_and, and_self, Nat.zero_le, s1, s2, e1, v1, b0, b1]
  refine Ok_mono _ _ _ _ _ _ _ _ _ (fun r h1 q => ?_) (Ok_low (x_slotText R))
  obtain ⟨⟨k, rfl, R1⟩, lw⟩ := q
  have g1 := (Rl_c R1).2.1
  replace lw := lw s4
  obtain ⟨S1, si⟩ := Scr_Lw S0 lw
  have C1 := Cs_Lw C lw
  obtain ⟨t1, t2, t3, t4⟩ := id S1
  have d0 : (6 ≤ (B1 - 25)) = True := eq_true (by omega)
  have d1 : (474 ≤ (B2 - 3460)) = True := eq_true (by omega)
  simp only [o328_467, o328_469, o328_470, o328_471, o328_473, o328_474, o328_475, o328_476, mcs_0, Kn_v, true_and, and_self, Nat.zero_le, t1, t2, g1, si, e1, v1, d0, d1]
  refine Ok_mono _ _ _ _ _ _ _ _ _ (fun r h2 q => ?_) (Ok_low (m_slotText R1 C1))
  obtain ⟨⟨b, rfl, R2⟩, lw2⟩ := q
  have hB0 : A 0 = A 0 := rfl
  have hB1 : A 22 = A 22 := rfl
  have hB2 : A 39 = A 39 := rfl
  replace lw2 := lw2 t4
  have S2 := (Scr_Lw S1 lw2).1
  have C2 := Cs_Lw C1 lw2
  simp only [o328_479, o328_481, Kn_v]
  exact Ok_le (hQ A h2 _ _ hB0 hB1 hB2 R2 C2 S2) _ _ (by omega) (by omega)
theorem lc_put {scr n j : Nat} {A : Nat → Nat} {h : MH} {a5 a6 : Value} {bc bs B1 B2 : Nat} {Q : MR → MH → Prop} (R : Rl A h) (C : Cs h) (S : Scr scr n h) (hj : 4 * j + 4 ≤ n) (hn : n ≤ 256) (hb1 : bc + 826 ≤ B1) (hb2 : bs + 98959 ≤ B2) (hQ : LQ A scr n j bc bs Q) : Ok 328 484 [.ref scr, .ref (A 0), .ref (A 22), .ref (A 39), .int (Int32.ofNat (4 * j)), a5, a6] [] h B1 B2 Q := by
  have S0 := S
  obtain ⟨s1, s2, s3, s4⟩ := S
  obtain ⟨k0, k1, k2⟩ := Rl_c R
  have e1 : Int32.ofNat (4 * j) + 1 = Int32.ofNat (4 * j + 1) := n_add (4 * j) 1
  have v1 : vp_in (Int32.ofNat (4 * j + 1)) n := vp_of (by omega) (by omega)
  have e2 : Int32.ofNat (4 * j) + 2 = Int32.ofNat (4 * j + 2) := n_add (4 * j) 2
  have v2 : vp_in (Int32.ofNat (4 * j + 2)) n := vp_of (by omega) (by omega)
  have e3 : Int32.ofNat (4 * j) + 3 = Int32.ofNat (4 * j + 3) := n_add (4 * j) 3
  have v3 : vp_in (Int32.ofNat (4 * j + 3)) n := vp_of (by omega) (by omega)
  have b0 : (2 ≤ B1) = True := eq_true (by omega)
  have b1 : (12 ≤ B2) = True := eq_true (by omega)
  simp only [o328_484, o328_485, o328_486, o328_488, o328_489, o328_490, o328_491, o328_492, o328_494, o328_495, o328_496, o328_497, o328_498, mcs_0, true_and, and_self, Nat.zero_le, s1, s2, e1, v1, e2, v2, b0, b1]
  refine Ok_mono _ _ _ _ _ _ _ _ _ (fun r h1 q => ?_) (Ok_low (op_put R))
  obtain ⟨⟨k, rfl, g1, z⟩, lw⟩ := q
  replace lw := lw s4
  obtain ⟨S1, si⟩ := Scr_Lw S0 lw
  have C1 := Cs_Lw C lw
  obtain ⟨t1, t2, t3, t4⟩ := id S1
  have d0 : (0 ≤ (B1 - 2)) = True := eq_true (by omega)
  have d1 : (0 ≤ (B2 - 12)) = True := eq_true (by omega)
  simp only [o328_501, o328_503, o328_504, o328_505, o328_507, o328_508, o328_509, o328_510, o328_511, o328_513, o328_514, o328_515, o328_516, mcs_0, Kn_v, true_and, and_self, Nat.zero_le, t1, t2, g1, si, e1, v1, e2, v2]
  refine Ok_mono _ _ _ _ _ _ _ _ _ (fun r h2 q => ?_) (Ok_low (z))
  obtain ⟨⟨b, rfl, R2, x1, x2⟩, lw2⟩ := q
  have hB0 : A 0 = A 0 := rfl
  have hB1 : A 22 = A 22 := rfl
  have hB2 : A 39 = A 39 := rfl
  replace lw2 := lw2 t4
  have S2 := (Scr_Lw S1 lw2).1
  have C2 := Cs_Lw C1 lw2
  simp only [o328_519, o328_521, Kn_v]
  exact Ok_le (hQ A h2 _ _ hB0 hB1 hB2 R2 C2 S2) _ _ (by omega) (by omega)
theorem lc_take {scr n j : Nat} {A : Nat → Nat} {h : MH} {a5 a6 : Value} {bc bs B1 B2 : Nat} {Q : MR → MH → Prop} (R : Rl A h) (C : Cs h) (S : Scr scr n h) (hj : 4 * j + 4 ≤ n) (hn : n ≤ 256) (hb1 : bc + 826 ≤ B1) (hb2 : bs + 98959 ≤ B2) (hQ : LQ A scr n j bc bs Q) : Ok 328 524 [.ref scr, .ref (A 0), .ref (A 22), .ref (A 39), .int (Int32.ofNat (4 * j)), a5, a6] [] h B1 B2 Q := by
  have S0 := S
  obtain ⟨s1, s2, s3, s4⟩ := S
  obtain ⟨k0, k1, k2⟩ := Rl_c R
  have e1 : Int32.ofNat (4 * j) + 1 = Int32.ofNat (4 * j + 1) := n_add (4 * j) 1
  have v1 : vp_in (Int32.ofNat (4 * j + 1)) n := vp_of (by omega) (by omega)
  have e2 : Int32.ofNat (4 * j) + 2 = Int32.ofNat (4 * j + 2) := n_add (4 * j) 2
  have v2 : vp_in (Int32.ofNat (4 * j + 2)) n := vp_of (by omega) (by omega)
  have e3 : Int32.ofNat (4 * j) + 3 = Int32.ofNat (4 * j + 3) := n_add (4 * j) 3
  have v3 : vp_in (Int32.ofNat (4 * j + 3)) n := vp_of (by omega) (by omega)
  have b0 : (2 ≤ B1) = True := eq_true (by omega)
  have b1 : (12 ≤ B2) = True := eq_true (by omega)
  simp only [o328_524, o328_525, o328_526, o328_528, o328_529, o328_530, o328_531, o328_532, o328_534, o328_535, o328_536, o328_537, o328_538, mcs_0, true_and, and_self, Nat.zero_le, s1, s2, e1, v1, e2, v2, b0, b1]
  refine Ok_mono _ _ _ _ _ _ _ _ _ (fun r h1 q => ?_) (Ok_low (op_take R))
  obtain ⟨⟨k, rfl, g1, z⟩, lw⟩ := q
  replace lw := lw s4
  obtain ⟨S1, si⟩ := Scr_Lw S0 lw
  have C1 := Cs_Lw C lw
  obtain ⟨t1, t2, t3, t4⟩ := id S1
  have d0 : (0 ≤ (B1 - 2)) = True := eq_true (by omega)
  have d1 : (0 ≤ (B2 - 12)) = True := eq_true (by omega)
  simp only [o328_541, o328_543, o328_544, o328_545, o328_547, o328_548, o328_549, o328_550, o328_551, o328_553, o328_554, o328_555, o328_556, mcs_0, Kn_v, true_and, and_self, Nat.zero_le, t1, t2, g1, si, e1, v1, e2, v2]
  refine Ok_mono _ _ _ _ _ _ _ _ _ (fun r h2 q => ?_) (Ok_low (z))
  obtain ⟨⟨b, rfl, R2, x1, x2⟩, lw2⟩ := q
  have hB0 : A 0 = A 0 := rfl
  have hB1 : A 22 = A 22 := rfl
  have hB2 : A 39 = A 39 := rfl
  replace lw2 := lw2 t4
  have S2 := (Scr_Lw S1 lw2).1
  have C2 := Cs_Lw C1 lw2
  simp only [o328_559, o328_561, Kn_v]
  exact Ok_le (hQ A h2 _ _ hB0 hB1 hB2 R2 C2 S2) _ _ (by omega) (by omega)
theorem lc_look {scr n j : Nat} {A : Nat → Nat} {h : MH} {a5 a6 : Value} {bc bs B1 B2 : Nat} {Q : MR → MH → Prop} (R : Rl A h) (C : Cs h) (S : Scr scr n h) (hj : 4 * j + 4 ≤ n) (hn : n ≤ 256) (hb1 : bc + 826 ≤ B1) (hb2 : bs + 98959 ≤ B2) (hQ : LQ A scr n j bc bs Q) : Ok 328 564 [.ref scr, .ref (A 0), .ref (A 22), .ref (A 39), .int (Int32.ofNat (4 * j)), a5, a6] [] h B1 B2 Q := by
  have S0 := S
  obtain ⟨s1, s2, s3, s4⟩ := S
  obtain ⟨k0, k1, k2⟩ := Rl_c R
  have e1 : Int32.ofNat (4 * j) + 1 = Int32.ofNat (4 * j + 1) := n_add (4 * j) 1
  have v1 : vp_in (Int32.ofNat (4 * j + 1)) n := vp_of (by omega) (by omega)
  have e2 : Int32.ofNat (4 * j) + 2 = Int32.ofNat (4 * j + 2) := n_add (4 * j) 2
  have v2 : vp_in (Int32.ofNat (4 * j + 2)) n := vp_of (by omega) (by omega)
  have e3 : Int32.ofNat (4 * j) + 3 = Int32.ofNat (4 * j + 3) := n_add (4 * j) 3
  have v3 : vp_in (Int32.ofNat (4 * j + 3)) n := vp_of (by omega) (by omega)
  have b0 : (3 ≤ B1) = True := eq_true (by omega)
  have b1 : (18 ≤ B2) = True := eq_true (by omega)
  simp only [o328_564, o328_565, o328_566, o328_568, o328_569, o328_570, o328_571, o328_572, o328_574, o328_575, o328_576, o328_577, o328_578, o328_580, o328_581, o328_582, o328_583, o328_584, mcs_0, true_and, and_self, Nat.zero_le, s1, s2, e1, v1, e2, v2, e3, v3, b0, b1]
  refine Ok_mono _ _ _ _ _ _ _ _ _ (fun r h1 q => ?_) (Ok_low (op_look R))
  obtain ⟨⟨k, rfl, g1, z⟩, lw⟩ := q
  replace lw := lw s4
  obtain ⟨S1, si⟩ := Scr_Lw S0 lw
  have C1 := Cs_Lw C lw
  obtain ⟨t1, t2, t3, t4⟩ := id S1
  have d0 : (0 ≤ (B1 - 3)) = True := eq_true (by omega)
  have d1 : (0 ≤ (B2 - 18)) = True := eq_true (by omega)
  simp only [o328_587, o328_589, o328_590, o328_591, o328_593, o328_594, o328_595, o328_596, o328_597, o328_599, o328_600, o328_601, o328_602, o328_603, o328_605, o328_606, o328_607, o328_608, mcs_0, Kn_v, true_and, and_self, Nat.zero_le, t1, t2, g1, si, e1, v1, e2, v2, e3, v3]
  refine Ok_mono _ _ _ _ _ _ _ _ _ (fun r h2 q => ?_) (Ok_low (z))
  obtain ⟨⟨b, rfl, R2, x1, x2⟩, lw2⟩ := q
  have hB0 : A 0 = A 0 := rfl
  have hB1 : A 22 = A 22 := rfl
  have hB2 : A 39 = A 39 := rfl
  replace lw2 := lw2 t4
  have S2 := (Scr_Lw S1 lw2).1
  have C2 := Cs_Lw C1 lw2
  simp only [o328_611, o328_613, Kn_v]
  exact Ok_le (hQ A h2 _ _ hB0 hB1 hB2 R2 C2 S2) _ _ (by omega) (by omega)
theorem lc_mend {scr n j : Nat} {A : Nat → Nat} {h : MH} {a5 a6 : Value} {bc bs B1 B2 : Nat} {Q : MR → MH → Prop} (R : Rl A h) (C : Cs h) (S : Scr scr n h) (hj : 4 * j + 4 ≤ n) (hn : n ≤ 256) (hb1 : bc + 826 ≤ B1) (hb2 : bs + 98959 ≤ B2) (hQ : LQ A scr n j bc bs Q) : Ok 328 616 [.ref scr, .ref (A 0), .ref (A 22), .ref (A 39), .int (Int32.ofNat (4 * j)), a5, a6] [] h B1 B2 Q := by
  have S0 := S
  obtain ⟨s1, s2, s3, s4⟩ := S
  obtain ⟨k0, k1, k2⟩ := Rl_c R
  have e1 : Int32.ofNat (4 * j) + 1 = Int32.ofNat (4 * j + 1) := n_add (4 * j) 1
  have v1 : vp_in (Int32.ofNat (4 * j + 1)) n := vp_of (by omega) (by omega)
  have e2 : Int32.ofNat (4 * j) + 2 = Int32.ofNat (4 * j + 2) := n_add (4 * j) 2
  have v2 : vp_in (Int32.ofNat (4 * j + 2)) n := vp_of (by omega) (by omega)
  have e3 : Int32.ofNat (4 * j) + 3 = Int32.ofNat (4 * j + 3) := n_add (4 * j) 3
  have v3 : vp_in (Int32.ofNat (4 * j + 3)) n := vp_of (by omega) (by omega)
  have b0 : (3 ≤ B1) = True := eq_true (by omega)
  have b1 : (18 ≤ B2) = True := eq_true (by omega)
  simp only [o328_616, o328_617, o328_618, o328_620, o328_621, o328_622, o328_623, o328_624, o328_626, o328_627, o328_628, o328_629, o328_630, o328_632, o328_633, o328_634, o328_635, o328_636, mcs_0, true_and, and_self, Nat.zero_le, s1, s2, e1, v1, e2, v2, e3, v3, b0, b1]
  refine Ok_mono _ _ _ _ _ _ _ _ _ (fun r h1 q => ?_) (Ok_low (op_mend R))
  obtain ⟨⟨k, rfl, g1, z⟩, lw⟩ := q
  replace lw := lw s4
  obtain ⟨S1, si⟩ := Scr_Lw S0 lw
  have C1 := Cs_Lw C lw
  obtain ⟨t1, t2, t3, t4⟩ := id S1
  have d0 : (0 ≤ (B1 - 3)) = True := eq_true (by omega)
  have d1 : (0 ≤ (B2 - 18)) = True := eq_true (by omega)
  simp only [o328_639, o328_641, o328_642, o328_643, o328_645, o328_646, o328_647, o328_648, o328_649, o328_651, o328_652, o328_653, o328_654, o328_655, o328_657, o328_658, o328_659, o328_660, mcs_0, Kn_v, true_and, and_self, Nat.zero_le, t1, t2, g1, si, e1, v1, e2, v2, e3, v3]
  refine Ok_mono _ _ _ _ _ _ _ _ _ (fun r h2 q => ?_) (Ok_low (z))
  obtain ⟨⟨b, rfl, R2, x1, x2⟩, lw2⟩ := q
  have hB0 : A 0 = A 0 := rfl
  have hB1 : A 22 = A 22 := rfl
  have hB2 : A 39 = A 39 := rfl
  replace lw2 := lw2 t4
  have S2 := (Scr_Lw S1 lw2).1
  have C2 := Cs_Lw C1 lw2
  simp only [o328_663, o328_665, Kn_v]
  exact Ok_le (hQ A h2 _ _ hB0 hB1 hB2 R2 C2 S2) _ _ (by omega) (by omega)
theorem lc_mark {scr n j : Nat} {A : Nat → Nat} {h : MH} {a5 a6 : Value} {bc bs B1 B2 : Nat} {Q : MR → MH → Prop} (R : Rl A h) (C : Cs h) (S : Scr scr n h) (hj : 4 * j + 4 ≤ n) (hn : n ≤ 256) (hb1 : bc + 826 ≤ B1) (hb2 : bs + 98959 ≤ B2) (hQ : LQ A scr n j bc bs Q) : Ok 328 668 [.ref scr, .ref (A 0), .ref (A 22), .ref (A 39), .int (Int32.ofNat (4 * j)), a5, a6] [] h B1 B2 Q := by
  have S0 := S
  obtain ⟨s1, s2, s3, s4⟩ := S
  obtain ⟨k0, k1, k2⟩ := Rl_c R
  have e1 : Int32.ofNat (4 * j) + 1 = Int32.ofNat (4 * j + 1) := n_add (4 * j) 1
  have v1 : vp_in (Int32.ofNat (4 * j + 1)) n := vp_of (by omega) (by omega)
  have e2 : Int32.ofNat (4 * j) + 2 = Int32.ofNat (4 * j + 2) := n_add (4 * j) 2
  have v2 : vp_in (Int32.ofNat (4 * j + 2)) n := vp_of (by omega) (by omega)
  have e3 : Int32.ofNat (4 * j) + 3 = Int32.ofNat (4 * j + 3) := n_add (4 * j) 3
  have v3 : vp_in (Int32.ofNat (4 * j + 3)) n := vp_of (by omega) (by omega)
  have b0 : (1 ≤ B1) = True := eq_true (by omega)
  have b1 : (6 ≤ B2) = True := eq_true (by omega)
  simp only [o328_668, o328_669, o328_670, o328_672, o328_673, o328_674, o328_675, o328_676, mcs_0, true_and, and_self, Nat.zero_le, s1, s2, e1, v1, b0, b1]
  refine Ok_mono _ _ _ _ _ _ _ _ _ (fun r h1 q => ?_) (Ok_low (op_mark R))
  obtain ⟨⟨k, rfl, g1, z⟩, lw⟩ := q
  replace lw := lw s4
  obtain ⟨S1, si⟩ := Scr_Lw S0 lw
  have C1 := Cs_Lw C lw
  obtain ⟨t1, t2, t3, t4⟩ := id S1
  have d0 : (0 ≤ (B1 - 1)) = True := eq_true (by omega)
  have d1 : (0 ≤ (B2 - 6)) = True := eq_true (by omega)
  simp only [o328_679, o328_681, o328_682, o328_683, o328_685, o328_686, o328_687, o328_688, mcs_0, Kn_v, true_and, and_self, Nat.zero_le, t1, t2, g1, si, e1, v1]
  refine Ok_mono _ _ _ _ _ _ _ _ _ (fun r h2 q => ?_) (Ok_low (z))
  obtain ⟨⟨b, rfl, R2, x1, x2⟩, lw2⟩ := q
  have hB0 : A 0 = A 0 := rfl
  have hB1 : A 22 = A 22 := rfl
  have hB2 : A 39 = A 39 := rfl
  replace lw2 := lw2 t4
  have S2 := (Scr_Lw S1 lw2).1
  have C2 := Cs_Lw C1 lw2
  simp only [o328_691, o328_693, Kn_v]
  exact Ok_le (hQ A h2 _ _ hB0 hB1 hB2 R2 C2 S2) _ _ (by omega) (by omega)
theorem lc_back {scr n j : Nat} {A : Nat → Nat} {h : MH} {a5 a6 : Value} {bc bs B1 B2 : Nat} {Q : MR → MH → Prop} (R : Rl A h) (C : Cs h) (S : Scr scr n h) (hj : 4 * j + 4 ≤ n) (hn : n ≤ 256) (hb1 : bc + 826 ≤ B1) (hb2 : bs + 98959 ≤ B2) (hQ : LQ A scr n j bc bs Q) : Ok 328 696 [.ref scr, .ref (A 0), .ref (A 22), .ref (A 39), .int (Int32.ofNat (4 * j)), a5, a6] [] h B1 B2 Q := by
  have S0 := S
  obtain ⟨s1, s2, s3, s4⟩ := S
  obtain ⟨k0, k1, k2⟩ := Rl_c R
  have e1 : Int32.ofNat (4 * j) + 1 = Int32.ofNat (4 * j + 1) := n_add (4 * j) 1
  have v1 : vp_in (Int32.ofNat (4 * j + 1)) n := vp_of (by omega) (by omega)
  have e2 : Int32.ofNat (4 * j) + 2 = Int32.ofNat (4 * j + 2) := n_add (4 * j) 2
  have v2 : vp_in (Int32.ofNat (4 * j + 2)) n := vp_of (by omega) (by omega)
  have e3 : Int32.ofNat (4 * j) + 3 = Int32.ofNat (4 * j + 3) := n_add (4 * j) 3
  have v3 : vp_in (Int32.ofNat (4 * j + 3)) n := vp_of (by omega) (by omega)
  have b0 : (1 ≤ B1) = True := eq_true (by omega)
  have b1 : (6 ≤ B2) = True := eq_true (by omega)
  simp only [o328_696, o328_697, o328_698, o328_700, o328_701, o328_702, o328_703, o328_704, mcs_0, true_and, and_self, Nat.zero_le, s1, s2, e1, v1, b0, b1]
  refine Ok_mono _ _ _ _ _ _ _ _ _ (fun r h1 q => ?_) (Ok_low (op_back R))
  obtain ⟨⟨k, rfl, g1, z⟩, lw⟩ := q
  replace lw := lw s4
  obtain ⟨S1, si⟩ := Scr_Lw S0 lw
  have C1 := Cs_Lw C lw
  obtain ⟨t1, t2, t3, t4⟩ := id S1
  have d0 : (0 ≤ (B1 - 1)) = True := eq_true (by omega)
  have d1 : (0 ≤ (B2 - 6)) = True := eq_true (by omega)
  simp only [o328_707, o328_709, o328_710, o328_711, o328_713, o328_714, o328_715, o328_716, mcs_0, Kn_v, true_and, and_self, Nat.zero_le, t1, t2, g1, si, e1, v1]
  refine Ok_mono _ _ _ _ _ _ _ _ _ (fun r h2 q => ?_) (Ok_low (z))
  obtain ⟨⟨b, rfl, R2, x1, x2⟩, lw2⟩ := q
  have hB0 : A 0 = A 0 := rfl
  have hB1 : A 22 = A 22 := rfl
  have hB2 : A 39 = A 39 := rfl
  replace lw2 := lw2 t4
  have S2 := (Scr_Lw S1 lw2).1
  have C2 := Cs_Lw C1 lw2
  simp only [o328_719, o328_721, mc_pi, mc_pl, mc_pr, mc_pN, mc_pT, mc_pC, mn_pi, mn_pl, mn_pr, mn_pN, mn_pT, mn_pC, mi_pi, mi_pl, mi_pr, mi_pN, mi_pT, mi_pC, ml_pi, ml_pl, ml_pr, ml_pN, ml_pT, ml_pC, mr_pi, mr_pl, mr_pr, mr_pN, mr_pT, mr_pC, mt_pi, mt_pl, mt_pr, mt_pN, mt_pT, mt_pC, mz_pi, mz_pl, mz_pr, mz_pN, mz_pT, mz_pC, ma_pi, ma_pl, ma_pr, ma_pN, ma_pT, ma_pC, mcs_0, mcs_i, mcs_l, mcs_r, mcs_n, csum_rf, Kn_v, Kn_0, Kn_x, mrf_some, kok_0, true_and, and_true, false_and, and_false, true_or, or_true, or_false, false_or, not_true_eq_false, not_false_eq_true, true_implies, false_implies, implies_true, forall_const, if_true, if_false, and_self, Nat.reduceEqDiff, Nat.reduceLeDiff, Nat.reduceSub, Nat.reduceAdd, Nat.zero_le, Nat.le_refl, i10, i01, kz0, kz1, eq_self, lt_le, Classical.not_not, Int32.reduceLT, Int32.reduceAdd, Int32.reduceSub, Int32.reduceMul, cl0, cl1, cl2, cl3, cl4, cl5, cl6, cl7, cl8, cl9, cl10, cl11, cl12, cl13, cl14, cl15, cl16, cl17, cl18, cl19, cl20, cl21, cl22, cl23, cl24, cl25, cl26, cl27, cl28, cl29, cl30, cl31, cl32, cl33, cl34, cl35, cl36, cl37, cl38, cl39, lg_cmp_eq]
  exact Ok_le (hQ A h2 _ _ hB0 hB1 hB2 R2 C2 S2) _ _ (by omega) (by omega)
theorem lc_forget {scr n j : Nat} {A : Nat → Nat} {h : MH} {a5 a6 : Value} {bc bs B1 B2 : Nat} {Q : MR → MH → Prop} (R : Rl A h) (C : Cs h) (S : Scr scr n h) (hj : 4 * j + 4 ≤ n) (hn : n ≤ 256) (hb1 : bc + 826 ≤ B1) (hb2 : bs + 98959 ≤ B2) (hQ : LQ A scr n j bc bs Q) : Ok 328 724 [.ref scr, .ref (A 0), .ref (A 22), .ref (A 39), .int (Int32.ofNat (4 * j)), a5, a6] [] h B1 B2 Q := by
  have S0 := S
  obtain ⟨s1, s2, s3, s4⟩ := S
  obtain ⟨k0, k1, k2⟩ := Rl_c R
  have e1 : Int32.ofNat (4 * j) + 1 = Int32.ofNat (4 * j + 1) := n_add (4 * j) 1
  have v1 : vp_in (Int32.ofNat (4 * j + 1)) n := vp_of (by omega) (by omega)
  have e2 : Int32.ofNat (4 * j) + 2 = Int32.ofNat (4 * j + 2) := n_add (4 * j) 2
  have v2 : vp_in (Int32.ofNat (4 * j + 2)) n := vp_of (by omega) (by omega)
  have e3 : Int32.ofNat (4 * j) + 3 = Int32.ofNat (4 * j + 3) := n_add (4 * j) 3
  have v3 : vp_in (Int32.ofNat (4 * j + 3)) n := vp_of (by omega) (by omega)
  have b0 : (1 ≤ B1) = True := eq_true (by omega)
  have b1 : (6 ≤ B2) = True := eq_true (by omega)
  simp only [o328_724, o328_725, o328_726, o328_728, o328_729, o328_730, o328_731, o328_732, mcs_0, true_and, and_self, Nat.zero_le, s1, s2, e1, v1, b0, b1]
  refine Ok_mono _ _ _ _ _ _ _ _ _ (fun r h1 q => ?_) (Ok_low (op_forget R))
  obtain ⟨⟨k, rfl, g1, z⟩, lw⟩ := q
  replace lw := lw s4
  obtain ⟨S1, si⟩ := Scr_Lw S0 lw
  have C1 := Cs_Lw C lw
  obtain ⟨t1, t2, t3, t4⟩ := id S1
  have d0 : (0 ≤ (B1 - 1)) = True := eq_true (by omega)
  have d1 : (0 ≤ (B2 - 6)) = True := eq_true (by omega)
  simp only [o328_735, o328_737, o328_738, o328_739, o328_741, o328_742, o328_743, o328_744, mcs_0, Kn_v, true_and, and_self, Nat.zero_le, t1, t2, g1, si, e1, v1]
  refine Ok_mono _ _ _ _ _ _ _ _ _ (fun r h2 q => ?_) (Ok_low (z))
  obtain ⟨⟨b, rfl, R2, x1, x2⟩, lw2⟩ := q
  have hB0 : A 0 = A 0 := rfl
  have hB1 : A 22 = A 22 := rfl
  have hB2 : A 39 = A 39 := rfl
  replace lw2 := lw2 t4
  have S2 := (Scr_Lw S1 lw2).1
  have C2 := Cs_Lw C1 lw2
  simp only [o328_747, o328_749, Kn_v]
  exact Ok_le (hQ A h2 _ _ hB0 hB1 hB2 R2 C2 S2) _ _ (by omega) (by omega)
end

section
set_option maxRecDepth 16384
theorem lc_squeeze {scr n j : Nat} {A : Nat → Nat} {h : MH} {a5 a6 : Value} {bc bs B1 B2 : Nat} {Q : MR → MH → Prop} (R : Rl A h) (C : Cs h) (S : Scr scr n h) (hj : 4 * j + 4 ≤ n) (hn : n ≤ 256) (hb1 : bc + 826 ≤ B1) (hb2 : bs + 98959 ≤ B2) (hQ : LQ A scr n j bc bs Q) : Ok 328 752 [.ref scr, .ref (A 0), .ref (A 22), .ref (A 39), .int (Int32.ofNat (4 * j)), a5, a6] [] h B1 B2 Q := by
  have S0 := S
  obtain ⟨s1, s2, s3, s4⟩ := S
  obtain ⟨k0, k1, k2⟩ := Rl_c R
  have e1 : Int32.ofNat (4 * j) + 1 = Int32.ofNat (4 * j + 1) := n_add (4 * j) 1
  have v1 : vp_in (Int32.ofNat (4 * j + 1)) n := vp_of (by omega) (by omega)
  have e2 : Int32.ofNat (4 * j) + 2 = Int32.ofNat (4 * j + 2) := n_add (4 * j) 2
  have v2 : vp_in (Int32.ofNat (4 * j + 2)) n := vp_of (by omega) (by omega)
  have e3 : Int32.ofNat (4 * j) + 3 = Int32.ofNat (4 * j + 3) := n_add (4 * j) 3
  have v3 : vp_in (Int32.ofNat (4 * j + 3)) n := vp_of (by omega) (by omega)
  have b0 : (0 ≤ B1) = True := eq_true (by omega)
  have b1 : (0 ≤ B2) = True := eq_true (by omega)
  simp only [o328_752, o328_753, mcs_0, true_and, Nat.zero_le, k0]
  refine Ok_mono _ _ _ _ _ _ _ _ _ (fun r h1 q => ?_) (Ok_low (op_squeeze R))
  obtain ⟨⟨k, rfl, g1, z⟩, lw⟩ := q
  replace lw := lw s4
  obtain ⟨S1, si⟩ := Scr_Lw S0 lw
  have C1 := Cs_Lw C lw
  obtain ⟨t1, t2, t3, t4⟩ := id S1
  have d0 : (0 ≤ B1) = True := eq_true (by omega)
  have d1 : (0 ≤ B2) = True := eq_true (by omega)
  simp only [o328_756, o328_757, o328_758, mcs_0, Kn_v, true_and, Nat.zero_le, g1]
  refine Ok_mono _ _ _ _ _ _ _ _ _ (fun r h2 q => ?_) (Ok_low (z))
  obtain ⟨⟨b, rfl, R2, x1, x2⟩, lw2⟩ := q
  subst x2
  have hB0 : A 0 = A 0 := rfl
  have hB1 : A 22 = A 22 := rfl
  have hB2 : A 39 = A 39 := rfl
  replace lw2 := lw2 t4
  have S2 := (Scr_Lw S1 lw2).1
  have C2 := Cs_Lw C1 lw2
  simp only [o328_761, o328_762, Kn_v]
  exact Ok_le (hQ A h2 _ _ hB0 hB1 hB2 R2 C2 S2) _ _ (by omega) (by omega)
theorem lc_empty {scr n j : Nat} {A : Nat → Nat} {h : MH} {a5 a6 : Value} {bc bs B1 B2 : Nat} {Q : MR → MH → Prop} (R : Rl A h) (C : Cs h) (S : Scr scr n h) (hj : 4 * j + 4 ≤ n) (hn : n ≤ 256) (hb1 : bc + 826 ≤ B1) (hb2 : bs + 98959 ≤ B2) (hQ : LQ A scr n j bc bs Q) : Ok 328 765 [.ref scr, .ref (A 0), .ref (A 22), .ref (A 39), .int (Int32.ofNat (4 * j)), a5, a6] [] h B1 B2 Q := by
  have S0 := S
  obtain ⟨s1, s2, s3, s4⟩ := S
  obtain ⟨k0, k1, k2⟩ := Rl_c R
  have e1 : Int32.ofNat (4 * j) + 1 = Int32.ofNat (4 * j + 1) := n_add (4 * j) 1
  have v1 : vp_in (Int32.ofNat (4 * j + 1)) n := vp_of (by omega) (by omega)
  have e2 : Int32.ofNat (4 * j) + 2 = Int32.ofNat (4 * j + 2) := n_add (4 * j) 2
  have v2 : vp_in (Int32.ofNat (4 * j + 2)) n := vp_of (by omega) (by omega)
  have e3 : Int32.ofNat (4 * j) + 3 = Int32.ofNat (4 * j + 3) := n_add (4 * j) 3
  have v3 : vp_in (Int32.ofNat (4 * j + 3)) n := vp_of (by omega) (by omega)
  have b0 : (1 ≤ B1) = True := eq_true (by omega)
  have b1 : (6 ≤ B2) = True := eq_true (by omega)
  simp only [o328_765, o328_766, o328_767, o328_769, o328_770, o328_771, o328_772, o328_773, mcs_0, true_and, and_self, Nat.zero_le, s1, s2, e1, v1, b0, b1]
  refine Ok_mono _ _ _ _ _ _ _ _ _ (fun r h1 q => ?_) (Ok_low (op_empty R))
  obtain ⟨⟨k, rfl, g1, z⟩, lw⟩ := q
  replace lw := lw s4
  obtain ⟨S1, si⟩ := Scr_Lw S0 lw
  have C1 := Cs_Lw C lw
  obtain ⟨t1, t2, t3, t4⟩ := id S1
  have d0 : (2 ≤ (B1 - 1)) = True := eq_true (by omega)
  have d1 : (12 ≤ (B2 - 6)) = True := eq_true (by omega)
  simp only [o328_776, o328_778, o328_779, o328_780, o328_782, o328_783, o328_784, o328_785, mcs_0, Kn_v, true_and, and_self, Nat.zero_le, t1, t2, g1, si, e1, v1, d0, d1]
  refine Ok_mono _ _ _ _ _ _ _ _ _ (fun r h2 q => ?_) (Ok_low (z))
  obtain ⟨⟨b, rfl, R2, x1, x2⟩, lw2⟩ := q
  obtain ⟨B, hB0, hB1, hB2, R2⟩ := R2
  replace lw2 := lw2 t4
  have S2 := (Scr_Lw S1 lw2).1
  have C2 := Cs_Lw C1 lw2
  simp only [o328_788, o328_790, Kn_v]
  exact Ok_le (hQ B h2 _ _ hB0 hB1 hB2 R2 C2 S2) _ _ (by omega) (by omega)
theorem lc_pass {scr n j : Nat} {A : Nat → Nat} {h : MH} {a5 a6 : Value} {bc bs B1 B2 : Nat} {Q : MR → MH → Prop} (R : Rl A h) (C : Cs h) (S : Scr scr n h) (hj : 4 * j + 4 ≤ n) (hn : n ≤ 256) (hb1 : bc + 826 ≤ B1) (hb2 : bs + 98959 ≤ B2) (hQ : LQ A scr n j bc bs Q) : Ok 328 793 [.ref scr, .ref (A 0), .ref (A 22), .ref (A 39), .int (Int32.ofNat (4 * j)), a5, a6] [] h B1 B2 Q := by
  have S0 := S
  obtain ⟨s1, s2, s3, s4⟩ := S
  obtain ⟨k0, k1, k2⟩ := Rl_c R
  have e1 : Int32.ofNat (4 * j) + 1 = Int32.ofNat (4 * j + 1) := n_add (4 * j) 1
  have v1 : vp_in (Int32.ofNat (4 * j + 1)) n := vp_of (by omega) (by omega)
  have e2 : Int32.ofNat (4 * j) + 2 = Int32.ofNat (4 * j + 2) := n_add (4 * j) 2
  have v2 : vp_in (Int32.ofNat (4 * j + 2)) n := vp_of (by omega) (by omega)
  have e3 : Int32.ofNat (4 * j) + 3 = Int32.ofNat (4 * j + 3) := n_add (4 * j) 3
  have v3 : vp_in (Int32.ofNat (4 * j + 3)) n := vp_of (by omega) (by omega)
  have b0 : (3 ≤ B1) = True := eq_true (by omega)
  have b1 : (18 ≤ B2) = True := eq_true (by omega)
  simp only [o328_793, o328_794, o328_795, o328_797, o328_798, o328_799, o328_800, o328_801, o328_803, o328_804, o328_805, o328_806, o328_807, mcs_0, true_and, and_self, Nat.zero_le, s1, s2, e1, v1, e2, v2, b0, b1]
  refine Ok_mono _ _ _ _ _ _ _ _ _ (fun r h1 q => ?_) (Ok_low (op_pass R))
  obtain ⟨⟨k, rfl, g1, z⟩, lw⟩ := q
  replace lw := lw s4
  obtain ⟨S1, si⟩ := Scr_Lw S0 lw
  have C1 := Cs_Lw C lw
  obtain ⟨t1, t2, t3, t4⟩ := id S1
  have d0 : (0 ≤ (B1 - 3)) = True := eq_true (by omega)
  have d1 : (0 ≤ (B2 - 18)) = True := eq_true (by omega)
  simp only [o328_810, o328_812, o328_813, o328_814, o328_816, o328_817, o328_818, o328_819, o328_820, o328_822, o328_823, o328_824, o328_825, mcs_0, Kn_v, true_and, and_self, Nat.zero_le, t1, t2, g1, si, e1, v1, e2, v2]
  refine Ok_mono _ _ _ _ _ _ _ _ _ (fun r h2 q => ?_) (Ok_low (z))
  obtain ⟨⟨b, rfl, R2, x1, x2⟩, lw2⟩ := q
  have hB0 : A 0 = A 0 := rfl
  have hB1 : A 22 = A 22 := rfl
  have hB2 : A 39 = A 39 := rfl
  replace lw2 := lw2 t4
  have S2 := (Scr_Lw S1 lw2).1
  have C2 := Cs_Lw C1 lw2
  simp only [o328_828, o328_830, Kn_v]
  exact Ok_le (hQ A h2 _ _ hB0 hB1 hB2 R2 C2 S2) _ _ (by omega) (by omega)
theorem lc_poke {scr n j : Nat} {A : Nat → Nat} {h : MH} {a5 a6 : Value} {bc bs B1 B2 : Nat} {Q : MR → MH → Prop} (R : Rl A h) (C : Cs h) (S : Scr scr n h) (hj : 4 * j + 4 ≤ n) (hn : n ≤ 256) (hb1 : bc + 826 ≤ B1) (hb2 : bs + 98959 ≤ B2) (hQ : LQ A scr n j bc bs Q) : Ok 328 833 [.ref scr, .ref (A 0), .ref (A 22), .ref (A 39), .int (Int32.ofNat (4 * j)), a5, a6] [] h B1 B2 Q := by
  have S0 := S
  obtain ⟨s1, s2, s3, s4⟩ := S
  obtain ⟨k0, k1, k2⟩ := Rl_c R
  have e1 : Int32.ofNat (4 * j) + 1 = Int32.ofNat (4 * j + 1) := n_add (4 * j) 1
  have v1 : vp_in (Int32.ofNat (4 * j + 1)) n := vp_of (by omega) (by omega)
  have e2 : Int32.ofNat (4 * j) + 2 = Int32.ofNat (4 * j + 2) := n_add (4 * j) 2
  have v2 : vp_in (Int32.ofNat (4 * j + 2)) n := vp_of (by omega) (by omega)
  have e3 : Int32.ofNat (4 * j) + 3 = Int32.ofNat (4 * j + 3) := n_add (4 * j) 3
  have v3 : vp_in (Int32.ofNat (4 * j + 3)) n := vp_of (by omega) (by omega)
  have b0 : (2 ≤ B1) = True := eq_true (by omega)
  have b1 : (12 ≤ B2) = True := eq_true (by omega)
  simp only [o328_833, o328_834, o328_835, o328_837, o328_838, o328_839, o328_840, o328_841, o328_843, o328_844, o328_845, o328_846, o328_847, mcs_0, true_and, and_self, Nat.zero_le, s1, s2, e1, v1, e2, v2, b0, b1]
  refine Ok_mono _ _ _ _ _ _ _ _ _ (fun r h1 q => ?_) (Ok_low (op_poke R))
  obtain ⟨⟨k, rfl, g1, z⟩, lw⟩ := q
  replace lw := lw s4
  obtain ⟨S1, si⟩ := Scr_Lw S0 lw
  have C1 := Cs_Lw C lw
  obtain ⟨t1, t2, t3, t4⟩ := id S1
  have d0 : (0 ≤ (B1 - 2)) = True := eq_true (by omega)
  have d1 : (0 ≤ (B2 - 12)) = True := eq_true (by omega)
  simp only [o328_850, o328_852, o328_853, o328_854, o328_856, o328_857, o328_858, o328_859, o328_860, o328_862, o328_863, o328_864, o328_865, mcs_0, Kn_v, true_and, and_self, Nat.zero_le, t1, t2, g1, si, e1, v1, e2, v2]
  refine Ok_mono _ _ _ _ _ _ _ _ _ (fun r h2 q => ?_) (Ok_low (z))
  obtain ⟨⟨b, rfl, R2, x1, x2⟩, lw2⟩ := q
  have hB0 : A 0 = A 0 := rfl
  have hB1 : A 22 = A 22 := rfl
  have hB2 : A 39 = A 39 := rfl
  replace lw2 := lw2 t4
  have S2 := (Scr_Lw S1 lw2).1
  have C2 := Cs_Lw C1 lw2
  simp only [o328_868, o328_870, Kn_v]
  exact Ok_le (hQ A h2 _ _ hB0 hB1 hB2 R2 C2 S2) _ _ (by omega) (by omega)
theorem lc_lies {scr n j : Nat} {A : Nat → Nat} {h : MH} {a5 a6 : Value} {bc bs B1 B2 : Nat} {Q : MR → MH → Prop} (R : Rl A h) (C : Cs h) (S : Scr scr n h) (hj : 4 * j + 4 ≤ n) (hn : n ≤ 256) (hb1 : bc + 826 ≤ B1) (hb2 : bs + 98959 ≤ B2) (hQ : LQ A scr n j bc bs Q) : Ok 328 873 [.ref scr, .ref (A 0), .ref (A 22), .ref (A 39), .int (Int32.ofNat (4 * j)), a5, a6] [] h B1 B2 Q := by
  have S0 := S
  obtain ⟨s1, s2, s3, s4⟩ := S
  obtain ⟨k0, k1, k2⟩ := Rl_c R
  have e1 : Int32.ofNat (4 * j) + 1 = Int32.ofNat (4 * j + 1) := n_add (4 * j) 1
  have v1 : vp_in (Int32.ofNat (4 * j + 1)) n := vp_of (by omega) (by omega)
  have e2 : Int32.ofNat (4 * j) + 2 = Int32.ofNat (4 * j + 2) := n_add (4 * j) 2
  have v2 : vp_in (Int32.ofNat (4 * j + 2)) n := vp_of (by omega) (by omega)
  have e3 : Int32.ofNat (4 * j) + 3 = Int32.ofNat (4 * j + 3) := n_add (4 * j) 3
  have v3 : vp_in (Int32.ofNat (4 * j + 3)) n := vp_of (by omega) (by omega)
  have b0 : (1 ≤ B1) = True := eq_true (by omega)
  have b1 : (6 ≤ B2) = True := eq_true (by omega)
  simp only [o328_873, o328_874, o328_875, o328_877, o328_878, o328_879, o328_880, o328_881, mcs_0, true_and, and_self, Nat.zero_le, s1, s2, e1, v1, b0, b1]
  refine Ok_mono _ _ _ _ _ _ _ _ _ (fun r h1 q => ?_) (Ok_low (op_lies R))
  obtain ⟨⟨k, rfl, g1, z⟩, lw⟩ := q
  replace lw := lw s4
  obtain ⟨S1, si⟩ := Scr_Lw S0 lw
  have C1 := Cs_Lw C lw
  obtain ⟨t1, t2, t3, t4⟩ := id S1
  have d0 : (0 ≤ (B1 - 1)) = True := eq_true (by omega)
  have d1 : (0 ≤ (B2 - 6)) = True := eq_true (by omega)
  simp only [o328_884, o328_886, o328_887, o328_888, o328_890, o328_891, o328_892, o328_893, mcs_0, Kn_v, true_and, and_self, Nat.zero_le, t1, t2, g1, si, e1, v1]
  refine Ok_mono _ _ _ _ _ _ _ _ _ (fun r h2 q => ?_) (Ok_low (z))
  obtain ⟨⟨b, rfl, R2, x1, x2⟩, lw2⟩ := q
  have hB0 : A 0 = A 0 := rfl
  have hB1 : A 22 = A 22 := rfl
  have hB2 : A 39 = A 39 := rfl
  replace lw2 := lw2 t4
  have S2 := (Scr_Lw S1 lw2).1
  have C2 := Cs_Lw C1 lw2
  simp only [o328_896, o328_898, Kn_v]
  exact Ok_le (hQ A h2 _ _ hB0 hB1 hB2 R2 C2 S2) _ _ (by omega) (by omega)
theorem lc_room {scr n j : Nat} {A : Nat → Nat} {h : MH} {a5 a6 : Value} {bc bs B1 B2 : Nat} {Q : MR → MH → Prop} (R : Rl A h) (C : Cs h) (S : Scr scr n h) (hj : 4 * j + 4 ≤ n) (hn : n ≤ 256) (hb1 : bc + 826 ≤ B1) (hb2 : bs + 98959 ≤ B2) (hQ : LQ A scr n j bc bs Q) : Ok 328 901 [.ref scr, .ref (A 0), .ref (A 22), .ref (A 39), .int (Int32.ofNat (4 * j)), a5, a6] [] h B1 B2 Q := by
  have S0 := S
  obtain ⟨s1, s2, s3, s4⟩ := S
  obtain ⟨k0, k1, k2⟩ := Rl_c R
  have e1 : Int32.ofNat (4 * j) + 1 = Int32.ofNat (4 * j + 1) := n_add (4 * j) 1
  have v1 : vp_in (Int32.ofNat (4 * j + 1)) n := vp_of (by omega) (by omega)
  have e2 : Int32.ofNat (4 * j) + 2 = Int32.ofNat (4 * j + 2) := n_add (4 * j) 2
  have v2 : vp_in (Int32.ofNat (4 * j + 2)) n := vp_of (by omega) (by omega)
  have e3 : Int32.ofNat (4 * j) + 3 = Int32.ofNat (4 * j + 3) := n_add (4 * j) 3
  have v3 : vp_in (Int32.ofNat (4 * j + 3)) n := vp_of (by omega) (by omega)
  have b0 : (1 ≤ B1) = True := eq_true (by omega)
  have b1 : (6 ≤ B2) = True := eq_true (by omega)
  simp only [o328_901, o328_902, o328_903, o328_905, o328_906, o328_907, o328_908, o328_909, mcs_0, true_and, and_self, Nat.zero_le, s1, s2, e1, v1, b0, b1]
  refine Ok_mono _ _ _ _ _ _ _ _ _ (fun r h1 q => ?_) (Ok_low (op_room R))
  obtain ⟨⟨k, rfl, g1, z⟩, lw⟩ := q
  replace lw := lw s4
  obtain ⟨S1, si⟩ := Scr_Lw S0 lw
  have C1 := Cs_Lw C lw
  obtain ⟨t1, t2, t3, t4⟩ := id S1
  have d0 : (0 ≤ (B1 - 1)) = True := eq_true (by omega)
  have d1 : (0 ≤ (B2 - 6)) = True := eq_true (by omega)
  simp only [o328_912, o328_914, o328_915, o328_916, o328_918, o328_919, o328_920, o328_921, mcs_0, Kn_v, true_and, and_self, Nat.zero_le, t1, t2, g1, si, e1, v1]
  refine Ok_mono _ _ _ _ _ _ _ _ _ (fun r h2 q => ?_) (Ok_low (z))
  obtain ⟨⟨b, rfl, R2, x1, x2⟩, lw2⟩ := q
  have hB0 : A 0 = A 0 := rfl
  have hB1 : A 22 = A 22 := rfl
  have hB2 : A 39 = A 39 := rfl
  replace lw2 := lw2 t4
  have S2 := (Scr_Lw S1 lw2).1
  have C2 := Cs_Lw C1 lw2
  simp only [o328_924, o328_926, Kn_v]
  exact Ok_le (hQ A h2 _ _ hB0 hB1 hB2 R2 C2 S2) _ _ (by omega) (by omega)
theorem lc_isEmpty {scr n j : Nat} {A : Nat → Nat} {h : MH} {a5 a6 : Value} {bc bs B1 B2 : Nat} {Q : MR → MH → Prop} (R : Rl A h) (C : Cs h) (S : Scr scr n h) (hj : 4 * j + 4 ≤ n) (hn : n ≤ 256) (hb1 : bc + 826 ≤ B1) (hb2 : bs + 98959 ≤ B2) (hQ : LQ A scr n j bc bs Q) : Ok 328 929 [.ref scr, .ref (A 0), .ref (A 22), .ref (A 39), .int (Int32.ofNat (4 * j)), a5, a6] [] h B1 B2 Q := by
  have S0 := S
  obtain ⟨s1, s2, s3, s4⟩ := S
  obtain ⟨k0, k1, k2⟩ := Rl_c R
  have e1 : Int32.ofNat (4 * j) + 1 = Int32.ofNat (4 * j + 1) := n_add (4 * j) 1
  have v1 : vp_in (Int32.ofNat (4 * j + 1)) n := vp_of (by omega) (by omega)
  have e2 : Int32.ofNat (4 * j) + 2 = Int32.ofNat (4 * j + 2) := n_add (4 * j) 2
  have v2 : vp_in (Int32.ofNat (4 * j + 2)) n := vp_of (by omega) (by omega)
  have e3 : Int32.ofNat (4 * j) + 3 = Int32.ofNat (4 * j + 3) := n_add (4 * j) 3
  have v3 : vp_in (Int32.ofNat (4 * j + 3)) n := vp_of (by omega) (by omega)
  have b0 : (1 ≤ B1) = True := eq_true (by omega)
  have b1 : (6 ≤ B2) = True := eq_true (by omega)
  simp only [o328_929, o328_930, o328_931, o328_933, o328_934, o328_935, o328_936, o328_937, mcs_0, true_and, and_self, Nat.zero_le, s1, s2, e1, v1, b0, b1]
  refine Ok_mono _ _ _ _ _ _ _ _ _ (fun r h1 q => ?_) (Ok_low (op_isEmpty R))
  obtain ⟨⟨k, rfl, g1, z⟩, lw⟩ := q
  replace lw := lw s4
  obtain ⟨S1, si⟩ := Scr_Lw S0 lw
  have C1 := Cs_Lw C lw
  obtain ⟨t1, t2, t3, t4⟩ := id S1
  have d0 : (0 ≤ (B1 - 1)) = True := eq_true (by omega)
  have d1 : (0 ≤ (B2 - 6)) = True := eq_true (by omega)
  simp only [o328_940, o328_942, o328_943, o328_944, o328_946, o328_947, o328_948, o328_949, mcs_0, Kn_v, true_and, and_self, Nat.zero_le, t1, t2, g1, si, e1, v1]
  refine Ok_mono _ _ _ _ _ _ _ _ _ (fun r h2 q => ?_) (Ok_low (z))
  obtain ⟨⟨b, rfl, R2, x1, x2⟩, lw2⟩ := q
  have hB0 : A 0 = A 0 := rfl
  have hB1 : A 22 = A 22 := rfl
  have hB2 : A 39 = A 39 := rfl
  replace lw2 := lw2 t4
  have S2 := (Scr_Lw S1 lw2).1
  have C2 := Cs_Lw C1 lw2
  simp only [o328_952, o328_954, Kn_v]
  exact Ok_le (hQ A h2 _ _ hB0 hB1 hB2 R2 C2 S2) _ _ (by omega) (by omega)
theorem lc_isFull {scr n j : Nat} {A : Nat → Nat} {h : MH} {a5 a6 : Value} {bc bs B1 B2 : Nat} {Q : MR → MH → Prop} (R : Rl A h) (C : Cs h) (S : Scr scr n h) (hj : 4 * j + 4 ≤ n) (hn : n ≤ 256) (hb1 : bc + 826 ≤ B1) (hb2 : bs + 98959 ≤ B2) (hQ : LQ A scr n j bc bs Q) : Ok 328 957 [.ref scr, .ref (A 0), .ref (A 22), .ref (A 39), .int (Int32.ofNat (4 * j)), a5, a6] [] h B1 B2 Q := by
  have S0 := S
  obtain ⟨s1, s2, s3, s4⟩ := S
  obtain ⟨k0, k1, k2⟩ := Rl_c R
  have e1 : Int32.ofNat (4 * j) + 1 = Int32.ofNat (4 * j + 1) := n_add (4 * j) 1
  have v1 : vp_in (Int32.ofNat (4 * j + 1)) n := vp_of (by omega) (by omega)
  have e2 : Int32.ofNat (4 * j) + 2 = Int32.ofNat (4 * j + 2) := n_add (4 * j) 2
  have v2 : vp_in (Int32.ofNat (4 * j + 2)) n := vp_of (by omega) (by omega)
  have e3 : Int32.ofNat (4 * j) + 3 = Int32.ofNat (4 * j + 3) := n_add (4 * j) 3
  have v3 : vp_in (Int32.ofNat (4 * j + 3)) n := vp_of (by omega) (by omega)
  have b0 : (1 ≤ B1) = True := eq_true (by omega)
  have b1 : (6 ≤ B2) = True := eq_true (by omega)
  simp only [o328_957, o328_958, o328_959, o328_961, o328_962, o328_963, o328_964, o328_965, mcs_0, true_and, and_self, Nat.zero_le, s1, s2, e1, v1, b0, b1]
  refine Ok_mono _ _ _ _ _ _ _ _ _ (fun r h1 q => ?_) (Ok_low (op_isFull R))
  obtain ⟨⟨k, rfl, g1, z⟩, lw⟩ := q
  replace lw := lw s4
  obtain ⟨S1, si⟩ := Scr_Lw S0 lw
  have C1 := Cs_Lw C lw
  obtain ⟨t1, t2, t3, t4⟩ := id S1
  have d0 : (0 ≤ (B1 - 1)) = True := eq_true (by omega)
  have d1 : (0 ≤ (B2 - 6)) = True := eq_true (by omega)
  simp only [o328_968, o328_970, o328_971, o328_972, o328_974, o328_975, o328_976, o328_977, mcs_0, Kn_v, true_and, and_self, Nat.zero_le, t1, t2, g1, si, e1, v1]
  refine Ok_mono _ _ _ _ _ _ _ _ _ (fun r h2 q => ?_) (Ok_low (z))
  obtain ⟨⟨b, rfl, R2, x1, x2⟩, lw2⟩ := q
  have hB0 : A 0 = A 0 := rfl
  have hB1 : A 22 = A 22 := rfl
  have hB2 : A 39 = A 39 := rfl
  replace lw2 := lw2 t4
  have S2 := (Scr_Lw S1 lw2).1
  have C2 := Cs_Lw C1 lw2
  simp only [o328_980, o328_982, Kn_v]
  exact Ok_le (hQ A h2 _ _ hB0 hB1 hB2 R2 C2 S2) _ _ (by omega) (by omega)
theorem lc_place {scr n j : Nat} {A : Nat → Nat} {h : MH} {a5 a6 : Value} {bc bs B1 B2 : Nat} {Q : MR → MH → Prop} (R : Rl A h) (C : Cs h) (S : Scr scr n h) (hj : 4 * j + 4 ≤ n) (hn : n ≤ 256) (hb1 : bc + 826 ≤ B1) (hb2 : bs + 98959 ≤ B2) (hQ : LQ A scr n j bc bs Q) : Ok 328 985 [.ref scr, .ref (A 0), .ref (A 22), .ref (A 39), .int (Int32.ofNat (4 * j)), a5, a6] [] h B1 B2 Q := by
  have S0 := S
  obtain ⟨s1, s2, s3, s4⟩ := S
  obtain ⟨k0, k1, k2⟩ := Rl_c R
  have e1 : Int32.ofNat (4 * j) + 1 = Int32.ofNat (4 * j + 1) := n_add (4 * j) 1
  have v1 : vp_in (Int32.ofNat (4 * j + 1)) n := vp_of (by omega) (by omega)
  have e2 : Int32.ofNat (4 * j) + 2 = Int32.ofNat (4 * j + 2) := n_add (4 * j) 2
  have v2 : vp_in (Int32.ofNat (4 * j + 2)) n := vp_of (by omega) (by omega)
  have e3 : Int32.ofNat (4 * j) + 3 = Int32.ofNat (4 * j + 3) := n_add (4 * j) 3
  have v3 : vp_in (Int32.ofNat (4 * j + 3)) n := vp_of (by omega) (by omega)
  have b0 : (2 ≤ B1) = True := eq_true (by omega)
  have b1 : (12 ≤ B2) = True := eq_true (by omega)
  simp only [o328_985, o328_986, o328_987, o328_989, o328_990, o328_991, o328_992, o328_993, o328_995, o328_996, o328_997, o328_998, o328_999, mcs_0, true_and, and_self, Nat.zero_le, s1, s2, e1, v1, e2, v2, b0, b1]
  refine Ok_mono _ _ _ _ _ _ _ _ _ (fun r h1 q => ?_) (Ok_low (op_place R))
  obtain ⟨⟨k, rfl, g1, z⟩, lw⟩ := q
  replace lw := lw s4
  obtain ⟨S1, si⟩ := Scr_Lw S0 lw
  have C1 := Cs_Lw C lw
  obtain ⟨t1, t2, t3, t4⟩ := id S1
  have d0 : (1 ≤ (B1 - 2)) = True := eq_true (by omega)
  have d1 : (7 ≤ (B2 - 12)) = True := eq_true (by omega)
  simp only [o328_1002, o328_1004, o328_1005, o328_1006, o328_1008, o328_1009, o328_1010, o328_1011, o328_1012, o328_1014, o328_1015, o328_1016, o328_1017, mcs_0, Kn_v, true_and, and_self, Nat.zero_le, t1, t2, g1, si, e1, v1, e2, v2, d0, d1]
  refine Ok_mono _ _ _ _ _ _ _ _ _ (fun r h2 q => ?_) (Ok_low (z))
  obtain ⟨⟨b, rfl, R2, x1, x2⟩, lw2⟩ := q
  have hB0 : A 0 = A 0 := rfl
  have hB1 : A 22 = A 22 := rfl
  have hB2 : A 39 = A 39 := rfl
  replace lw2 := lw2 t4
  have S2 := (Scr_Lw S1 lw2).1
  have C2 := Cs_Lw C1 lw2
  simp only [o328_1020, o328_1022, Kn_v]
  exact Ok_le (hQ A h2 _ _ hB0 hB1 hB2 R2 C2 S2) _ _ (by omega) (by omega)
theorem lc_queueText {scr n j : Nat} {A : Nat → Nat} {h : MH} {a5 a6 : Value} {bc bs B1 B2 : Nat} {Q : MR → MH → Prop} (R : Rl A h) (C : Cs h) (S : Scr scr n h) (hj : 4 * j + 4 ≤ n) (hn : n ≤ 256) (hb1 : bc + 826 ≤ B1) (hb2 : bs + 98959 ≤ B2) (hQ : LQ A scr n j bc bs Q) : Ok 328 1025 [.ref scr, .ref (A 0), .ref (A 22), .ref (A 39), .int (Int32.ofNat (4 * j)), a5, a6] [] h B1 B2 Q := by
  have S0 := S
  obtain ⟨s1, s2, s3, s4⟩ := S
  obtain ⟨k0, k1, k2⟩ := Rl_c R
  have e1 : Int32.ofNat (4 * j) + 1 = Int32.ofNat (4 * j + 1) := n_add (4 * j) 1
  have v1 : vp_in (Int32.ofNat (4 * j + 1)) n := vp_of (by omega) (by omega)
  have e2 : Int32.ofNat (4 * j) + 2 = Int32.ofNat (4 * j + 2) := n_add (4 * j) 2
  have v2 : vp_in (Int32.ofNat (4 * j + 2)) n := vp_of (by omega) (by omega)
  have e3 : Int32.ofNat (4 * j) + 3 = Int32.ofNat (4 * j + 3) := n_add (4 * j) 3
  have v3 : vp_in (Int32.ofNat (4 * j + 3)) n := vp_of (by omega) (by omega)
  have b0 : (130 ≤ B1) = True := eq_true (by omega)
  have b1 : (19210 ≤ B2) = True := eq_true (by omega)
  simp only [o328_1025, o328_1026, o328_1027, o328_1029, o328_1030, o328_1031, o328_1032, o328_1033, mcs_0, true_and, and_self, Nat.zero_le, s1, s2, e1, v1, b0, b1]
  refine Ok_mono _ _ _ _ _ _ _ _ _ (fun r h1 q => ?_) (Ok_low (x_queueText R))
  obtain ⟨⟨k, rfl, R1⟩, lw⟩ := q
  have g1 := (Rl_c R1).2.1
  replace lw := lw s4
  obtain ⟨S1, si⟩ := Scr_Lw S0 lw
  have C1 := Cs_Lw C lw
  obtain ⟨t1, t2, t3, t4⟩ := id S1
  have d0 : (16 ≤ (B1 - 130)) = True := eq_true (by omega)
  have d1 : (1974 ≤ (B2 - 19210)) = True := eq_true (by omega)
  simp only [o328_1036, o328_1038, o328_1039, o328_1040, o328_1042, o328_1043, o328_1044, o328_1045, mcs_0, Kn_v, true_and, and_self, Nat.zero_le, t1, t2, g1, si, e1, v1, d0, d1]
  refine Ok_mono _ _ _ _ _ _ _ _ _ (fun r h2 q => ?_) (Ok_low (m_queueText R1 C1))
  obtain ⟨⟨b, rfl, R2⟩, lw2⟩ := q
  have hB0 : A 0 = A 0 := rfl
  have hB1 : A 22 = A 22 := rfl
  have hB2 : A 39 = A 39 := rfl
  replace lw2 := lw2 t4
  have S2 := (Scr_Lw S1 lw2).1
  have C2 := Cs_Lw C1 lw2
  simp only [o328_1048, o328_1050, Kn_v]
  exact Ok_le (hQ A h2 _ _ hB0 hB1 hB2 R2 C2 S2) _ _ (by omega) (by omega)
theorem lc_pour {scr n j : Nat} {A : Nat → Nat} {h : MH} {a5 a6 : Value} {bc bs B1 B2 : Nat} {Q : MR → MH → Prop} (R : Rl A h) (C : Cs h) (S : Scr scr n h) (hj : 4 * j + 4 ≤ n) (hn : n ≤ 256) (hb1 : bc + 826 ≤ B1) (hb2 : bs + 98959 ≤ B2) (hQ : LQ A scr n j bc bs Q) : Ok 328 1053 [.ref scr, .ref (A 0), .ref (A 22), .ref (A 39), .int (Int32.ofNat (4 * j)), a5, a6] [] h B1 B2 Q := by
  have S0 := S
  obtain ⟨s1, s2, s3, s4⟩ := S
  obtain ⟨k0, k1, k2⟩ := Rl_c R
  have e1 : Int32.ofNat (4 * j) + 1 = Int32.ofNat (4 * j + 1) := n_add (4 * j) 1
  have v1 : vp_in (Int32.ofNat (4 * j + 1)) n := vp_of (by omega) (by omega)
  have e2 : Int32.ofNat (4 * j) + 2 = Int32.ofNat (4 * j + 2) := n_add (4 * j) 2
  have v2 : vp_in (Int32.ofNat (4 * j + 2)) n := vp_of (by omega) (by omega)
  have e3 : Int32.ofNat (4 * j) + 3 = Int32.ofNat (4 * j + 3) := n_add (4 * j) 3
  have v3 : vp_in (Int32.ofNat (4 * j + 3)) n := vp_of (by omega) (by omega)
  have b0 : (3 ≤ B1) = True := eq_true (by omega)
  have b1 : (18 ≤ B2) = True := eq_true (by omega)
  simp only [o328_1053, o328_1054, o328_1055, o328_1057, o328_1058, o328_1059, o328_1060, o328_1061, o328_1063, o328_1064, o328_1065, o328_1066, o328_1067, mcs_0, true_and, and_self, Nat.zero_le, s1, s2, e1, v1, e2, v2, b0, b1]
  refine Ok_mono _ _ _ _ _ _ _ _ _ (fun r h1 q => ?_) (Ok_low (op_pour R))
  obtain ⟨⟨k, rfl, g1, z⟩, lw⟩ := q
  replace lw := lw s4
  obtain ⟨S1, si⟩ := Scr_Lw S0 lw
  have C1 := Cs_Lw C lw
  obtain ⟨t1, t2, t3, t4⟩ := id S1
  have d0 : (0 ≤ (B1 - 3)) = True := eq_true (by omega)
  have d1 : (0 ≤ (B2 - 18)) = True := eq_true (by omega)
  simp only [o328_1070, o328_1072, o328_1073, o328_1074, o328_1076, o328_1077, o328_1078, o328_1079, o328_1080, o328_1082, o328_1083, o328_1084, o328_1085, mcs_0, Kn_v, true_and, and_self, Nat.zero_le, t1, t2, g1, si, e1, v1, e2, v2]
  refine Ok_mono _ _ _ _ _ _ _ _ _ (fun r h2 q => ?_) (Ok_low (z))
  obtain ⟨⟨b, rfl, R2, x1, x2⟩, lw2⟩ := q
  have hB0 : A 0 = A 0 := rfl
  have hB1 : A 22 = A 22 := rfl
  have hB2 : A 39 = A 39 := rfl
  replace lw2 := lw2 t4
  have S2 := (Scr_Lw S1 lw2).1
  have C2 := Cs_Lw C1 lw2
  simp only [o328_1088, o328_1090, Kn_v]
  exact Ok_le (hQ A h2 _ _ hB0 hB1 hB2 R2 C2 S2) _ _ (by omega) (by omega)
theorem lc_pourAll {scr n j : Nat} {A : Nat → Nat} {h : MH} {a5 a6 : Value} {bc bs B1 B2 : Nat} {Q : MR → MH → Prop} (R : Rl A h) (C : Cs h) (S : Scr scr n h) (hj : 4 * j + 4 ≤ n) (hn : n ≤ 256) (hb1 : bc + 826 ≤ B1) (hb2 : bs + 98959 ≤ B2) (hQ : LQ A scr n j bc bs Q) : Ok 328 1093 [.ref scr, .ref (A 0), .ref (A 22), .ref (A 39), .int (Int32.ofNat (4 * j)), a5, a6] [] h B1 B2 Q := by
  have S0 := S
  obtain ⟨s1, s2, s3, s4⟩ := S
  obtain ⟨k0, k1, k2⟩ := Rl_c R
  have e1 : Int32.ofNat (4 * j) + 1 = Int32.ofNat (4 * j + 1) := n_add (4 * j) 1
  have v1 : vp_in (Int32.ofNat (4 * j + 1)) n := vp_of (by omega) (by omega)
  have e2 : Int32.ofNat (4 * j) + 2 = Int32.ofNat (4 * j + 2) := n_add (4 * j) 2
  have v2 : vp_in (Int32.ofNat (4 * j + 2)) n := vp_of (by omega) (by omega)
  have e3 : Int32.ofNat (4 * j) + 3 = Int32.ofNat (4 * j + 3) := n_add (4 * j) 3
  have v3 : vp_in (Int32.ofNat (4 * j + 3)) n := vp_of (by omega) (by omega)
  have b0 : (3 ≤ B1) = True := eq_true (by omega)
  have b1 : (18 ≤ B2) = True := eq_true (by omega)
  simp only [o328_1093, o328_1094, o328_1095, o328_1097, o328_1098, o328_1099, o328_1100, o328_1101, o328_1103, o328_1104, o328_1105, o328_1106, o328_1107, mcs_0, true_and, and_self, Nat.zero_le, s1, s2, e1, v1, e2, v2, b0, b1]
  refine Ok_mono _ _ _ _ _ _ _ _ _ (fun r h1 q => ?_) (Ok_low (op_pourAll R))
  obtain ⟨⟨k, rfl, g1, z⟩, lw⟩ := q
  replace lw := lw s4
  obtain ⟨S1, si⟩ := Scr_Lw S0 lw
  have C1 := Cs_Lw C lw
  obtain ⟨t1, t2, t3, t4⟩ := id S1
  have d0 : (0 ≤ (B1 - 3)) = True := eq_true (by omega)
  have d1 : (0 ≤ (B2 - 18)) = True := eq_true (by omega)
  simp only [o328_1110, o328_1112, o328_1113, o328_1114, o328_1116, o328_1117, o328_1118, o328_1119, o328_1120, o328_1122, o328_1123, o328_1124, o328_1125, mcs_0, Kn_v, true_and, and_self, Nat.zero_le, t1, t2, g1, si, e1, v1, e2, v2]
  refine Ok_mono _ _ _ _ _ _ _ _ _ (fun r h2 q => ?_) (Ok_low (z))
  obtain ⟨⟨b, rfl, R2, x1, x2⟩, lw2⟩ := q
  have hB0 : A 0 = A 0 := rfl
  have hB1 : A 22 = A 22 := rfl
  have hB2 : A 39 = A 39 := rfl
  replace lw2 := lw2 t4
  have S2 := (Scr_Lw S1 lw2).1
  have C2 := Cs_Lw C1 lw2
  simp only [o328_1128, o328_1130, Kn_v]
  exact Ok_le (hQ A h2 _ _ hB0 hB1 hB2 R2 C2 S2) _ _ (by omega) (by omega)
theorem lc_draw {scr n j : Nat} {A : Nat → Nat} {h : MH} {a5 a6 : Value} {bc bs B1 B2 : Nat} {Q : MR → MH → Prop} (R : Rl A h) (C : Cs h) (S : Scr scr n h) (hj : 4 * j + 4 ≤ n) (hn : n ≤ 256) (hb1 : bc + 826 ≤ B1) (hb2 : bs + 98959 ≤ B2) (hQ : LQ A scr n j bc bs Q) : Ok 328 1133 [.ref scr, .ref (A 0), .ref (A 22), .ref (A 39), .int (Int32.ofNat (4 * j)), a5, a6] [] h B1 B2 Q := by
  have S0 := S
  obtain ⟨s1, s2, s3, s4⟩ := S
  obtain ⟨k0, k1, k2⟩ := Rl_c R
  have e1 : Int32.ofNat (4 * j) + 1 = Int32.ofNat (4 * j + 1) := n_add (4 * j) 1
  have v1 : vp_in (Int32.ofNat (4 * j + 1)) n := vp_of (by omega) (by omega)
  have e2 : Int32.ofNat (4 * j) + 2 = Int32.ofNat (4 * j + 2) := n_add (4 * j) 2
  have v2 : vp_in (Int32.ofNat (4 * j + 2)) n := vp_of (by omega) (by omega)
  have e3 : Int32.ofNat (4 * j) + 3 = Int32.ofNat (4 * j + 3) := n_add (4 * j) 3
  have v3 : vp_in (Int32.ofNat (4 * j + 3)) n := vp_of (by omega) (by omega)
  have b0 : (1 ≤ B1) = True := eq_true (by omega)
  have b1 : (6 ≤ B2) = True := eq_true (by omega)
  simp only [o328_1133, o328_1134, o328_1135, mcs_0, true_and, Nat.zero_le, b0, b1]
  refine Ok_mono _ _ _ _ _ _ _ _ _ (fun r h1 q => ?_) (Ok_low (op_draw R))
  obtain ⟨⟨k, rfl, g1, z⟩, lw⟩ := q
  replace lw := lw s4
  obtain ⟨S1, si⟩ := Scr_Lw S0 lw
  have C1 := Cs_Lw C lw
  obtain ⟨t1, t2, t3, t4⟩ := id S1
  have d0 : (0 ≤ (B1 - 1)) = True := eq_true (by omega)
  have d1 : (0 ≤ (B2 - 6)) = True := eq_true (by omega)
  simp only [o328_1138, o328_1140, o328_1141, mcs_0, Kn_v, true_and, Nat.zero_le, g1]
  refine Ok_mono _ _ _ _ _ _ _ _ _ (fun r h2 q => ?_) (Ok_low (z))
  obtain ⟨⟨b, rfl, R2, x1, x2⟩, lw2⟩ := q
  have hB0 : A 0 = A 0 := rfl
  have hB1 : A 22 = A 22 := rfl
  have hB2 : A 39 = A 39 := rfl
  replace lw2 := lw2 t4
  have S2 := (Scr_Lw S1 lw2).1
  have C2 := Cs_Lw C1 lw2
  simp only [o328_1144, o328_1146, Kn_v]
  exact Ok_le (hQ A h2 _ _ hB0 hB1 hB2 R2 C2 S2) _ _ (by omega) (by omega)
end

set_option maxRecDepth 16384
theorem ms_L {A : Nat → Nat} {d : Int64} {h0 m : MH} {Q : MR → MH → Prop} {bc bs : Nat} (sm : Sm A h0 m) (R : Rl A m) (hQ : ∀ a6, Ok 244 180 [.ref (A 22), .long (dL A h0 d 16), mk0, .ref (A 23), .int (Int32.ofNat 16), .int (Int32.ofNat 16), a6, mk0] [] m bc bs Q) : ∀ (k s : Nat) (a6 : Value), s + k = 16 → Ok 244 138 [.ref (A 22), .long (dL A h0 d s), mk0, .ref (A 23), .int (Int32.ofNat 16), .int (Int32.ofNat s), a6, mk0] [] m bc bs Q
  | 0, s, a6, hs => by
    have : s = 16 := by omega
    subst this
    rw [o244_138]
    simp only [o244_140, o244_142, and_true, not_true_eq_false, not_false_eq_true, false_implies, forall_const, lt_le, n_irr]
    exact hQ a6
  | k + 1, s, a6, hs => by
    have ih := ms_L sm R hQ k (s + 1)
    (refine Sm_el sm ?_; intros i0 l0 i1 l1 i2 l2 i3 l3 i4 l4 i5 l5 i6 l6 i7 l7 i8 l8 i9 l9 i10 l10 i11 l11 i12 l12 i13 l13 i14 l14 i15 l15 i16 l16 i17 l17 i18 l18 i19 l19 i23 l23 i24 l24 i25 l25 i26 l26 i27 l27 i28 l28 i29 l29 i30 l30 i31 l31 i32 l32 i33 l33 i34 l34 i35 l35 i36 l36 i37 l37 i38 l38 i39 l39 i22)
    have R0 := R
    obtain ⟨vk, vcn, v0, v1, v2, vp, vl0, vl1, vlr, vsr, vc, tx⟩ := R0
    have vk0 := vk
    have vcn0 := vcn
    (refine K_el vk0 ?_; intros hA kc0 kc1 kc2 kc3 kc4 kc5 kc6 kc7 kc8 kc9 kc10 kc11 kc12 kc13 kc14 kc15 kc16 kc17 kc18 kc19 kc20 kc21 kc22 kc23 kc24 kc25 kc26 kc27 kc28 kc29 kc30 kc31 kc32 kc33 kc34 kc35 kc36 kc37 kc38 kc39 kz kt kn3 kn4 kn18 kn21 kn23 kn24 kn25 kn26 kn27 kn29 kn30 kr0_0 kr0_1 kr0_2 kr0_3 kr0_4 kr0_5 kr0_7 kr0_8 kr0_9 kr0_10 kr1_0 kr2_0 kr5_0 kr5_1 kr6_0 kr6_1 kr7_0 kr7_1 kr8_0 kr9_0 kr10_0 kr11_0 kr12_0 kr13_0 kr14_0 kr15_0 kr16_0 kr17_0 kr19_0 kr19_1 kr22_0 kr22_1 kr22_2 kr22_3 kr22_4 kr22_5 kr22_7 kr22_8 kr25_0 kr25_1 kr25_2 kr26_0 kr26_1 kr26_2 kr29_0 kr29_1)
    (refine Cn_el vcn0 ?_; intros ki5_2 ki6_2 ki7_2 ki8_1 ki8_2 ki8_3 ki9_1 ki9_2 ki9_3 ki10_1 ki10_2 ki10_3 ki11_1 ki11_2 ki11_3 ki12_1 ki12_2 ki12_3 ki13_1 ki13_2 ki13_3 ki14_1 ki14_2 ki14_3 ki28_0 ki28_1 ki31_0 ki31_1 ki32_0 ki32_1 ki33_0 ki33_1 ki34_0 ki34_1 ki35_0 ki35_1 ki36_0 ki36_1)
    have hAe : ∀ i j, i < 40 → j < 40 → (A i = A j ↔ i = j) := hA
    have c1 : (Int32.ofNat s < Int32.ofNat 16) = True := by rw [n_lt (by omega) (by omega)]; exact eq_true (by omega)
    have c6 : Int32.ofNat s + 1 = Int32.ofNat (s + 1) := n_add s 1
    have c2 : vp_in (Int32.ofNat s) 16 := vp_of (by omega) (by omega)
    have c3 : (Int32.ofNat s).toNatClampNeg = s := n_cl (by omega)
    have c4 := (vlr s (by omega)).symm
    have c5 : (32 : Int32) = 32 := by decide
    have z := ih (.long (g_l h0 (A 3) s)) (by omega)
    rw [o244_138]
    simp only [o244_140, o244_142, o244_145, o244_146, o244_148, o244_149, o244_151, o244_152, o244_155, o244_156, o244_158, o244_160, o244_161, o244_162, o244_163, o244_164, o244_167, o244_168, o244_170, o244_171, o244_172, o244_173, o244_174, o244_177, true_and, not_true_eq_false, not_false_eq_true, false_implies, forall_const, and_self, lt_le, kc23, kn23, c1, c2, c3, c4, c6, l3]
    exact z

theorem ms_I0 {A : Nat → Nat} {d : Int64} {h0 m : MH} {Q : MR → MH → Prop} {bc bs : Nat} {a4 a5 a6 a7 : Value} (sm : Sm A h0 m) (R : Rl A m) (hQ : ∀ q, Fr (p_i m (A 22) 9 0) q → Ok 244 182 [.ref (A 22), .long (dg1 d (g_i h0 (A 14) 4)), mk0, .int 1, a4, a5, a6, a7] [] q bc bs Q) : Ok 244 182 [.ref (A 22), .long (d), mk0, .int 0, a4, a5, a6, a7] [] m (bc + 1) (bs + 8) Q := by
  have R0 := R
  obtain ⟨vk, vcn, v0, v1, v2, vp, vl0, vl1, vlr, vsr, vc, tx⟩ := R0
  have vk0 := vk
  have vcn0 := vcn
  (refine K_el vk0 ?_; intros hA kc0 kc1 kc2 kc3 kc4 kc5 kc6 kc7 kc8 kc9 kc10 kc11 kc12 kc13 kc14 kc15 kc16 kc17 kc18 kc19 kc20 kc21 kc22 kc23 kc24 kc25 kc26 kc27 kc28 kc29 kc30 kc31 kc32 kc33 kc34 kc35 kc36 kc37 kc38 kc39 kz kt kn3 kn4 kn18 kn21 kn23 kn24 kn25 kn26 kn27 kn29 kn30 kr0_0 kr0_1 kr0_2 kr0_3 kr0_4 kr0_5 kr0_7 kr0_8 kr0_9 kr0_10 kr1_0 kr2_0 kr5_0 kr5_1 kr6_0 kr6_1 kr7_0 kr7_1 kr8_0 kr9_0 kr10_0 kr11_0 kr12_0 kr13_0 kr14_0 kr15_0 kr16_0 kr17_0 kr19_0 kr19_1 kr22_0 kr22_1 kr22_2 kr22_3 kr22_4 kr22_5 kr22_7 kr22_8 kr25_0 kr25_1 kr25_2 kr26_0 kr26_1 kr26_2 kr29_0 kr29_1)
  (refine Cn_el vcn0 ?_; intros ki5_2 ki6_2 ki7_2 ki8_1 ki8_2 ki8_3 ki9_1 ki9_2 ki9_3 ki10_1 ki10_2 ki10_3 ki11_1 ki11_2 ki11_3 ki12_1 ki12_2 ki12_3 ki13_1 ki13_2 ki13_3 ki14_1 ki14_2 ki14_3 ki28_0 ki28_1 ki31_0 ki31_1 ki32_0 ki32_1 ki33_0 ki33_1 ki34_0 ki34_1 ki35_0 ki35_1 ki36_0 ki36_1)
  have hAe : ∀ i j, i < 40 → j < 40 → (A i = A j ↔ i = j) := hA
  have b8 : (8 : Int32) = 8 := by decide
  have c1 : (1 ≤ bc + 1) = True := eq_true (by omega)
  have c2 : (8 ≤ bs + 8) = True := eq_true (by omega)
  have c3 : bc + 1 - 1 = bc := by omega
  have c4 : bs + 8 - 8 = bs := by omega
  (refine Sm_el sm ?_; intros i0 l0 i1 l1 i2 l2 i3 l3 i4 l4 i5 l5 i6 l6 i7 l7 i8 l8 i9 l9 i10 l10 i11 l11 i12 l12 i13 l13 i14 l14 i15 l15 i16 l16 i17 l17 i18 l18 i19 l19 i23 l23 i24 l24 i25 l25 i26 l26 i27 l27 i28 l28 i29 l29 i30 l30 i31 l31 i32 l32 i33 l33 i34 l34 i35 l35 i36 l36 i37 l37 i38 l38 i39 l39 i22)
  rw [o244_182]
  simp only [o244_183, o244_185, o244_188, o244_189, o244_192, o244_193, o244_194, o244_195, mcs_0, mcs_l, true_and, not_true_eq_false, not_false_eq_true, false_implies, forall_const, Nat.reduceLeDiff, Nat.reduceAdd, lt_le, Int32.reduceLT, kc22, Int32.reduceLT, c1, c2, c3, c4]
  refine m_piX0 R (fun q f => ?_)
  simp only [o244_198, o244_199, o244_200, o244_201, o244_204, Kn_v, Int32.reduceAdd, i14]
  exact hQ q f

theorem ms_I1 {A : Nat → Nat} {d : Int64} {h0 m : MH} {Q : MR → MH → Prop} {bc bs : Nat} {a4 a5 a6 a7 : Value} (sm : Sm A h0 m) (R : Rl A m) (hQ : ∀ q, Fr (p_i m (A 22) 9 0) q → Ok 244 182 [.ref (A 22), .long (dg1 d (g_i h0 (A 14) 5)), mk0, .int 2, a4, a5, a6, a7] [] q bc bs Q) : Ok 244 182 [.ref (A 22), .long (d), mk0, .int 1, a4, a5, a6, a7] [] m (bc + 1) (bs + 8) Q := by
  have R0 := R
  obtain ⟨vk, vcn, v0, v1, v2, vp, vl0, vl1, vlr, vsr, vc, tx⟩ := R0
  have vk0 := vk
  have vcn0 := vcn
  (refine K_el vk0 ?_; intros hA kc0 kc1 kc2 kc3 kc4 kc5 kc6 kc7 kc8 kc9 kc10 kc11 kc12 kc13 kc14 kc15 kc16 kc17 kc18 kc19 kc20 kc21 kc22 kc23 kc24 kc25 kc26 kc27 kc28 kc29 kc30 kc31 kc32 kc33 kc34 kc35 kc36 kc37 kc38 kc39 kz kt kn3 kn4 kn18 kn21 kn23 kn24 kn25 kn26 kn27 kn29 kn30 kr0_0 kr0_1 kr0_2 kr0_3 kr0_4 kr0_5 kr0_7 kr0_8 kr0_9 kr0_10 kr1_0 kr2_0 kr5_0 kr5_1 kr6_0 kr6_1 kr7_0 kr7_1 kr8_0 kr9_0 kr10_0 kr11_0 kr12_0 kr13_0 kr14_0 kr15_0 kr16_0 kr17_0 kr19_0 kr19_1 kr22_0 kr22_1 kr22_2 kr22_3 kr22_4 kr22_5 kr22_7 kr22_8 kr25_0 kr25_1 kr25_2 kr26_0 kr26_1 kr26_2 kr29_0 kr29_1)
  (refine Cn_el vcn0 ?_; intros ki5_2 ki6_2 ki7_2 ki8_1 ki8_2 ki8_3 ki9_1 ki9_2 ki9_3 ki10_1 ki10_2 ki10_3 ki11_1 ki11_2 ki11_3 ki12_1 ki12_2 ki12_3 ki13_1 ki13_2 ki13_3 ki14_1 ki14_2 ki14_3 ki28_0 ki28_1 ki31_0 ki31_1 ki32_0 ki32_1 ki33_0 ki33_1 ki34_0 ki34_1 ki35_0 ki35_1 ki36_0 ki36_1)
  have hAe : ∀ i j, i < 40 → j < 40 → (A i = A j ↔ i = j) := hA
  have b8 : (8 : Int32) = 8 := by decide
  have c1 : (1 ≤ bc + 1) = True := eq_true (by omega)
  have c2 : (8 ≤ bs + 8) = True := eq_true (by omega)
  have c3 : bc + 1 - 1 = bc := by omega
  have c4 : bs + 8 - 8 = bs := by omega
  (refine Sm_el sm ?_; intros i0 l0 i1 l1 i2 l2 i3 l3 i4 l4 i5 l5 i6 l6 i7 l7 i8 l8 i9 l9 i10 l10 i11 l11 i12 l12 i13 l13 i14 l14 i15 l15 i16 l16 i17 l17 i18 l18 i19 l19 i23 l23 i24 l24 i25 l25 i26 l26 i27 l27 i28 l28 i29 l29 i30 l30 i31 l31 i32 l32 i33 l33 i34 l34 i35 l35 i36 l36 i37 l37 i38 l38 i39 l39 i22)
  rw [o244_182]
  simp only [o244_183, o244_185, o244_188, o244_189, o244_192, o244_193, o244_194, o244_195, mcs_0, mcs_l, true_and, not_true_eq_false, not_false_eq_true, false_implies, forall_const, Nat.reduceLeDiff, Nat.reduceAdd, lt_le, Int32.reduceLT, kc22, Int32.reduceLT, c1, c2, c3, c4]
  refine m_piX1 R (fun q f => ?_)
  simp only [o244_198, o244_199, o244_200, o244_201, o244_204, Kn_v, Int32.reduceAdd, i14]
  exact hQ q f

theorem ms_I2 {A : Nat → Nat} {d : Int64} {h0 m : MH} {Q : MR → MH → Prop} {bc bs : Nat} {a4 a5 a6 a7 : Value} (sm : Sm A h0 m) (R : Rl A m) (hQ : ∀ q, Fr (p_i m (A 22) 9 0) q → Ok 244 182 [.ref (A 22), .long (dg1 d (g_i h0 (A 14) 5 - g_i h0 (A 14) 4)), mk0, .int 3, a4, a5, a6, a7] [] q bc bs Q) : Ok 244 182 [.ref (A 22), .long (d), mk0, .int 2, a4, a5, a6, a7] [] m (bc + 1) (bs + 8) Q := by
  have R0 := R
  obtain ⟨vk, vcn, v0, v1, v2, vp, vl0, vl1, vlr, vsr, vc, tx⟩ := R0
  have vk0 := vk
  have vcn0 := vcn
  (refine K_el vk0 ?_; intros hA kc0 kc1 kc2 kc3 kc4 kc5 kc6 kc7 kc8 kc9 kc10 kc11 kc12 kc13 kc14 kc15 kc16 kc17 kc18 kc19 kc20 kc21 kc22 kc23 kc24 kc25 kc26 kc27 kc28 kc29 kc30 kc31 kc32 kc33 kc34 kc35 kc36 kc37 kc38 kc39 kz kt kn3 kn4 kn18 kn21 kn23 kn24 kn25 kn26 kn27 kn29 kn30 kr0_0 kr0_1 kr0_2 kr0_3 kr0_4 kr0_5 kr0_7 kr0_8 kr0_9 kr0_10 kr1_0 kr2_0 kr5_0 kr5_1 kr6_0 kr6_1 kr7_0 kr7_1 kr8_0 kr9_0 kr10_0 kr11_0 kr12_0 kr13_0 kr14_0 kr15_0 kr16_0 kr17_0 kr19_0 kr19_1 kr22_0 kr22_1 kr22_2 kr22_3 kr22_4 kr22_5 kr22_7 kr22_8 kr25_0 kr25_1 kr25_2 kr26_0 kr26_1 kr26_2 kr29_0 kr29_1)
  (refine Cn_el vcn0 ?_; intros ki5_2 ki6_2 ki7_2 ki8_1 ki8_2 ki8_3 ki9_1 ki9_2 ki9_3 ki10_1 ki10_2 ki10_3 ki11_1 ki11_2 ki11_3 ki12_1 ki12_2 ki12_3 ki13_1 ki13_2 ki13_3 ki14_1 ki14_2 ki14_3 ki28_0 ki28_1 ki31_0 ki31_1 ki32_0 ki32_1 ki33_0 ki33_1 ki34_0 ki34_1 ki35_0 ki35_1 ki36_0 ki36_1)
  have hAe : ∀ i j, i < 40 → j < 40 → (A i = A j ↔ i = j) := hA
  have b8 : (8 : Int32) = 8 := by decide
  have c1 : (1 ≤ bc + 1) = True := eq_true (by omega)
  have c2 : (8 ≤ bs + 8) = True := eq_true (by omega)
  have c3 : bc + 1 - 1 = bc := by omega
  have c4 : bs + 8 - 8 = bs := by omega
  (refine Sm_el sm ?_; intros i0 l0 i1 l1 i2 l2 i3 l3 i4 l4 i5 l5 i6 l6 i7 l7 i8 l8 i9 l9 i10 l10 i11 l11 i12 l12 i13 l13 i14 l14 i15 l15 i16 l16 i17 l17 i18 l18 i19 l19 i23 l23 i24 l24 i25 l25 i26 l26 i27 l27 i28 l28 i29 l29 i30 l30 i31 l31 i32 l32 i33 l33 i34 l34 i35 l35 i36 l36 i37 l37 i38 l38 i39 l39 i22)
  rw [o244_182]
  simp only [o244_183, o244_185, o244_188, o244_189, o244_192, o244_193, o244_194, o244_195, mcs_0, mcs_l, true_and, not_true_eq_false, not_false_eq_true, false_implies, forall_const, Nat.reduceLeDiff, Nat.reduceAdd, lt_le, Int32.reduceLT, kc22, Int32.reduceLT, c1, c2, c3, c4]
  refine m_piX2 R (fun q f => ?_)
  simp only [o244_198, o244_199, o244_200, o244_201, o244_204, Kn_v, Int32.reduceAdd, i14]
  exact hQ q f

theorem ms_I3 {A : Nat → Nat} {d : Int64} {h0 m : MH} {Q : MR → MH → Prop} {bc bs : Nat} {a4 a5 a6 a7 : Value} (sm : Sm A h0 m) (R : Rl A m) (hQ : ∀ q, Fr (p_i m (A 22) 9 0) q → Ok 244 182 [.ref (A 22), .long (dg1 d (10)), mk0, .int 4, a4, a5, a6, a7] [] q bc bs Q) : Ok 244 182 [.ref (A 22), .long (d), mk0, .int 3, a4, a5, a6, a7] [] m (bc + 1) (bs + 8) Q := by
  have R0 := R
  obtain ⟨vk, vcn, v0, v1, v2, vp, vl0, vl1, vlr, vsr, vc, tx⟩ := R0
  have vk0 := vk
  have vcn0 := vcn
  (refine K_el vk0 ?_; intros hA kc0 kc1 kc2 kc3 kc4 kc5 kc6 kc7 kc8 kc9 kc10 kc11 kc12 kc13 kc14 kc15 kc16 kc17 kc18 kc19 kc20 kc21 kc22 kc23 kc24 kc25 kc26 kc27 kc28 kc29 kc30 kc31 kc32 kc33 kc34 kc35 kc36 kc37 kc38 kc39 kz kt kn3 kn4 kn18 kn21 kn23 kn24 kn25 kn26 kn27 kn29 kn30 kr0_0 kr0_1 kr0_2 kr0_3 kr0_4 kr0_5 kr0_7 kr0_8 kr0_9 kr0_10 kr1_0 kr2_0 kr5_0 kr5_1 kr6_0 kr6_1 kr7_0 kr7_1 kr8_0 kr9_0 kr10_0 kr11_0 kr12_0 kr13_0 kr14_0 kr15_0 kr16_0 kr17_0 kr19_0 kr19_1 kr22_0 kr22_1 kr22_2 kr22_3 kr22_4 kr22_5 kr22_7 kr22_8 kr25_0 kr25_1 kr25_2 kr26_0 kr26_1 kr26_2 kr29_0 kr29_1)
  (refine Cn_el vcn0 ?_; intros ki5_2 ki6_2 ki7_2 ki8_1 ki8_2 ki8_3 ki9_1 ki9_2 ki9_3 ki10_1 ki10_2 ki10_3 ki11_1 ki11_2 ki11_3 ki12_1 ki12_2 ki12_3 ki13_1 ki13_2 ki13_3 ki14_1 ki14_2 ki14_3 ki28_0 ki28_1 ki31_0 ki31_1 ki32_0 ki32_1 ki33_0 ki33_1 ki34_0 ki34_1 ki35_0 ki35_1 ki36_0 ki36_1)
  have hAe : ∀ i j, i < 40 → j < 40 → (A i = A j ↔ i = j) := hA
  have b8 : (8 : Int32) = 8 := by decide
  have c1 : (1 ≤ bc + 1) = True := eq_true (by omega)
  have c2 : (8 ≤ bs + 8) = True := eq_true (by omega)
  have c3 : bc + 1 - 1 = bc := by omega
  have c4 : bs + 8 - 8 = bs := by omega
  (refine Sm_el sm ?_; intros i0 l0 i1 l1 i2 l2 i3 l3 i4 l4 i5 l5 i6 l6 i7 l7 i8 l8 i9 l9 i10 l10 i11 l11 i12 l12 i13 l13 i14 l14 i15 l15 i16 l16 i17 l17 i18 l18 i19 l19 i23 l23 i24 l24 i25 l25 i26 l26 i27 l27 i28 l28 i29 l29 i30 l30 i31 l31 i32 l32 i33 l33 i34 l34 i35 l35 i36 l36 i37 l37 i38 l38 i39 l39 i22)
  rw [o244_182]
  simp only [o244_183, o244_185, o244_188, o244_189, o244_192, o244_193, o244_194, o244_195, mcs_0, mcs_l, true_and, not_true_eq_false, not_false_eq_true, false_implies, forall_const, Nat.reduceLeDiff, Nat.reduceAdd, lt_le, Int32.reduceLT, kc22, Int32.reduceLT, c1, c2, c3, c4]
  refine m_piX3 R (fun q f => ?_)
  simp only [o244_198, o244_199, o244_200, o244_201, o244_204, Kn_v, Int32.reduceAdd]
  exact hQ q f

theorem ms_I4 {A : Nat → Nat} {d : Int64} {h0 m : MH} {Q : MR → MH → Prop} {bc bs : Nat} {a4 a5 a6 a7 : Value} (sm : Sm A h0 m) (R : Rl A m) (hQ : ∀ q, Fr (p_i m (A 22) 9 0) q → Ok 244 182 [.ref (A 22), .long (dg1 d (g_i h0 (A 14) 6)), mk0, .int 5, a4, a5, a6, a7] [] q bc bs Q) : Ok 244 182 [.ref (A 22), .long (d), mk0, .int 4, a4, a5, a6, a7] [] m (bc + 1) (bs + 8) Q := by
  have R0 := R
  obtain ⟨vk, vcn, v0, v1, v2, vp, vl0, vl1, vlr, vsr, vc, tx⟩ := R0
  have vk0 := vk
  have vcn0 := vcn
  (refine K_el vk0 ?_; intros hA kc0 kc1 kc2 kc3 kc4 kc5 kc6 kc7 kc8 kc9 kc10 kc11 kc12 kc13 kc14 kc15 kc16 kc17 kc18 kc19 kc20 kc21 kc22 kc23 kc24 kc25 kc26 kc27 kc28 kc29 kc30 kc31 kc32 kc33 kc34 kc35 kc36 kc37 kc38 kc39 kz kt kn3 kn4 kn18 kn21 kn23 kn24 kn25 kn26 kn27 kn29 kn30 kr0_0 kr0_1 kr0_2 kr0_3 kr0_4 kr0_5 kr0_7 kr0_8 kr0_9 kr0_10 kr1_0 kr2_0 kr5_0 kr5_1 kr6_0 kr6_1 kr7_0 kr7_1 kr8_0 kr9_0 kr10_0 kr11_0 kr12_0 kr13_0 kr14_0 kr15_0 kr16_0 kr17_0 kr19_0 kr19_1 kr22_0 kr22_1 kr22_2 kr22_3 kr22_4 kr22_5 kr22_7 kr22_8 kr25_0 kr25_1 kr25_2 kr26_0 kr26_1 kr26_2 kr29_0 kr29_1)
  (refine Cn_el vcn0 ?_; intros ki5_2 ki6_2 ki7_2 ki8_1 ki8_2 ki8_3 ki9_1 ki9_2 ki9_3 ki10_1 ki10_2 ki10_3 ki11_1 ki11_2 ki11_3 ki12_1 ki12_2 ki12_3 ki13_1 ki13_2 ki13_3 ki14_1 ki14_2 ki14_3 ki28_0 ki28_1 ki31_0 ki31_1 ki32_0 ki32_1 ki33_0 ki33_1 ki34_0 ki34_1 ki35_0 ki35_1 ki36_0 ki36_1)
  have hAe : ∀ i j, i < 40 → j < 40 → (A i = A j ↔ i = j) := hA
  have b8 : (8 : Int32) = 8 := by decide
  have c1 : (1 ≤ bc + 1) = True := eq_true (by omega)
  have c2 : (8 ≤ bs + 8) = True := eq_true (by omega)
  have c3 : bc + 1 - 1 = bc := by omega
  have c4 : bs + 8 - 8 = bs := by omega
  (refine Sm_el sm ?_; intros i0 l0 i1 l1 i2 l2 i3 l3 i4 l4 i5 l5 i6 l6 i7 l7 i8 l8 i9 l9 i10 l10 i11 l11 i12 l12 i13 l13 i14 l14 i15 l15 i16 l16 i17 l17 i18 l18 i19 l19 i23 l23 i24 l24 i25 l25 i26 l26 i27 l27 i28 l28 i29 l29 i30 l30 i31 l31 i32 l32 i33 l33 i34 l34 i35 l35 i36 l36 i37 l37 i38 l38 i39 l39 i22)
  rw [o244_182]
  simp only [o244_183, o244_185, o244_188, o244_189, o244_192, o244_193, o244_194, o244_195, mcs_0, mcs_l, true_and, not_true_eq_false, not_false_eq_true, false_implies, forall_const, Nat.reduceLeDiff, Nat.reduceAdd, lt_le, Int32.reduceLT, kc22, Int32.reduceLT, c1, c2, c3, c4]
  refine m_piX4 R (fun q f => ?_)
  simp only [o244_198, o244_199, o244_200, o244_201, o244_204, Kn_v, Int32.reduceAdd, i14]
  exact hQ q f

theorem ms_I5 {A : Nat → Nat} {d : Int64} {h0 m : MH} {Q : MR → MH → Prop} {bc bs : Nat} {a4 a5 a6 a7 : Value} (sm : Sm A h0 m) (R : Rl A m) (hQ : ∀ q, Fr (p_i m (A 22) 9 0) q → Ok 244 182 [.ref (A 22), .long (dg1 d (if g_i h0 (A 0) 6 = 0 then 0 else 1)), mk0, .int 6, a4, a5, a6, a7] [] q bc bs Q) : Ok 244 182 [.ref (A 22), .long (d), mk0, .int 5, a4, a5, a6, a7] [] m (bc + 1) (bs + 8) Q := by
  have R0 := R
  obtain ⟨vk, vcn, v0, v1, v2, vp, vl0, vl1, vlr, vsr, vc, tx⟩ := R0
  have vk0 := vk
  have vcn0 := vcn
  (refine K_el vk0 ?_; intros hA kc0 kc1 kc2 kc3 kc4 kc5 kc6 kc7 kc8 kc9 kc10 kc11 kc12 kc13 kc14 kc15 kc16 kc17 kc18 kc19 kc20 kc21 kc22 kc23 kc24 kc25 kc26 kc27 kc28 kc29 kc30 kc31 kc32 kc33 kc34 kc35 kc36 kc37 kc38 kc39 kz kt kn3 kn4 kn18 kn21 kn23 kn24 kn25 kn26 kn27 kn29 kn30 kr0_0 kr0_1 kr0_2 kr0_3 kr0_4 kr0_5 kr0_7 kr0_8 kr0_9 kr0_10 kr1_0 kr2_0 kr5_0 kr5_1 kr6_0 kr6_1 kr7_0 kr7_1 kr8_0 kr9_0 kr10_0 kr11_0 kr12_0 kr13_0 kr14_0 kr15_0 kr16_0 kr17_0 kr19_0 kr19_1 kr22_0 kr22_1 kr22_2 kr22_3 kr22_4 kr22_5 kr22_7 kr22_8 kr25_0 kr25_1 kr25_2 kr26_0 kr26_1 kr26_2 kr29_0 kr29_1)
  (refine Cn_el vcn0 ?_; intros ki5_2 ki6_2 ki7_2 ki8_1 ki8_2 ki8_3 ki9_1 ki9_2 ki9_3 ki10_1 ki10_2 ki10_3 ki11_1 ki11_2 ki11_3 ki12_1 ki12_2 ki12_3 ki13_1 ki13_2 ki13_3 ki14_1 ki14_2 ki14_3 ki28_0 ki28_1 ki31_0 ki31_1 ki32_0 ki32_1 ki33_0 ki33_1 ki34_0 ki34_1 ki35_0 ki35_1 ki36_0 ki36_1)
  have hAe : ∀ i j, i < 40 → j < 40 → (A i = A j ↔ i = j) := hA
  have b8 : (8 : Int32) = 8 := by decide
  have c1 : (1 ≤ bc + 1) = True := eq_true (by omega)
  have c2 : (8 ≤ bs + 8) = True := eq_true (by omega)
  have c3 : bc + 1 - 1 = bc := by omega
  have c4 : bs + 8 - 8 = bs := by omega
  (refine Sm_el sm ?_; intros i0 l0 i1 l1 i2 l2 i3 l3 i4 l4 i5 l5 i6 l6 i7 l7 i8 l8 i9 l9 i10 l10 i11 l11 i12 l12 i13 l13 i14 l14 i15 l15 i16 l16 i17 l17 i18 l18 i19 l19 i23 l23 i24 l24 i25 l25 i26 l26 i27 l27 i28 l28 i29 l29 i30 l30 i31 l31 i32 l32 i33 l33 i34 l34 i35 l35 i36 l36 i37 l37 i38 l38 i39 l39 i22)
  rw [o244_182]
  simp only [o244_183, o244_185, o244_188, o244_189, o244_192, o244_193, o244_194, o244_195, mcs_0, mcs_l, true_and, not_true_eq_false, not_false_eq_true, false_implies, forall_const, Nat.reduceLeDiff, Nat.reduceAdd, lt_le, Int32.reduceLT, kc22, Int32.reduceLT, c1, c2, c3, c4]
  refine m_piX5 R (fun q f => ?_)
  simp only [o244_198, o244_199, o244_200, o244_201, o244_204, Kn_v, Int32.reduceAdd, i0]
  exact hQ q f

theorem ms_I6 {A : Nat → Nat} {d : Int64} {h0 m : MH} {Q : MR → MH → Prop} {bc bs : Nat} {a4 a5 a6 a7 : Value} (sm : Sm A h0 m) (R : Rl A m) (hQ : ∀ q, Fr (p_i m (A 22) 9 0) q → Ok 244 182 [.ref (A 22), .long (dg1 d (1)), mk0, .int 7, a4, a5, a6, a7] [] q bc bs Q) : Ok 244 182 [.ref (A 22), .long (d), mk0, .int 6, a4, a5, a6, a7] [] m (bc + 1) (bs + 8) Q := by
  have R0 := R
  obtain ⟨vk, vcn, v0, v1, v2, vp, vl0, vl1, vlr, vsr, vc, tx⟩ := R0
  have vk0 := vk
  have vcn0 := vcn
  (refine K_el vk0 ?_; intros hA kc0 kc1 kc2 kc3 kc4 kc5 kc6 kc7 kc8 kc9 kc10 kc11 kc12 kc13 kc14 kc15 kc16 kc17 kc18 kc19 kc20 kc21 kc22 kc23 kc24 kc25 kc26 kc27 kc28 kc29 kc30 kc31 kc32 kc33 kc34 kc35 kc36 kc37 kc38 kc39 kz kt kn3 kn4 kn18 kn21 kn23 kn24 kn25 kn26 kn27 kn29 kn30 kr0_0 kr0_1 kr0_2 kr0_3 kr0_4 kr0_5 kr0_7 kr0_8 kr0_9 kr0_10 kr1_0 kr2_0 kr5_0 kr5_1 kr6_0 kr6_1 kr7_0 kr7_1 kr8_0 kr9_0 kr10_0 kr11_0 kr12_0 kr13_0 kr14_0 kr15_0 kr16_0 kr17_0 kr19_0 kr19_1 kr22_0 kr22_1 kr22_2 kr22_3 kr22_4 kr22_5 kr22_7 kr22_8 kr25_0 kr25_1 kr25_2 kr26_0 kr26_1 kr26_2 kr29_0 kr29_1)
  (refine Cn_el vcn0 ?_; intros ki5_2 ki6_2 ki7_2 ki8_1 ki8_2 ki8_3 ki9_1 ki9_2 ki9_3 ki10_1 ki10_2 ki10_3 ki11_1 ki11_2 ki11_3 ki12_1 ki12_2 ki12_3 ki13_1 ki13_2 ki13_3 ki14_1 ki14_2 ki14_3 ki28_0 ki28_1 ki31_0 ki31_1 ki32_0 ki32_1 ki33_0 ki33_1 ki34_0 ki34_1 ki35_0 ki35_1 ki36_0 ki36_1)
  have hAe : ∀ i j, i < 40 → j < 40 → (A i = A j ↔ i = j) := hA
  have b8 : (8 : Int32) = 8 := by decide
  have c1 : (1 ≤ bc + 1) = True := eq_true (by omega)
  have c2 : (8 ≤ bs + 8) = True := eq_true (by omega)
  have c3 : bc + 1 - 1 = bc := by omega
  have c4 : bs + 8 - 8 = bs := by omega
  (refine Sm_el sm ?_; intros i0 l0 i1 l1 i2 l2 i3 l3 i4 l4 i5 l5 i6 l6 i7 l7 i8 l8 i9 l9 i10 l10 i11 l11 i12 l12 i13 l13 i14 l14 i15 l15 i16 l16 i17 l17 i18 l18 i19 l19 i23 l23 i24 l24 i25 l25 i26 l26 i27 l27 i28 l28 i29 l29 i30 l30 i31 l31 i32 l32 i33 l33 i34 l34 i35 l35 i36 l36 i37 l37 i38 l38 i39 l39 i22)
  rw [o244_182]
  simp only [o244_183, o244_185, o244_188, o244_189, o244_192, o244_193, o244_194, o244_195, mcs_0, mcs_l, true_and, not_true_eq_false, not_false_eq_true, false_implies, forall_const, Nat.reduceLeDiff, Nat.reduceAdd, lt_le, Int32.reduceLT, kc22, Int32.reduceLT, c1, c2, c3, c4]
  refine m_piX6 R (fun q f => ?_)
  simp only [o244_198, o244_199, o244_200, o244_201, o244_204, Kn_v, Int32.reduceAdd]
  exact hQ q f

theorem ms_I7 {A : Nat → Nat} {d : Int64} {h0 m : MH} {Q : MR → MH → Prop} {bc bs : Nat} {a4 a5 a6 a7 : Value} (sm : Sm A h0 m) (R : Rl A m) (hQ : ∀ q, Fr (p_i m (A 22) 9 0) q → Ok 244 182 [.ref (A 22), .long (dg1 d (if g_i h0 (A 0) 6 = 0 then g_i h0 (A 14) 4 else g_i h0 (A 14) 5 - g_i h0 (A 14) 4)), mk0, .int 8, a4, a5, a6, a7] [] q bc bs Q) : Ok 244 182 [.ref (A 22), .long (d), mk0, .int 7, a4, a5, a6, a7] [] m (bc + 1) (bs + 8) Q := by
  have R0 := R
  obtain ⟨vk, vcn, v0, v1, v2, vp, vl0, vl1, vlr, vsr, vc, tx⟩ := R0
  have vk0 := vk
  have vcn0 := vcn
  (refine K_el vk0 ?_; intros hA kc0 kc1 kc2 kc3 kc4 kc5 kc6 kc7 kc8 kc9 kc10 kc11 kc12 kc13 kc14 kc15 kc16 kc17 kc18 kc19 kc20 kc21 kc22 kc23 kc24 kc25 kc26 kc27 kc28 kc29 kc30 kc31 kc32 kc33 kc34 kc35 kc36 kc37 kc38 kc39 kz kt kn3 kn4 kn18 kn21 kn23 kn24 kn25 kn26 kn27 kn29 kn30 kr0_0 kr0_1 kr0_2 kr0_3 kr0_4 kr0_5 kr0_7 kr0_8 kr0_9 kr0_10 kr1_0 kr2_0 kr5_0 kr5_1 kr6_0 kr6_1 kr7_0 kr7_1 kr8_0 kr9_0 kr10_0 kr11_0 kr12_0 kr13_0 kr14_0 kr15_0 kr16_0 kr17_0 kr19_0 kr19_1 kr22_0 kr22_1 kr22_2 kr22_3 kr22_4 kr22_5 kr22_7 kr22_8 kr25_0 kr25_1 kr25_2 kr26_0 kr26_1 kr26_2 kr29_0 kr29_1)
  (refine Cn_el vcn0 ?_; intros ki5_2 ki6_2 ki7_2 ki8_1 ki8_2 ki8_3 ki9_1 ki9_2 ki9_3 ki10_1 ki10_2 ki10_3 ki11_1 ki11_2 ki11_3 ki12_1 ki12_2 ki12_3 ki13_1 ki13_2 ki13_3 ki14_1 ki14_2 ki14_3 ki28_0 ki28_1 ki31_0 ki31_1 ki32_0 ki32_1 ki33_0 ki33_1 ki34_0 ki34_1 ki35_0 ki35_1 ki36_0 ki36_1)
  have hAe : ∀ i j, i < 40 → j < 40 → (A i = A j ↔ i = j) := hA
  have b8 : (8 : Int32) = 8 := by decide
  have c1 : (1 ≤ bc + 1) = True := eq_true (by omega)
  have c2 : (8 ≤ bs + 8) = True := eq_true (by omega)
  have c3 : bc + 1 - 1 = bc := by omega
  have c4 : bs + 8 - 8 = bs := by omega
  (refine Sm_el sm ?_; intros i0 l0 i1 l1 i2 l2 i3 l3 i4 l4 i5 l5 i6 l6 i7 l7 i8 l8 i9 l9 i10 l10 i11 l11 i12 l12 i13 l13 i14 l14 i15 l15 i16 l16 i17 l17 i18 l18 i19 l19 i23 l23 i24 l24 i25 l25 i26 l26 i27 l27 i28 l28 i29 l29 i30 l30 i31 l31 i32 l32 i33 l33 i34 l34 i35 l35 i36 l36 i37 l37 i38 l38 i39 l39 i22)
  rw [o244_182]
  simp only [o244_183, o244_185, o244_188, o244_189, o244_192, o244_193, o244_194, o244_195, mcs_0, mcs_l, true_and, not_true_eq_false, not_false_eq_true, false_implies, forall_const, Nat.reduceLeDiff, Nat.reduceAdd, lt_le, Int32.reduceLT, kc22, Int32.reduceLT, c1, c2, c3, c4]
  refine m_piX7 R (fun q f => ?_)
  simp only [o244_198, o244_199, o244_200, o244_201, o244_204, Kn_v, Int32.reduceAdd, i0, i14]
  exact hQ q f

theorem ms_T {A : Nat → Nat} {d : Int64} {h0 m : MH} {Q : MR → MH → Prop} {bc bs : Nat} {a4 a5 a6 a7 : Value} (sm : Sm A h0 m) (R : Rl A m) (cs : Cs m) (hQ : ∀ q, Sm A h0 q → Rl A q → Cs q → Ok 244 222 [.ref (A 22), .long (dT A h0 d), mk0, .int 8, a4, a5, a6, a7] [] q bc bs Q) : Ok 244 182 [.ref (A 22), .long (d), mk0, .int 0, a4, a5, a6, a7] [] m (bc + 32) (bs + 3238) Q := by
  have b8 : (8 : Int32) = 8 := by decide
  refine ms_I0 (bc := bc + 31) (bs := bs + 3230) sm R (fun q0 f0 => ?_)
  obtain ⟨R0, s0⟩ := Rl_fr0 R f0
  have cs0 := Cs_fr0 R cs f0
  replace s0 := Sm_tr sm s0
  refine ms_I1 (bc := bc + 30) (bs := bs + 3222) s0 R0 (fun q1 f1 => ?_)
  obtain ⟨R1, s1⟩ := Rl_fr0 R0 f1
  have cs1 := Cs_fr0 R0 cs0 f1
  replace s1 := Sm_tr s0 s1
  refine ms_I2 (bc := bc + 29) (bs := bs + 3214) s1 R1 (fun q2 f2 => ?_)
  obtain ⟨R2, s2⟩ := Rl_fr0 R1 f2
  have cs2 := Cs_fr0 R1 cs1 f2
  replace s2 := Sm_tr s1 s2
  refine ms_I3 (bc := bc + 28) (bs := bs + 3206) s2 R2 (fun q3 f3 => ?_)
  obtain ⟨R3, s3⟩ := Rl_fr0 R2 f3
  have cs3 := Cs_fr0 R2 cs2 f3
  replace s3 := Sm_tr s2 s3
  refine ms_I4 (bc := bc + 27) (bs := bs + 3198) s3 R3 (fun q4 f4 => ?_)
  obtain ⟨R4, s4⟩ := Rl_fr0 R3 f4
  have cs4 := Cs_fr0 R3 cs3 f4
  replace s4 := Sm_tr s3 s4
  refine ms_I5 (bc := bc + 26) (bs := bs + 3190) s4 R4 (fun q5 f5 => ?_)
  obtain ⟨R5, s5⟩ := Rl_fr0 R4 f5
  have cs5 := Cs_fr0 R4 cs4 f5
  replace s5 := Sm_tr s4 s5
  refine ms_I6 (bc := bc + 25) (bs := bs + 3182) s5 R5 (fun q6 f6 => ?_)
  obtain ⟨R6, s6⟩ := Rl_fr0 R5 f6
  have cs6 := Cs_fr0 R5 cs5 f6
  replace s6 := Sm_tr s5 s6
  refine ms_I7 (bc := bc + 24) (bs := bs + 3174) s6 R6 (fun q7 f7 => ?_)
  obtain ⟨R7, s7⟩ := Rl_fr0 R6 f7
  have cs7 := Cs_fr0 R6 cs6 f7
  replace s7 := Sm_tr s6 s7
  have c1 : (24 ≤ bc + 24) = True := eq_true (by omega)
  have c2 : (3174 ≤ bs + 3174) = True := eq_true (by omega)
  have c3 : bc + 24 - 24 = bc := by omega
  have c4 : bs + 3174 - 3174 = bs := by omega
  have R0 := R7
  obtain ⟨vk, vcn, v0, v1, v2, vp, vl0, vl1, vlr, vsr, vc, tx⟩ := R0
  have vk0 := vk
  have vcn0 := vcn
  (refine K_el vk0 ?_; intros hA kc0 kc1 kc2 kc3 kc4 kc5 kc6 kc7 kc8 kc9 kc10 kc11 kc12 kc13 kc14 kc15 kc16 kc17 kc18 kc19 kc20 kc21 kc22 kc23 kc24 kc25 kc26 kc27 kc28 kc29 kc30 kc31 kc32 kc33 kc34 kc35 kc36 kc37 kc38 kc39 kz kt kn3 kn4 kn18 kn21 kn23 kn24 kn25 kn26 kn27 kn29 kn30 kr0_0 kr0_1 kr0_2 kr0_3 kr0_4 kr0_5 kr0_7 kr0_8 kr0_9 kr0_10 kr1_0 kr2_0 kr5_0 kr5_1 kr6_0 kr6_1 kr7_0 kr7_1 kr8_0 kr9_0 kr10_0 kr11_0 kr12_0 kr13_0 kr14_0 kr15_0 kr16_0 kr17_0 kr19_0 kr19_1 kr22_0 kr22_1 kr22_2 kr22_3 kr22_4 kr22_5 kr22_7 kr22_8 kr25_0 kr25_1 kr25_2 kr26_0 kr26_1 kr26_2 kr29_0 kr29_1)
  (refine Cn_el vcn0 ?_; intros ki5_2 ki6_2 ki7_2 ki8_1 ki8_2 ki8_3 ki9_1 ki9_2 ki9_3 ki10_1 ki10_2 ki10_3 ki11_1 ki11_2 ki11_3 ki12_1 ki12_2 ki12_3 ki13_1 ki13_2 ki13_3 ki14_1 ki14_2 ki14_3 ki28_0 ki28_1 ki31_0 ki31_1 ki32_0 ki32_1 ki33_0 ki33_1 ki34_0 ki34_1 ki35_0 ki35_1 ki36_0 ki36_1)
  have hAe : ∀ i j, i < 40 → j < 40 → (A i = A j ↔ i = j) := hA
  rw [o244_182]
  simp only [o244_183, o244_185, o244_207, o244_208, o244_211, o244_212, o244_213, mcs_0, mcs_l, true_and, and_true, not_true_eq_false, not_false_eq_true, false_implies, forall_const, Nat.reduceLeDiff, Nat.reduceAdd, lt_le, Int32.reduceLT, kc22, Int32.reduceLT, c1, c2, c3, c4]
  refine m_pipeTextNow R7 cs7 (fun q t sb hsb f st => ?_)
  have Rq := Rl_Fn R7 f hsb hsb
  have sq := Sm_tr s7 (Sm_Fn R7 f hsb)
  have cq := Cs_Fx cs7 f (Nat.le_trans (Rl_z R7) hsb) (Nat.le_trans (Rl_z R7) hsb)
  obtain ⟨t1, t2, t3, v, t4, t5, t6, t7⟩ := st
  rw [(Sm_qv s7).2.2.2.1, (Sm_qv s7).2.2.2.2] at t7
  simp only [o244_216, o244_219, o244_220, o244_221, J_slen (v := v), mcs_0, mcs_l, Kn_v, true_and, Nat.reduceLeDiff, Nat.reduceAdd, t1, t3, t4, t5, t7]
  exact hQ q sq Rq cq

theorem ms_E0_0 {A : Nat → Nat} {d : Int64} {h0 m : MH} {Q : MR → MH → Prop} {bc bs : Nat} {a5 a6 a7 : Value} (sm : Sm A h0 m) (R : Rl A m) (hQ : ∀ q, Fr m q → Ok 244 232 [.ref (A 22), .long (dg1 d (g_i h0 (A 15) 4)), mk0, .int 0, .int 1, a5, a6, a7] [] q bc bs Q) : Ok 244 232 [.ref (A 22), .long (d), mk0, .int 0, .int 0, a5, a6, a7] [] m (bc + 1) (bs + 9) Q := by
  have R0 := R
  obtain ⟨vk, vcn, v0, v1, v2, vp, vl0, vl1, vlr, vsr, vc, tx⟩ := R0
  have vk0 := vk
  have vcn0 := vcn
  (refine K_el vk0 ?_; intros hA kc0 kc1 kc2 kc3 kc4 kc5 kc6 kc7 kc8 kc9 kc10 kc11 kc12 kc13 kc14 kc15 kc16 kc17 kc18 kc19 kc20 kc21 kc22 kc23 kc24 kc25 kc26 kc27 kc28 kc29 kc30 kc31 kc32 kc33 kc34 kc35 kc36 kc37 kc38 kc39 kz kt kn3 kn4 kn18 kn21 kn23 kn24 kn25 kn26 kn27 kn29 kn30 kr0_0 kr0_1 kr0_2 kr0_3 kr0_4 kr0_5 kr0_7 kr0_8 kr0_9 kr0_10 kr1_0 kr2_0 kr5_0 kr5_1 kr6_0 kr6_1 kr7_0 kr7_1 kr8_0 kr9_0 kr10_0 kr11_0 kr12_0 kr13_0 kr14_0 kr15_0 kr16_0 kr17_0 kr19_0 kr19_1 kr22_0 kr22_1 kr22_2 kr22_3 kr22_4 kr22_5 kr22_7 kr22_8 kr25_0 kr25_1 kr25_2 kr26_0 kr26_1 kr26_2 kr29_0 kr29_1)
  (refine Cn_el vcn0 ?_; intros ki5_2 ki6_2 ki7_2 ki8_1 ki8_2 ki8_3 ki9_1 ki9_2 ki9_3 ki10_1 ki10_2 ki10_3 ki11_1 ki11_2 ki11_3 ki12_1 ki12_2 ki12_3 ki13_1 ki13_2 ki13_3 ki14_1 ki14_2 ki14_3 ki28_0 ki28_1 ki31_0 ki31_1 ki32_0 ki32_1 ki33_0 ki33_1 ki34_0 ki34_1 ki35_0 ki35_1 ki36_0 ki36_1)
  have hAe : ∀ i j, i < 40 → j < 40 → (A i = A j ↔ i = j) := hA
  have b9 : (9 : Int32) = 9 := by decide
  have c1 : (1 ≤ bc + 1) = True := eq_true (by omega)
  have c2 : (9 ≤ bs + 9) = True := eq_true (by omega)
  have c3 : bc + 1 - 1 = bc := by omega
  have c4 : bs + 9 - 9 = bs := by omega
  (refine Sm_el sm ?_; intros i0 l0 i1 l1 i2 l2 i3 l3 i4 l4 i5 l5 i6 l6 i7 l7 i8 l8 i9 l9 i10 l10 i11 l11 i12 l12 i13 l13 i14 l14 i15 l15 i16 l16 i17 l17 i18 l18 i19 l19 i23 l23 i24 l24 i25 l25 i26 l26 i27 l27 i28 l28 i29 l29 i30 l30 i31 l31 i32 l32 i33 l33 i34 l34 i35 l35 i36 l36 i37 l37 i38 l38 i39 l39 i22)
  rw [o244_232]
  simp only [o244_234, o244_236, o244_239, o244_240, o244_243, o244_244, o244_245, o244_246, o244_248, mcs_0, mcs_l, true_and, not_true_eq_false, not_false_eq_true, false_implies, forall_const, Nat.reduceLeDiff, Nat.reduceAdd, lt_le, Int32.reduceLT, kc22, Int32.reduceLT, c1, c2, c3, c4]
  refine m_leX0_0 R (fun q f => ?_)
  simp only [o244_251, o244_252, o244_253, o244_254, o244_257, Kn_v, Int32.reduceAdd, i15]
  exact hQ q f

theorem ms_E0_1 {A : Nat → Nat} {d : Int64} {h0 m : MH} {Q : MR → MH → Prop} {bc bs : Nat} {a5 a6 a7 : Value} (sm : Sm A h0 m) (R : Rl A m) (hQ : ∀ q, Fr m q → Ok 244 232 [.ref (A 22), .long (dg1 d (g_i h0 (A 15) 5)), mk0, .int 0, .int 2, a5, a6, a7] [] q bc bs Q) : Ok 244 232 [.ref (A 22), .long (d), mk0, .int 0, .int 1, a5, a6, a7] [] m (bc + 1) (bs + 9) Q := by
  have R0 := R
  obtain ⟨vk, vcn, v0, v1, v2, vp, vl0, vl1, vlr, vsr, vc, tx⟩ := R0
  have vk0 := vk
  have vcn0 := vcn
  (refine K_el vk0 ?_; intros hA kc0 kc1 kc2 kc3 kc4 kc5 kc6 kc7 kc8 kc9 kc10 kc11 kc12 kc13 kc14 kc15 kc16 kc17 kc18 kc19 kc20 kc21 kc22 kc23 kc24 kc25 kc26 kc27 kc28 kc29 kc30 kc31 kc32 kc33 kc34 kc35 kc36 kc37 kc38 kc39 kz kt kn3 kn4 kn18 kn21 kn23 kn24 kn25 kn26 kn27 kn29 kn30 kr0_0 kr0_1 kr0_2 kr0_3 kr0_4 kr0_5 kr0_7 kr0_8 kr0_9 kr0_10 kr1_0 kr2_0 kr5_0 kr5_1 kr6_0 kr6_1 kr7_0 kr7_1 kr8_0 kr9_0 kr10_0 kr11_0 kr12_0 kr13_0 kr14_0 kr15_0 kr16_0 kr17_0 kr19_0 kr19_1 kr22_0 kr22_1 kr22_2 kr22_3 kr22_4 kr22_5 kr22_7 kr22_8 kr25_0 kr25_1 kr25_2 kr26_0 kr26_1 kr26_2 kr29_0 kr29_1)
  (refine Cn_el vcn0 ?_; intros ki5_2 ki6_2 ki7_2 ki8_1 ki8_2 ki8_3 ki9_1 ki9_2 ki9_3 ki10_1 ki10_2 ki10_3 ki11_1 ki11_2 ki11_3 ki12_1 ki12_2 ki12_3 ki13_1 ki13_2 ki13_3 ki14_1 ki14_2 ki14_3 ki28_0 ki28_1 ki31_0 ki31_1 ki32_0 ki32_1 ki33_0 ki33_1 ki34_0 ki34_1 ki35_0 ki35_1 ki36_0 ki36_1)
  have hAe : ∀ i j, i < 40 → j < 40 → (A i = A j ↔ i = j) := hA
  have b9 : (9 : Int32) = 9 := by decide
  have c1 : (1 ≤ bc + 1) = True := eq_true (by omega)
  have c2 : (9 ≤ bs + 9) = True := eq_true (by omega)
  have c3 : bc + 1 - 1 = bc := by omega
  have c4 : bs + 9 - 9 = bs := by omega
  (refine Sm_el sm ?_; intros i0 l0 i1 l1 i2 l2 i3 l3 i4 l4 i5 l5 i6 l6 i7 l7 i8 l8 i9 l9 i10 l10 i11 l11 i12 l12 i13 l13 i14 l14 i15 l15 i16 l16 i17 l17 i18 l18 i19 l19 i23 l23 i24 l24 i25 l25 i26 l26 i27 l27 i28 l28 i29 l29 i30 l30 i31 l31 i32 l32 i33 l33 i34 l34 i35 l35 i36 l36 i37 l37 i38 l38 i39 l39 i22)
  rw [o244_232]
  simp only [o244_234, o244_236, o244_239, o244_240, o244_243, o244_244, o244_245, o244_246, o244_248, mcs_0, mcs_l, true_and, not_true_eq_false, not_false_eq_true, false_implies, forall_const, Nat.reduceLeDiff, Nat.reduceAdd, lt_le, Int32.reduceLT, kc22, Int32.reduceLT, c1, c2, c3, c4]
  refine m_leX0_1 R (fun q f => ?_)
  simp only [o244_251, o244_252, o244_253, o244_254, o244_257, Kn_v, Int32.reduceAdd, i15]
  exact hQ q f

theorem ms_E0_2 {A : Nat → Nat} {d : Int64} {h0 m : MH} {Q : MR → MH → Prop} {bc bs : Nat} {a5 a6 a7 : Value} (sm : Sm A h0 m) (R : Rl A m) (hQ : ∀ q, Fr m q → Ok 244 232 [.ref (A 22), .long (dg1 d (g_i h0 (A 15) 2)), mk0, .int 0, .int 3, a5, a6, a7] [] q bc bs Q) : Ok 244 232 [.ref (A 22), .long (d), mk0, .int 0, .int 2, a5, a6, a7] [] m (bc + 1) (bs + 9) Q := by
  have R0 := R
  obtain ⟨vk, vcn, v0, v1, v2, vp, vl0, vl1, vlr, vsr, vc, tx⟩ := R0
  have vk0 := vk
  have vcn0 := vcn
  (refine K_el vk0 ?_; intros hA kc0 kc1 kc2 kc3 kc4 kc5 kc6 kc7 kc8 kc9 kc10 kc11 kc12 kc13 kc14 kc15 kc16 kc17 kc18 kc19 kc20 kc21 kc22 kc23 kc24 kc25 kc26 kc27 kc28 kc29 kc30 kc31 kc32 kc33 kc34 kc35 kc36 kc37 kc38 kc39 kz kt kn3 kn4 kn18 kn21 kn23 kn24 kn25 kn26 kn27 kn29 kn30 kr0_0 kr0_1 kr0_2 kr0_3 kr0_4 kr0_5 kr0_7 kr0_8 kr0_9 kr0_10 kr1_0 kr2_0 kr5_0 kr5_1 kr6_0 kr6_1 kr7_0 kr7_1 kr8_0 kr9_0 kr10_0 kr11_0 kr12_0 kr13_0 kr14_0 kr15_0 kr16_0 kr17_0 kr19_0 kr19_1 kr22_0 kr22_1 kr22_2 kr22_3 kr22_4 kr22_5 kr22_7 kr22_8 kr25_0 kr25_1 kr25_2 kr26_0 kr26_1 kr26_2 kr29_0 kr29_1)
  (refine Cn_el vcn0 ?_; intros ki5_2 ki6_2 ki7_2 ki8_1 ki8_2 ki8_3 ki9_1 ki9_2 ki9_3 ki10_1 ki10_2 ki10_3 ki11_1 ki11_2 ki11_3 ki12_1 ki12_2 ki12_3 ki13_1 ki13_2 ki13_3 ki14_1 ki14_2 ki14_3 ki28_0 ki28_1 ki31_0 ki31_1 ki32_0 ki32_1 ki33_0 ki33_1 ki34_0 ki34_1 ki35_0 ki35_1 ki36_0 ki36_1)
  have hAe : ∀ i j, i < 40 → j < 40 → (A i = A j ↔ i = j) := hA
  have b9 : (9 : Int32) = 9 := by decide
  have c1 : (1 ≤ bc + 1) = True := eq_true (by omega)
  have c2 : (9 ≤ bs + 9) = True := eq_true (by omega)
  have c3 : bc + 1 - 1 = bc := by omega
  have c4 : bs + 9 - 9 = bs := by omega
  (refine Sm_el sm ?_; intros i0 l0 i1 l1 i2 l2 i3 l3 i4 l4 i5 l5 i6 l6 i7 l7 i8 l8 i9 l9 i10 l10 i11 l11 i12 l12 i13 l13 i14 l14 i15 l15 i16 l16 i17 l17 i18 l18 i19 l19 i23 l23 i24 l24 i25 l25 i26 l26 i27 l27 i28 l28 i29 l29 i30 l30 i31 l31 i32 l32 i33 l33 i34 l34 i35 l35 i36 l36 i37 l37 i38 l38 i39 l39 i22)
  rw [o244_232]
  simp only [o244_234, o244_236, o244_239, o244_240, o244_243, o244_244, o244_245, o244_246, o244_248, mcs_0, mcs_l, true_and, not_true_eq_false, not_false_eq_true, false_implies, forall_const, Nat.reduceLeDiff, Nat.reduceAdd, lt_le, Int32.reduceLT, kc22, Int32.reduceLT, c1, c2, c3, c4]
  refine m_leX0_2 R (fun q f => ?_)
  simp only [o244_251, o244_252, o244_253, o244_254, o244_257, Kn_v, Int32.reduceAdd, i15]
  exact hQ q f

theorem ms_E0_3 {A : Nat → Nat} {d : Int64} {h0 m : MH} {Q : MR → MH → Prop} {bc bs : Nat} {a5 a6 a7 : Value} (sm : Sm A h0 m) (R : Rl A m) (hQ : ∀ q, Fr m q → Ok 244 232 [.ref (A 22), .long (dg1 d (g_i h0 (A 15) 5 - g_i h0 (A 15) 4)), mk0, .int 0, .int 4, a5, a6, a7] [] q bc bs Q) : Ok 244 232 [.ref (A 22), .long (d), mk0, .int 0, .int 3, a5, a6, a7] [] m (bc + 1) (bs + 9) Q := by
  have R0 := R
  obtain ⟨vk, vcn, v0, v1, v2, vp, vl0, vl1, vlr, vsr, vc, tx⟩ := R0
  have vk0 := vk
  have vcn0 := vcn
  (refine K_el vk0 ?_; intros hA kc0 kc1 kc2 kc3 kc4 kc5 kc6 kc7 kc8 kc9 kc10 kc11 kc12 kc13 kc14 kc15 kc16 kc17 kc18 kc19 kc20 kc21 kc22 kc23 kc24 kc25 kc26 kc27 kc28 kc29 kc30 kc31 kc32 kc33 kc34 kc35 kc36 kc37 kc38 kc39 kz kt kn3 kn4 kn18 kn21 kn23 kn24 kn25 kn26 kn27 kn29 kn30 kr0_0 kr0_1 kr0_2 kr0_3 kr0_4 kr0_5 kr0_7 kr0_8 kr0_9 kr0_10 kr1_0 kr2_0 kr5_0 kr5_1 kr6_0 kr6_1 kr7_0 kr7_1 kr8_0 kr9_0 kr10_0 kr11_0 kr12_0 kr13_0 kr14_0 kr15_0 kr16_0 kr17_0 kr19_0 kr19_1 kr22_0 kr22_1 kr22_2 kr22_3 kr22_4 kr22_5 kr22_7 kr22_8 kr25_0 kr25_1 kr25_2 kr26_0 kr26_1 kr26_2 kr29_0 kr29_1)
  (refine Cn_el vcn0 ?_; intros ki5_2 ki6_2 ki7_2 ki8_1 ki8_2 ki8_3 ki9_1 ki9_2 ki9_3 ki10_1 ki10_2 ki10_3 ki11_1 ki11_2 ki11_3 ki12_1 ki12_2 ki12_3 ki13_1 ki13_2 ki13_3 ki14_1 ki14_2 ki14_3 ki28_0 ki28_1 ki31_0 ki31_1 ki32_0 ki32_1 ki33_0 ki33_1 ki34_0 ki34_1 ki35_0 ki35_1 ki36_0 ki36_1)
  have hAe : ∀ i j, i < 40 → j < 40 → (A i = A j ↔ i = j) := hA
  have b9 : (9 : Int32) = 9 := by decide
  have c1 : (1 ≤ bc + 1) = True := eq_true (by omega)
  have c2 : (9 ≤ bs + 9) = True := eq_true (by omega)
  have c3 : bc + 1 - 1 = bc := by omega
  have c4 : bs + 9 - 9 = bs := by omega
  (refine Sm_el sm ?_; intros i0 l0 i1 l1 i2 l2 i3 l3 i4 l4 i5 l5 i6 l6 i7 l7 i8 l8 i9 l9 i10 l10 i11 l11 i12 l12 i13 l13 i14 l14 i15 l15 i16 l16 i17 l17 i18 l18 i19 l19 i23 l23 i24 l24 i25 l25 i26 l26 i27 l27 i28 l28 i29 l29 i30 l30 i31 l31 i32 l32 i33 l33 i34 l34 i35 l35 i36 l36 i37 l37 i38 l38 i39 l39 i22)
  rw [o244_232]
  simp only [o244_234, o244_236, o244_239, o244_240, o244_243, o244_244, o244_245, o244_246, o244_248, mcs_0, mcs_l, true_and, not_true_eq_false, not_false_eq_true, false_implies, forall_const, Nat.reduceLeDiff, Nat.reduceAdd, lt_le, Int32.reduceLT, kc22, Int32.reduceLT, c1, c2, c3, c4]
  refine m_leX0_3 R (fun q f => ?_)
  simp only [o244_251, o244_252, o244_253, o244_254, o244_257, Kn_v, Int32.reduceAdd, i15]
  exact hQ q f

theorem ms_E0_4 {A : Nat → Nat} {d : Int64} {h0 m : MH} {Q : MR → MH → Prop} {bc bs : Nat} {a5 a6 a7 : Value} (sm : Sm A h0 m) (R : Rl A m) (hQ : ∀ q, Fr m q → Ok 244 232 [.ref (A 22), .long (dg1 d (g_i h0 (A 15) 6)), mk0, .int 0, .int 5, a5, a6, a7] [] q bc bs Q) : Ok 244 232 [.ref (A 22), .long (d), mk0, .int 0, .int 4, a5, a6, a7] [] m (bc + 1) (bs + 9) Q := by
  have R0 := R
  obtain ⟨vk, vcn, v0, v1, v2, vp, vl0, vl1, vlr, vsr, vc, tx⟩ := R0
  have vk0 := vk
  have vcn0 := vcn
  (refine K_el vk0 ?_; intros hA kc0 kc1 kc2 kc3 kc4 kc5 kc6 kc7 kc8 kc9 kc10 kc11 kc12 kc13 kc14 kc15 kc16 kc17 kc18 kc19 kc20 kc21 kc22 kc23 kc24 kc25 kc26 kc27 kc28 kc29 kc30 kc31 kc32 kc33 kc34 kc35 kc36 kc37 kc38 kc39 kz kt kn3 kn4 kn18 kn21 kn23 kn24 kn25 kn26 kn27 kn29 kn30 kr0_0 kr0_1 kr0_2 kr0_3 kr0_4 kr0_5 kr0_7 kr0_8 kr0_9 kr0_10 kr1_0 kr2_0 kr5_0 kr5_1 kr6_0 kr6_1 kr7_0 kr7_1 kr8_0 kr9_0 kr10_0 kr11_0 kr12_0 kr13_0 kr14_0 kr15_0 kr16_0 kr17_0 kr19_0 kr19_1 kr22_0 kr22_1 kr22_2 kr22_3 kr22_4 kr22_5 kr22_7 kr22_8 kr25_0 kr25_1 kr25_2 kr26_0 kr26_1 kr26_2 kr29_0 kr29_1)
  (refine Cn_el vcn0 ?_; intros ki5_2 ki6_2 ki7_2 ki8_1 ki8_2 ki8_3 ki9_1 ki9_2 ki9_3 ki10_1 ki10_2 ki10_3 ki11_1 ki11_2 ki11_3 ki12_1 ki12_2 ki12_3 ki13_1 ki13_2 ki13_3 ki14_1 ki14_2 ki14_3 ki28_0 ki28_1 ki31_0 ki31_1 ki32_0 ki32_1 ki33_0 ki33_1 ki34_0 ki34_1 ki35_0 ki35_1 ki36_0 ki36_1)
  have hAe : ∀ i j, i < 40 → j < 40 → (A i = A j ↔ i = j) := hA
  have b9 : (9 : Int32) = 9 := by decide
  have c1 : (1 ≤ bc + 1) = True := eq_true (by omega)
  have c2 : (9 ≤ bs + 9) = True := eq_true (by omega)
  have c3 : bc + 1 - 1 = bc := by omega
  have c4 : bs + 9 - 9 = bs := by omega
  (refine Sm_el sm ?_; intros i0 l0 i1 l1 i2 l2 i3 l3 i4 l4 i5 l5 i6 l6 i7 l7 i8 l8 i9 l9 i10 l10 i11 l11 i12 l12 i13 l13 i14 l14 i15 l15 i16 l16 i17 l17 i18 l18 i19 l19 i23 l23 i24 l24 i25 l25 i26 l26 i27 l27 i28 l28 i29 l29 i30 l30 i31 l31 i32 l32 i33 l33 i34 l34 i35 l35 i36 l36 i37 l37 i38 l38 i39 l39 i22)
  rw [o244_232]
  simp only [o244_234, o244_236, o244_239, o244_240, o244_243, o244_244, o244_245, o244_246, o244_248, mcs_0, mcs_l, true_and, not_true_eq_false, not_false_eq_true, false_implies, forall_const, Nat.reduceLeDiff, Nat.reduceAdd, lt_le, Int32.reduceLT, kc22, Int32.reduceLT, c1, c2, c3, c4]
  refine m_leX0_4 R (fun q f => ?_)
  simp only [o244_251, o244_252, o244_253, o244_254, o244_257, Kn_v, Int32.reduceAdd, i15]
  exact hQ q f

theorem ms_E0_5 {A : Nat → Nat} {d : Int64} {h0 m : MH} {Q : MR → MH → Prop} {bc bs : Nat} {a5 a6 a7 : Value} (sm : Sm A h0 m) (R : Rl A m) (hQ : ∀ q, Fr m q → Ok 244 232 [.ref (A 22), .long (dg1 d (if g_i h0 (A 15) 3 = 0 then 0 else 1)), mk0, .int 0, .int 6, a5, a6, a7] [] q bc bs Q) : Ok 244 232 [.ref (A 22), .long (d), mk0, .int 0, .int 5, a5, a6, a7] [] m (bc + 1) (bs + 9) Q := by
  have R0 := R
  obtain ⟨vk, vcn, v0, v1, v2, vp, vl0, vl1, vlr, vsr, vc, tx⟩ := R0
  have vk0 := vk
  have vcn0 := vcn
  (refine K_el vk0 ?_; intros hA kc0 kc1 kc2 kc3 kc4 kc5 kc6 kc7 kc8 kc9 kc10 kc11 kc12 kc13 kc14 kc15 kc16 kc17 kc18 kc19 kc20 kc21 kc22 kc23 kc24 kc25 kc26 kc27 kc28 kc29 kc30 kc31 kc32 kc33 kc34 kc35 kc36 kc37 kc38 kc39 kz kt kn3 kn4 kn18 kn21 kn23 kn24 kn25 kn26 kn27 kn29 kn30 kr0_0 kr0_1 kr0_2 kr0_3 kr0_4 kr0_5 kr0_7 kr0_8 kr0_9 kr0_10 kr1_0 kr2_0 kr5_0 kr5_1 kr6_0 kr6_1 kr7_0 kr7_1 kr8_0 kr9_0 kr10_0 kr11_0 kr12_0 kr13_0 kr14_0 kr15_0 kr16_0 kr17_0 kr19_0 kr19_1 kr22_0 kr22_1 kr22_2 kr22_3 kr22_4 kr22_5 kr22_7 kr22_8 kr25_0 kr25_1 kr25_2 kr26_0 kr26_1 kr26_2 kr29_0 kr29_1)
  (refine Cn_el vcn0 ?_; intros ki5_2 ki6_2 ki7_2 ki8_1 ki8_2 ki8_3 ki9_1 ki9_2 ki9_3 ki10_1 ki10_2 ki10_3 ki11_1 ki11_2 ki11_3 ki12_1 ki12_2 ki12_3 ki13_1 ki13_2 ki13_3 ki14_1 ki14_2 ki14_3 ki28_0 ki28_1 ki31_0 ki31_1 ki32_0 ki32_1 ki33_0 ki33_1 ki34_0 ki34_1 ki35_0 ki35_1 ki36_0 ki36_1)
  have hAe : ∀ i j, i < 40 → j < 40 → (A i = A j ↔ i = j) := hA
  have b9 : (9 : Int32) = 9 := by decide
  have c1 : (1 ≤ bc + 1) = True := eq_true (by omega)
  have c2 : (9 ≤ bs + 9) = True := eq_true (by omega)
  have c3 : bc + 1 - 1 = bc := by omega
  have c4 : bs + 9 - 9 = bs := by omega
  (refine Sm_el sm ?_; intros i0 l0 i1 l1 i2 l2 i3 l3 i4 l4 i5 l5 i6 l6 i7 l7 i8 l8 i9 l9 i10 l10 i11 l11 i12 l12 i13 l13 i14 l14 i15 l15 i16 l16 i17 l17 i18 l18 i19 l19 i23 l23 i24 l24 i25 l25 i26 l26 i27 l27 i28 l28 i29 l29 i30 l30 i31 l31 i32 l32 i33 l33 i34 l34 i35 l35 i36 l36 i37 l37 i38 l38 i39 l39 i22)
  rw [o244_232]
  simp only [o244_234, o244_236, o244_239, o244_240, o244_243, o244_244, o244_245, o244_246, o244_248, mcs_0, mcs_l, true_and, not_true_eq_false, not_false_eq_true, false_implies, forall_const, Nat.reduceLeDiff, Nat.reduceAdd, lt_le, Int32.reduceLT, kc22, Int32.reduceLT, c1, c2, c3, c4]
  refine m_leX0_5 R (fun q f => ?_)
  simp only [o244_251, o244_252, o244_253, o244_254, o244_257, Kn_v, Int32.reduceAdd, i15]
  exact hQ q f

theorem ms_E0_6 {A : Nat → Nat} {d : Int64} {h0 m : MH} {Q : MR → MH → Prop} {bc bs : Nat} {a5 a6 a7 : Value} (sm : Sm A h0 m) (R : Rl A m) (hQ : ∀ q, Fr m q → Ok 244 232 [.ref (A 22), .long (dg1 d (if g_i h0 (A 15) 3 = 0 then 1 else 0)), mk0, .int 0, .int 7, a5, a6, a7] [] q bc bs Q) : Ok 244 232 [.ref (A 22), .long (d), mk0, .int 0, .int 6, a5, a6, a7] [] m (bc + 1) (bs + 9) Q := by
  have R0 := R
  obtain ⟨vk, vcn, v0, v1, v2, vp, vl0, vl1, vlr, vsr, vc, tx⟩ := R0
  have vk0 := vk
  have vcn0 := vcn
  (refine K_el vk0 ?_; intros hA kc0 kc1 kc2 kc3 kc4 kc5 kc6 kc7 kc8 kc9 kc10 kc11 kc12 kc13 kc14 kc15 kc16 kc17 kc18 kc19 kc20 kc21 kc22 kc23 kc24 kc25 kc26 kc27 kc28 kc29 kc30 kc31 kc32 kc33 kc34 kc35 kc36 kc37 kc38 kc39 kz kt kn3 kn4 kn18 kn21 kn23 kn24 kn25 kn26 kn27 kn29 kn30 kr0_0 kr0_1 kr0_2 kr0_3 kr0_4 kr0_5 kr0_7 kr0_8 kr0_9 kr0_10 kr1_0 kr2_0 kr5_0 kr5_1 kr6_0 kr6_1 kr7_0 kr7_1 kr8_0 kr9_0 kr10_0 kr11_0 kr12_0 kr13_0 kr14_0 kr15_0 kr16_0 kr17_0 kr19_0 kr19_1 kr22_0 kr22_1 kr22_2 kr22_3 kr22_4 kr22_5 kr22_7 kr22_8 kr25_0 kr25_1 kr25_2 kr26_0 kr26_1 kr26_2 kr29_0 kr29_1)
  (refine Cn_el vcn0 ?_; intros ki5_2 ki6_2 ki7_2 ki8_1 ki8_2 ki8_3 ki9_1 ki9_2 ki9_3 ki10_1 ki10_2 ki10_3 ki11_1 ki11_2 ki11_3 ki12_1 ki12_2 ki12_3 ki13_1 ki13_2 ki13_3 ki14_1 ki14_2 ki14_3 ki28_0 ki28_1 ki31_0 ki31_1 ki32_0 ki32_1 ki33_0 ki33_1 ki34_0 ki34_1 ki35_0 ki35_1 ki36_0 ki36_1)
  have hAe : ∀ i j, i < 40 → j < 40 → (A i = A j ↔ i = j) := hA
  have b9 : (9 : Int32) = 9 := by decide
  have c1 : (1 ≤ bc + 1) = True := eq_true (by omega)
  have c2 : (9 ≤ bs + 9) = True := eq_true (by omega)
  have c3 : bc + 1 - 1 = bc := by omega
  have c4 : bs + 9 - 9 = bs := by omega
  (refine Sm_el sm ?_; intros i0 l0 i1 l1 i2 l2 i3 l3 i4 l4 i5 l5 i6 l6 i7 l7 i8 l8 i9 l9 i10 l10 i11 l11 i12 l12 i13 l13 i14 l14 i15 l15 i16 l16 i17 l17 i18 l18 i19 l19 i23 l23 i24 l24 i25 l25 i26 l26 i27 l27 i28 l28 i29 l29 i30 l30 i31 l31 i32 l32 i33 l33 i34 l34 i35 l35 i36 l36 i37 l37 i38 l38 i39 l39 i22)
  rw [o244_232]
  simp only [o244_234, o244_236, o244_239, o244_240, o244_243, o244_244, o244_245, o244_246, o244_248, mcs_0, mcs_l, true_and, not_true_eq_false, not_false_eq_true, false_implies, forall_const, Nat.reduceLeDiff, Nat.reduceAdd, lt_le, Int32.reduceLT, kc22, Int32.reduceLT, c1, c2, c3, c4]
  refine m_leX0_6 R (fun q f => ?_)
  simp only [o244_251, o244_252, o244_253, o244_254, o244_257, Kn_v, Int32.reduceAdd, i15]
  exact hQ q f

theorem ms_E0_7 {A : Nat → Nat} {d : Int64} {h0 m : MH} {Q : MR → MH → Prop} {bc bs : Nat} {a5 a6 a7 : Value} (sm : Sm A h0 m) (R : Rl A m) (hQ : ∀ q, Fr m q → Ok 244 232 [.ref (A 22), .long (dg1 d (0)), mk0, .int 0, .int 8, a5, a6, a7] [] q bc bs Q) : Ok 244 232 [.ref (A 22), .long (d), mk0, .int 0, .int 7, a5, a6, a7] [] m (bc + 1) (bs + 9) Q := by
  have R0 := R
  obtain ⟨vk, vcn, v0, v1, v2, vp, vl0, vl1, vlr, vsr, vc, tx⟩ := R0
  have vk0 := vk
  have vcn0 := vcn
  (refine K_el vk0 ?_; intros hA kc0 kc1 kc2 kc3 kc4 kc5 kc6 kc7 kc8 kc9 kc10 kc11 kc12 kc13 kc14 kc15 kc16 kc17 kc18 kc19 kc20 kc21 kc22 kc23 kc24 kc25 kc26 kc27 kc28 kc29 kc30 kc31 kc32 kc33 kc34 kc35 kc36 kc37 kc38 kc39 kz kt kn3 kn4 kn18 kn21 kn23 kn24 kn25 kn26 kn27 kn29 kn30 kr0_0 kr0_1 kr0_2 kr0_3 kr0_4 kr0_5 kr0_7 kr0_8 kr0_9 kr0_10 kr1_0 kr2_0 kr5_0 kr5_1 kr6_0 kr6_1 kr7_0 kr7_1 kr8_0 kr9_0 kr10_0 kr11_0 kr12_0 kr13_0 kr14_0 kr15_0 kr16_0 kr17_0 kr19_0 kr19_1 kr22_0 kr22_1 kr22_2 kr22_3 kr22_4 kr22_5 kr22_7 kr22_8 kr25_0 kr25_1 kr25_2 kr26_0 kr26_1 kr26_2 kr29_0 kr29_1)
  (refine Cn_el vcn0 ?_; intros ki5_2 ki6_2 ki7_2 ki8_1 ki8_2 ki8_3 ki9_1 ki9_2 ki9_3 ki10_1 ki10_2 ki10_3 ki11_1 ki11_2 ki11_3 ki12_1 ki12_2 ki12_3 ki13_1 ki13_2 ki13_3 ki14_1 ki14_2 ki14_3 ki28_0 ki28_1 ki31_0 ki31_1 ki32_0 ki32_1 ki33_0 ki33_1 ki34_0 ki34_1 ki35_0 ki35_1 ki36_0 ki36_1)
  have hAe : ∀ i j, i < 40 → j < 40 → (A i = A j ↔ i = j) := hA
  have b9 : (9 : Int32) = 9 := by decide
  have c1 : (1 ≤ bc + 1) = True := eq_true (by omega)
  have c2 : (9 ≤ bs + 9) = True := eq_true (by omega)
  have c3 : bc + 1 - 1 = bc := by omega
  have c4 : bs + 9 - 9 = bs := by omega
  (refine Sm_el sm ?_; intros i0 l0 i1 l1 i2 l2 i3 l3 i4 l4 i5 l5 i6 l6 i7 l7 i8 l8 i9 l9 i10 l10 i11 l11 i12 l12 i13 l13 i14 l14 i15 l15 i16 l16 i17 l17 i18 l18 i19 l19 i23 l23 i24 l24 i25 l25 i26 l26 i27 l27 i28 l28 i29 l29 i30 l30 i31 l31 i32 l32 i33 l33 i34 l34 i35 l35 i36 l36 i37 l37 i38 l38 i39 l39 i22)
  rw [o244_232]
  simp only [o244_234, o244_236, o244_239, o244_240, o244_243, o244_244, o244_245, o244_246, o244_248, mcs_0, mcs_l, true_and, not_true_eq_false, not_false_eq_true, false_implies, forall_const, Nat.reduceLeDiff, Nat.reduceAdd, lt_le, Int32.reduceLT, kc22, Int32.reduceLT, c1, c2, c3, c4]
  refine m_leX0_7 R (fun q f => ?_)
  simp only [o244_251, o244_252, o244_253, o244_254, o244_257, Kn_v, Int32.reduceAdd]
  exact hQ q f

theorem ms_E0_8 {A : Nat → Nat} {d : Int64} {h0 m : MH} {Q : MR → MH → Prop} {bc bs : Nat} {a5 a6 a7 : Value} (sm : Sm A h0 m) (R : Rl A m) (hQ : ∀ q, Fr m q → Ok 244 232 [.ref (A 22), .long (dg1 d (if g_i h0 (A 15) 3 = 0 then g_i h0 (A 15) 1 else -1)), mk0, .int 0, .int 9, a5, a6, a7] [] q bc bs Q) : Ok 244 232 [.ref (A 22), .long (d), mk0, .int 0, .int 8, a5, a6, a7] [] m (bc + 1) (bs + 9) Q := by
  have R0 := R
  obtain ⟨vk, vcn, v0, v1, v2, vp, vl0, vl1, vlr, vsr, vc, tx⟩ := R0
  have vk0 := vk
  have vcn0 := vcn
  (refine K_el vk0 ?_; intros hA kc0 kc1 kc2 kc3 kc4 kc5 kc6 kc7 kc8 kc9 kc10 kc11 kc12 kc13 kc14 kc15 kc16 kc17 kc18 kc19 kc20 kc21 kc22 kc23 kc24 kc25 kc26 kc27 kc28 kc29 kc30 kc31 kc32 kc33 kc34 kc35 kc36 kc37 kc38 kc39 kz kt kn3 kn4 kn18 kn21 kn23 kn24 kn25 kn26 kn27 kn29 kn30 kr0_0 kr0_1 kr0_2 kr0_3 kr0_4 kr0_5 kr0_7 kr0_8 kr0_9 kr0_10 kr1_0 kr2_0 kr5_0 kr5_1 kr6_0 kr6_1 kr7_0 kr7_1 kr8_0 kr9_0 kr10_0 kr11_0 kr12_0 kr13_0 kr14_0 kr15_0 kr16_0 kr17_0 kr19_0 kr19_1 kr22_0 kr22_1 kr22_2 kr22_3 kr22_4 kr22_5 kr22_7 kr22_8 kr25_0 kr25_1 kr25_2 kr26_0 kr26_1 kr26_2 kr29_0 kr29_1)
  (refine Cn_el vcn0 ?_; intros ki5_2 ki6_2 ki7_2 ki8_1 ki8_2 ki8_3 ki9_1 ki9_2 ki9_3 ki10_1 ki10_2 ki10_3 ki11_1 ki11_2 ki11_3 ki12_1 ki12_2 ki12_3 ki13_1 ki13_2 ki13_3 ki14_1 ki14_2 ki14_3 ki28_0 ki28_1 ki31_0 ki31_1 ki32_0 ki32_1 ki33_0 ki33_1 ki34_0 ki34_1 ki35_0 ki35_1 ki36_0 ki36_1)
  have hAe : ∀ i j, i < 40 → j < 40 → (A i = A j ↔ i = j) := hA
  have b9 : (9 : Int32) = 9 := by decide
  have c1 : (1 ≤ bc + 1) = True := eq_true (by omega)
  have c2 : (9 ≤ bs + 9) = True := eq_true (by omega)
  have c3 : bc + 1 - 1 = bc := by omega
  have c4 : bs + 9 - 9 = bs := by omega
  (refine Sm_el sm ?_; intros i0 l0 i1 l1 i2 l2 i3 l3 i4 l4 i5 l5 i6 l6 i7 l7 i8 l8 i9 l9 i10 l10 i11 l11 i12 l12 i13 l13 i14 l14 i15 l15 i16 l16 i17 l17 i18 l18 i19 l19 i23 l23 i24 l24 i25 l25 i26 l26 i27 l27 i28 l28 i29 l29 i30 l30 i31 l31 i32 l32 i33 l33 i34 l34 i35 l35 i36 l36 i37 l37 i38 l38 i39 l39 i22)
  rw [o244_232]
  simp only [o244_234, o244_236, o244_239, o244_240, o244_243, o244_244, o244_245, o244_246, o244_248, mcs_0, mcs_l, true_and, not_true_eq_false, not_false_eq_true, false_implies, forall_const, Nat.reduceLeDiff, Nat.reduceAdd, lt_le, Int32.reduceLT, kc22, Int32.reduceLT, c1, c2, c3, c4]
  refine m_leX0_8 R (fun q f => ?_)
  simp only [o244_251, o244_252, o244_253, o244_254, o244_257, Kn_v, Int32.reduceAdd, i15]
  exact hQ q f

theorem ms_E1_0 {A : Nat → Nat} {d : Int64} {h0 m : MH} {Q : MR → MH → Prop} {bc bs : Nat} {a5 a6 a7 : Value} (sm : Sm A h0 m) (R : Rl A m) (hQ : ∀ q, Fr m q → Ok 244 232 [.ref (A 22), .long (dg1 d (g_i h0 (A 16) 4)), mk0, .int 1, .int 1, a5, a6, a7] [] q bc bs Q) : Ok 244 232 [.ref (A 22), .long (d), mk0, .int 1, .int 0, a5, a6, a7] [] m (bc + 1) (bs + 9) Q := by
  have R0 := R
  obtain ⟨vk, vcn, v0, v1, v2, vp, vl0, vl1, vlr, vsr, vc, tx⟩ := R0
  have vk0 := vk
  have vcn0 := vcn
  (refine K_el vk0 ?_; intros hA kc0 kc1 kc2 kc3 kc4 kc5 kc6 kc7 kc8 kc9 kc10 kc11 kc12 kc13 kc14 kc15 kc16 kc17 kc18 kc19 kc20 kc21 kc22 kc23 kc24 kc25 kc26 kc27 kc28 kc29 kc30 kc31 kc32 kc33 kc34 kc35 kc36 kc37 kc38 kc39 kz kt kn3 kn4 kn18 kn21 kn23 kn24 kn25 kn26 kn27 kn29 kn30 kr0_0 kr0_1 kr0_2 kr0_3 kr0_4 kr0_5 kr0_7 kr0_8 kr0_9 kr0_10 kr1_0 kr2_0 kr5_0 kr5_1 kr6_0 kr6_1 kr7_0 kr7_1 kr8_0 kr9_0 kr10_0 kr11_0 kr12_0 kr13_0 kr14_0 kr15_0 kr16_0 kr17_0 kr19_0 kr19_1 kr22_0 kr22_1 kr22_2 kr22_3 kr22_4 kr22_5 kr22_7 kr22_8 kr25_0 kr25_1 kr25_2 kr26_0 kr26_1 kr26_2 kr29_0 kr29_1)
  (refine Cn_el vcn0 ?_; intros ki5_2 ki6_2 ki7_2 ki8_1 ki8_2 ki8_3 ki9_1 ki9_2 ki9_3 ki10_1 ki10_2 ki10_3 ki11_1 ki11_2 ki11_3 ki12_1 ki12_2 ki12_3 ki13_1 ki13_2 ki13_3 ki14_1 ki14_2 ki14_3 ki28_0 ki28_1 ki31_0 ki31_1 ki32_0 ki32_1 ki33_0 ki33_1 ki34_0 ki34_1 ki35_0 ki35_1 ki36_0 ki36_1)
  have hAe : ∀ i j, i < 40 → j < 40 → (A i = A j ↔ i = j) := hA
  have b9 : (9 : Int32) = 9 := by decide
  have c1 : (1 ≤ bc + 1) = True := eq_true (by omega)
  have c2 : (9 ≤ bs + 9) = True := eq_true (by omega)
  have c3 : bc + 1 - 1 = bc := by omega
  have c4 : bs + 9 - 9 = bs := by omega
  (refine Sm_el sm ?_; intros i0 l0 i1 l1 i2 l2 i3 l3 i4 l4 i5 l5 i6 l6 i7 l7 i8 l8 i9 l9 i10 l10 i11 l11 i12 l12 i13 l13 i14 l14 i15 l15 i16 l16 i17 l17 i18 l18 i19 l19 i23 l23 i24 l24 i25 l25 i26 l26 i27 l27 i28 l28 i29 l29 i30 l30 i31 l31 i32 l32 i33 l33 i34 l34 i35 l35 i36 l36 i37 l37 i38 l38 i39 l39 i22)
  rw [o244_232]
  simp only [o244_234, o244_236, o244_239, o244_240, o244_243, o244_244, o244_245, o244_246, o244_248, mcs_0, mcs_l, true_and, not_true_eq_false, not_false_eq_true, false_implies, forall_const, Nat.reduceLeDiff, Nat.reduceAdd, lt_le, Int32.reduceLT, kc22, Int32.reduceLT, c1, c2, c3, c4]
  refine m_leX1_0 R (fun q f => ?_)
  simp only [o244_251, o244_252, o244_253, o244_254, o244_257, Kn_v, Int32.reduceAdd, i16]
  exact hQ q f

theorem ms_E1_1 {A : Nat → Nat} {d : Int64} {h0 m : MH} {Q : MR → MH → Prop} {bc bs : Nat} {a5 a6 a7 : Value} (sm : Sm A h0 m) (R : Rl A m) (hQ : ∀ q, Fr m q → Ok 244 232 [.ref (A 22), .long (dg1 d (g_i h0 (A 16) 5)), mk0, .int 1, .int 2, a5, a6, a7] [] q bc bs Q) : Ok 244 232 [.ref (A 22), .long (d), mk0, .int 1, .int 1, a5, a6, a7] [] m (bc + 1) (bs + 9) Q := by
  have R0 := R
  obtain ⟨vk, vcn, v0, v1, v2, vp, vl0, vl1, vlr, vsr, vc, tx⟩ := R0
  have vk0 := vk
  have vcn0 := vcn
  (refine K_el vk0 ?_; intros hA kc0 kc1 kc2 kc3 kc4 kc5 kc6 kc7 kc8 kc9 kc10 kc11 kc12 kc13 kc14 kc15 kc16 kc17 kc18 kc19 kc20 kc21 kc22 kc23 kc24 kc25 kc26 kc27 kc28 kc29 kc30 kc31 kc32 kc33 kc34 kc35 kc36 kc37 kc38 kc39 kz kt kn3 kn4 kn18 kn21 kn23 kn24 kn25 kn26 kn27 kn29 kn30 kr0_0 kr0_1 kr0_2 kr0_3 kr0_4 kr0_5 kr0_7 kr0_8 kr0_9 kr0_10 kr1_0 kr2_0 kr5_0 kr5_1 kr6_0 kr6_1 kr7_0 kr7_1 kr8_0 kr9_0 kr10_0 kr11_0 kr12_0 kr13_0 kr14_0 kr15_0 kr16_0 kr17_0 kr19_0 kr19_1 kr22_0 kr22_1 kr22_2 kr22_3 kr22_4 kr22_5 kr22_7 kr22_8 kr25_0 kr25_1 kr25_2 kr26_0 kr26_1 kr26_2 kr29_0 kr29_1)
  (refine Cn_el vcn0 ?_; intros ki5_2 ki6_2 ki7_2 ki8_1 ki8_2 ki8_3 ki9_1 ki9_2 ki9_3 ki10_1 ki10_2 ki10_3 ki11_1 ki11_2 ki11_3 ki12_1 ki12_2 ki12_3 ki13_1 ki13_2 ki13_3 ki14_1 ki14_2 ki14_3 ki28_0 ki28_1 ki31_0 ki31_1 ki32_0 ki32_1 ki33_0 ki33_1 ki34_0 ki34_1 ki35_0 ki35_1 ki36_0 ki36_1)
  have hAe : ∀ i j, i < 40 → j < 40 → (A i = A j ↔ i = j) := hA
  have b9 : (9 : Int32) = 9 := by decide
  have c1 : (1 ≤ bc + 1) = True := eq_true (by omega)
  have c2 : (9 ≤ bs + 9) = True := eq_true (by omega)
  have c3 : bc + 1 - 1 = bc := by omega
  have c4 : bs + 9 - 9 = bs := by omega
  (refine Sm_el sm ?_; intros i0 l0 i1 l1 i2 l2 i3 l3 i4 l4 i5 l5 i6 l6 i7 l7 i8 l8 i9 l9 i10 l10 i11 l11 i12 l12 i13 l13 i14 l14 i15 l15 i16 l16 i17 l17 i18 l18 i19 l19 i23 l23 i24 l24 i25 l25 i26 l26 i27 l27 i28 l28 i29 l29 i30 l30 i31 l31 i32 l32 i33 l33 i34 l34 i35 l35 i36 l36 i37 l37 i38 l38 i39 l39 i22)
  rw [o244_232]
  simp only [o244_234, o244_236, o244_239, o244_240, o244_243, o244_244, o244_245, o244_246, o244_248, mcs_0, mcs_l, true_and, not_true_eq_false, not_false_eq_true, false_implies, forall_const, Nat.reduceLeDiff, Nat.reduceAdd, lt_le, Int32.reduceLT, kc22, Int32.reduceLT, c1, c2, c3, c4]
  refine m_leX1_1 R (fun q f => ?_)
  simp only [o244_251, o244_252, o244_253, o244_254, o244_257, Kn_v, Int32.reduceAdd, i16]
  exact hQ q f

theorem ms_E1_2 {A : Nat → Nat} {d : Int64} {h0 m : MH} {Q : MR → MH → Prop} {bc bs : Nat} {a5 a6 a7 : Value} (sm : Sm A h0 m) (R : Rl A m) (hQ : ∀ q, Fr m q → Ok 244 232 [.ref (A 22), .long (dg1 d (g_i h0 (A 16) 2)), mk0, .int 1, .int 3, a5, a6, a7] [] q bc bs Q) : Ok 244 232 [.ref (A 22), .long (d), mk0, .int 1, .int 2, a5, a6, a7] [] m (bc + 1) (bs + 9) Q := by
  have R0 := R
  obtain ⟨vk, vcn, v0, v1, v2, vp, vl0, vl1, vlr, vsr, vc, tx⟩ := R0
  have vk0 := vk
  have vcn0 := vcn
  (refine K_el vk0 ?_; intros hA kc0 kc1 kc2 kc3 kc4 kc5 kc6 kc7 kc8 kc9 kc10 kc11 kc12 kc13 kc14 kc15 kc16 kc17 kc18 kc19 kc20 kc21 kc22 kc23 kc24 kc25 kc26 kc27 kc28 kc29 kc30 kc31 kc32 kc33 kc34 kc35 kc36 kc37 kc38 kc39 kz kt kn3 kn4 kn18 kn21 kn23 kn24 kn25 kn26 kn27 kn29 kn30 kr0_0 kr0_1 kr0_2 kr0_3 kr0_4 kr0_5 kr0_7 kr0_8 kr0_9 kr0_10 kr1_0 kr2_0 kr5_0 kr5_1 kr6_0 kr6_1 kr7_0 kr7_1 kr8_0 kr9_0 kr10_0 kr11_0 kr12_0 kr13_0 kr14_0 kr15_0 kr16_0 kr17_0 kr19_0 kr19_1 kr22_0 kr22_1 kr22_2 kr22_3 kr22_4 kr22_5 kr22_7 kr22_8 kr25_0 kr25_1 kr25_2 kr26_0 kr26_1 kr26_2 kr29_0 kr29_1)
  (refine Cn_el vcn0 ?_; intros ki5_2 ki6_2 ki7_2 ki8_1 ki8_2 ki8_3 ki9_1 ki9_2 ki9_3 ki10_1 ki10_2 ki10_3 ki11_1 ki11_2 ki11_3 ki12_1 ki12_2 ki12_3 ki13_1 ki13_2 ki13_3 ki14_1 ki14_2 ki14_3 ki28_0 ki28_1 ki31_0 ki31_1 ki32_0 ki32_1 ki33_0 ki33_1 ki34_0 ki34_1 ki35_0 ki35_1 ki36_0 ki36_1)
  have hAe : ∀ i j, i < 40 → j < 40 → (A i = A j ↔ i = j) := hA
  have b9 : (9 : Int32) = 9 := by decide
  have c1 : (1 ≤ bc + 1) = True := eq_true (by omega)
  have c2 : (9 ≤ bs + 9) = True := eq_true (by omega)
  have c3 : bc + 1 - 1 = bc := by omega
  have c4 : bs + 9 - 9 = bs := by omega
  (refine Sm_el sm ?_; intros i0 l0 i1 l1 i2 l2 i3 l3 i4 l4 i5 l5 i6 l6 i7 l7 i8 l8 i9 l9 i10 l10 i11 l11 i12 l12 i13 l13 i14 l14 i15 l15 i16 l16 i17 l17 i18 l18 i19 l19 i23 l23 i24 l24 i25 l25 i26 l26 i27 l27 i28 l28 i29 l29 i30 l30 i31 l31 i32 l32 i33 l33 i34 l34 i35 l35 i36 l36 i37 l37 i38 l38 i39 l39 i22)
  rw [o244_232]
  simp only [o244_234, o244_236, o244_239, o244_240, o244_243, o244_244, o244_245, o244_246, o244_248, mcs_0, mcs_l, true_and, not_true_eq_false, not_false_eq_true, false_implies, forall_const, Nat.reduceLeDiff, Nat.reduceAdd, lt_le, Int32.reduceLT, kc22, Int32.reduceLT, c1, c2, c3, c4]
  refine m_leX1_2 R (fun q f => ?_)
  simp only [o244_251, o244_252, o244_253, o244_254, o244_257, Kn_v, Int32.reduceAdd, i16]
  exact hQ q f

theorem ms_E1_3 {A : Nat → Nat} {d : Int64} {h0 m : MH} {Q : MR → MH → Prop} {bc bs : Nat} {a5 a6 a7 : Value} (sm : Sm A h0 m) (R : Rl A m) (hQ : ∀ q, Fr m q → Ok 244 232 [.ref (A 22), .long (dg1 d (g_i h0 (A 16) 5 - g_i h0 (A 16) 4)), mk0, .int 1, .int 4, a5, a6, a7] [] q bc bs Q) : Ok 244 232 [.ref (A 22), .long (d), mk0, .int 1, .int 3, a5, a6, a7] [] m (bc + 1) (bs + 9) Q := by
  have R0 := R
  obtain ⟨vk, vcn, v0, v1, v2, vp, vl0, vl1, vlr, vsr, vc, tx⟩ := R0
  have vk0 := vk
  have vcn0 := vcn
  (refine K_el vk0 ?_; intros hA kc0 kc1 kc2 kc3 kc4 kc5 kc6 kc7 kc8 kc9 kc10 kc11 kc12 kc13 kc14 kc15 kc16 kc17 kc18 kc19 kc20 kc21 kc22 kc23 kc24 kc25 kc26 kc27 kc28 kc29 kc30 kc31 kc32 kc33 kc34 kc35 kc36 kc37 kc38 kc39 kz kt kn3 kn4 kn18 kn21 kn23 kn24 kn25 kn26 kn27 kn29 kn30 kr0_0 kr0_1 kr0_2 kr0_3 kr0_4 kr0_5 kr0_7 kr0_8 kr0_9 kr0_10 kr1_0 kr2_0 kr5_0 kr5_1 kr6_0 kr6_1 kr7_0 kr7_1 kr8_0 kr9_0 kr10_0 kr11_0 kr12_0 kr13_0 kr14_0 kr15_0 kr16_0 kr17_0 kr19_0 kr19_1 kr22_0 kr22_1 kr22_2 kr22_3 kr22_4 kr22_5 kr22_7 kr22_8 kr25_0 kr25_1 kr25_2 kr26_0 kr26_1 kr26_2 kr29_0 kr29_1)
  (refine Cn_el vcn0 ?_; intros ki5_2 ki6_2 ki7_2 ki8_1 ki8_2 ki8_3 ki9_1 ki9_2 ki9_3 ki10_1 ki10_2 ki10_3 ki11_1 ki11_2 ki11_3 ki12_1 ki12_2 ki12_3 ki13_1 ki13_2 ki13_3 ki14_1 ki14_2 ki14_3 ki28_0 ki28_1 ki31_0 ki31_1 ki32_0 ki32_1 ki33_0 ki33_1 ki34_0 ki34_1 ki35_0 ki35_1 ki36_0 ki36_1)
  have hAe : ∀ i j, i < 40 → j < 40 → (A i = A j ↔ i = j) := hA
  have b9 : (9 : Int32) = 9 := by decide
  have c1 : (1 ≤ bc + 1) = True := eq_true (by omega)
  have c2 : (9 ≤ bs + 9) = True := eq_true (by omega)
  have c3 : bc + 1 - 1 = bc := by omega
  have c4 : bs + 9 - 9 = bs := by omega
  (refine Sm_el sm ?_; intros i0 l0 i1 l1 i2 l2 i3 l3 i4 l4 i5 l5 i6 l6 i7 l7 i8 l8 i9 l9 i10 l10 i11 l11 i12 l12 i13 l13 i14 l14 i15 l15 i16 l16 i17 l17 i18 l18 i19 l19 i23 l23 i24 l24 i25 l25 i26 l26 i27 l27 i28 l28 i29 l29 i30 l30 i31 l31 i32 l32 i33 l33 i34 l34 i35 l35 i36 l36 i37 l37 i38 l38 i39 l39 i22)
  rw [o244_232]
  simp only [o244_234, o244_236, o244_239, o244_240, o244_243, o244_244, o244_245, o244_246, o244_248, mcs_0, mcs_l, true_and, not_true_eq_false, not_false_eq_true, false_implies, forall_const, Nat.reduceLeDiff, Nat.reduceAdd, lt_le, Int32.reduceLT, kc22, Int32.reduceLT, c1, c2, c3, c4]
  refine m_leX1_3 R (fun q f => ?_)
  simp only [o244_251, o244_252, o244_253, o244_254, o244_257, Kn_v, Int32.reduceAdd, i16]
  exact hQ q f

theorem ms_E1_4 {A : Nat → Nat} {d : Int64} {h0 m : MH} {Q : MR → MH → Prop} {bc bs : Nat} {a5 a6 a7 : Value} (sm : Sm A h0 m) (R : Rl A m) (hQ : ∀ q, Fr m q → Ok 244 232 [.ref (A 22), .long (dg1 d (g_i h0 (A 16) 6)), mk0, .int 1, .int 5, a5, a6, a7] [] q bc bs Q) : Ok 244 232 [.ref (A 22), .long (d), mk0, .int 1, .int 4, a5, a6, a7] [] m (bc + 1) (bs + 9) Q := by
  have R0 := R
  obtain ⟨vk, vcn, v0, v1, v2, vp, vl0, vl1, vlr, vsr, vc, tx⟩ := R0
  have vk0 := vk
  have vcn0 := vcn
  (refine K_el vk0 ?_; intros hA kc0 kc1 kc2 kc3 kc4 kc5 kc6 kc7 kc8 kc9 kc10 kc11 kc12 kc13 kc14 kc15 kc16 kc17 kc18 kc19 kc20 kc21 kc22 kc23 kc24 kc25 kc26 kc27 kc28 kc29 kc30 kc31 kc32 kc33 kc34 kc35 kc36 kc37 kc38 kc39 kz kt kn3 kn4 kn18 kn21 kn23 kn24 kn25 kn26 kn27 kn29 kn30 kr0_0 kr0_1 kr0_2 kr0_3 kr0_4 kr0_5 kr0_7 kr0_8 kr0_9 kr0_10 kr1_0 kr2_0 kr5_0 kr5_1 kr6_0 kr6_1 kr7_0 kr7_1 kr8_0 kr9_0 kr10_0 kr11_0 kr12_0 kr13_0 kr14_0 kr15_0 kr16_0 kr17_0 kr19_0 kr19_1 kr22_0 kr22_1 kr22_2 kr22_3 kr22_4 kr22_5 kr22_7 kr22_8 kr25_0 kr25_1 kr25_2 kr26_0 kr26_1 kr26_2 kr29_0 kr29_1)
  (refine Cn_el vcn0 ?_; intros ki5_2 ki6_2 ki7_2 ki8_1 ki8_2 ki8_3 ki9_1 ki9_2 ki9_3 ki10_1 ki10_2 ki10_3 ki11_1 ki11_2 ki11_3 ki12_1 ki12_2 ki12_3 ki13_1 ki13_2 ki13_3 ki14_1 ki14_2 ki14_3 ki28_0 ki28_1 ki31_0 ki31_1 ki32_0 ki32_1 ki33_0 ki33_1 ki34_0 ki34_1 ki35_0 ki35_1 ki36_0 ki36_1)
  have hAe : ∀ i j, i < 40 → j < 40 → (A i = A j ↔ i = j) := hA
  have b9 : (9 : Int32) = 9 := by decide
  have c1 : (1 ≤ bc + 1) = True := eq_true (by omega)
  have c2 : (9 ≤ bs + 9) = True := eq_true (by omega)
  have c3 : bc + 1 - 1 = bc := by omega
  have c4 : bs + 9 - 9 = bs := by omega
  (refine Sm_el sm ?_; intros i0 l0 i1 l1 i2 l2 i3 l3 i4 l4 i5 l5 i6 l6 i7 l7 i8 l8 i9 l9 i10 l10 i11 l11 i12 l12 i13 l13 i14 l14 i15 l15 i16 l16 i17 l17 i18 l18 i19 l19 i23 l23 i24 l24 i25 l25 i26 l26 i27 l27 i28 l28 i29 l29 i30 l30 i31 l31 i32 l32 i33 l33 i34 l34 i35 l35 i36 l36 i37 l37 i38 l38 i39 l39 i22)
  rw [o244_232]
  simp only [o244_234, o244_236, o244_239, o244_240, o244_243, o244_244, o244_245, o244_246, o244_248, mcs_0, mcs_l, true_and, not_true_eq_false, not_false_eq_true, false_implies, forall_const, Nat.reduceLeDiff, Nat.reduceAdd, lt_le, Int32.reduceLT, kc22, Int32.reduceLT, c1, c2, c3, c4]
  refine m_leX1_4 R (fun q f => ?_)
  simp only [o244_251, o244_252, o244_253, o244_254, o244_257, Kn_v, Int32.reduceAdd, i16]
  exact hQ q f

theorem ms_E1_5 {A : Nat → Nat} {d : Int64} {h0 m : MH} {Q : MR → MH → Prop} {bc bs : Nat} {a5 a6 a7 : Value} (sm : Sm A h0 m) (R : Rl A m) (hQ : ∀ q, Fr m q → Ok 244 232 [.ref (A 22), .long (dg1 d (if g_i h0 (A 16) 3 = 0 then 0 else 1)), mk0, .int 1, .int 6, a5, a6, a7] [] q bc bs Q) : Ok 244 232 [.ref (A 22), .long (d), mk0, .int 1, .int 5, a5, a6, a7] [] m (bc + 1) (bs + 9) Q := by
  have R0 := R
  obtain ⟨vk, vcn, v0, v1, v2, vp, vl0, vl1, vlr, vsr, vc, tx⟩ := R0
  have vk0 := vk
  have vcn0 := vcn
  (refine K_el vk0 ?_; intros hA kc0 kc1 kc2 kc3 kc4 kc5 kc6 kc7 kc8 kc9 kc10 kc11 kc12 kc13 kc14 kc15 kc16 kc17 kc18 kc19 kc20 kc21 kc22 kc23 kc24 kc25 kc26 kc27 kc28 kc29 kc30 kc31 kc32 kc33 kc34 kc35 kc36 kc37 kc38 kc39 kz kt kn3 kn4 kn18 kn21 kn23 kn24 kn25 kn26 kn27 kn29 kn30 kr0_0 kr0_1 kr0_2 kr0_3 kr0_4 kr0_5 kr0_7 kr0_8 kr0_9 kr0_10 kr1_0 kr2_0 kr5_0 kr5_1 kr6_0 kr6_1 kr7_0 kr7_1 kr8_0 kr9_0 kr10_0 kr11_0 kr12_0 kr13_0 kr14_0 kr15_0 kr16_0 kr17_0 kr19_0 kr19_1 kr22_0 kr22_1 kr22_2 kr22_3 kr22_4 kr22_5 kr22_7 kr22_8 kr25_0 kr25_1 kr25_2 kr26_0 kr26_1 kr26_2 kr29_0 kr29_1)
  (refine Cn_el vcn0 ?_; intros ki5_2 ki6_2 ki7_2 ki8_1 ki8_2 ki8_3 ki9_1 ki9_2 ki9_3 ki10_1 ki10_2 ki10_3 ki11_1 ki11_2 ki11_3 ki12_1 ki12_2 ki12_3 ki13_1 ki13_2 ki13_3 ki14_1 ki14_2 ki14_3 ki28_0 ki28_1 ki31_0 ki31_1 ki32_0 ki32_1 ki33_0 ki33_1 ki34_0 ki34_1 ki35_0 ki35_1 ki36_0 ki36_1)
  have hAe : ∀ i j, i < 40 → j < 40 → (A i = A j ↔ i = j) := hA
  have b9 : (9 : Int32) = 9 := by decide
  have c1 : (1 ≤ bc + 1) = True := eq_true (by omega)
  have c2 : (9 ≤ bs + 9) = True := eq_true (by omega)
  have c3 : bc + 1 - 1 = bc := by omega
  have c4 : bs + 9 - 9 = bs := by omega
  (refine Sm_el sm ?_; intros i0 l0 i1 l1 i2 l2 i3 l3 i4 l4 i5 l5 i6 l6 i7 l7 i8 l8 i9 l9 i10 l10 i11 l11 i12 l12 i13 l13 i14 l14 i15 l15 i16 l16 i17 l17 i18 l18 i19 l19 i23 l23 i24 l24 i25 l25 i26 l26 i27 l27 i28 l28 i29 l29 i30 l30 i31 l31 i32 l32 i33 l33 i34 l34 i35 l35 i36 l36 i37 l37 i38 l38 i39 l39 i22)
  rw [o244_232]
  simp only [o244_234, o244_236, o244_239, o244_240, o244_243, o244_244, o244_245, o244_246, o244_248, mcs_0, mcs_l, true_and, not_true_eq_false, not_false_eq_true, false_implies, forall_const, Nat.reduceLeDiff, Nat.reduceAdd, lt_le, Int32.reduceLT, kc22, Int32.reduceLT, c1, c2, c3, c4]
  refine m_leX1_5 R (fun q f => ?_)
  simp only [o244_251, o244_252, o244_253, o244_254, o244_257, Kn_v, Int32.reduceAdd, i16]
  exact hQ q f

theorem ms_E1_6 {A : Nat → Nat} {d : Int64} {h0 m : MH} {Q : MR → MH → Prop} {bc bs : Nat} {a5 a6 a7 : Value} (sm : Sm A h0 m) (R : Rl A m) (hQ : ∀ q, Fr m q → Ok 244 232 [.ref (A 22), .long (dg1 d (if g_i h0 (A 16) 3 = 0 then 1 else 0)), mk0, .int 1, .int 7, a5, a6, a7] [] q bc bs Q) : Ok 244 232 [.ref (A 22), .long (d), mk0, .int 1, .int 6, a5, a6, a7] [] m (bc + 1) (bs + 9) Q := by
  have R0 := R
  obtain ⟨vk, vcn, v0, v1, v2, vp, vl0, vl1, vlr, vsr, vc, tx⟩ := R0
  have vk0 := vk
  have vcn0 := vcn
  (refine K_el vk0 ?_; intros hA kc0 kc1 kc2 kc3 kc4 kc5 kc6 kc7 kc8 kc9 kc10 kc11 kc12 kc13 kc14 kc15 kc16 kc17 kc18 kc19 kc20 kc21 kc22 kc23 kc24 kc25 kc26 kc27 kc28 kc29 kc30 kc31 kc32 kc33 kc34 kc35 kc36 kc37 kc38 kc39 kz kt kn3 kn4 kn18 kn21 kn23 kn24 kn25 kn26 kn27 kn29 kn30 kr0_0 kr0_1 kr0_2 kr0_3 kr0_4 kr0_5 kr0_7 kr0_8 kr0_9 kr0_10 kr1_0 kr2_0 kr5_0 kr5_1 kr6_0 kr6_1 kr7_0 kr7_1 kr8_0 kr9_0 kr10_0 kr11_0 kr12_0 kr13_0 kr14_0 kr15_0 kr16_0 kr17_0 kr19_0 kr19_1 kr22_0 kr22_1 kr22_2 kr22_3 kr22_4 kr22_5 kr22_7 kr22_8 kr25_0 kr25_1 kr25_2 kr26_0 kr26_1 kr26_2 kr29_0 kr29_1)
  (refine Cn_el vcn0 ?_; intros ki5_2 ki6_2 ki7_2 ki8_1 ki8_2 ki8_3 ki9_1 ki9_2 ki9_3 ki10_1 ki10_2 ki10_3 ki11_1 ki11_2 ki11_3 ki12_1 ki12_2 ki12_3 ki13_1 ki13_2 ki13_3 ki14_1 ki14_2 ki14_3 ki28_0 ki28_1 ki31_0 ki31_1 ki32_0 ki32_1 ki33_0 ki33_1 ki34_0 ki34_1 ki35_0 ki35_1 ki36_0 ki36_1)
  have hAe : ∀ i j, i < 40 → j < 40 → (A i = A j ↔ i = j) := hA
  have b9 : (9 : Int32) = 9 := by decide
  have c1 : (1 ≤ bc + 1) = True := eq_true (by omega)
  have c2 : (9 ≤ bs + 9) = True := eq_true (by omega)
  have c3 : bc + 1 - 1 = bc := by omega
  have c4 : bs + 9 - 9 = bs := by omega
  (refine Sm_el sm ?_; intros i0 l0 i1 l1 i2 l2 i3 l3 i4 l4 i5 l5 i6 l6 i7 l7 i8 l8 i9 l9 i10 l10 i11 l11 i12 l12 i13 l13 i14 l14 i15 l15 i16 l16 i17 l17 i18 l18 i19 l19 i23 l23 i24 l24 i25 l25 i26 l26 i27 l27 i28 l28 i29 l29 i30 l30 i31 l31 i32 l32 i33 l33 i34 l34 i35 l35 i36 l36 i37 l37 i38 l38 i39 l39 i22)
  rw [o244_232]
  simp only [o244_234, o244_236, o244_239, o244_240, o244_243, o244_244, o244_245, o244_246, o244_248, mcs_0, mcs_l, true_and, not_true_eq_false, not_false_eq_true, false_implies, forall_const, Nat.reduceLeDiff, Nat.reduceAdd, lt_le, Int32.reduceLT, kc22, Int32.reduceLT, c1, c2, c3, c4]
  refine m_leX1_6 R (fun q f => ?_)
  simp only [o244_251, o244_252, o244_253, o244_254, o244_257, Kn_v, Int32.reduceAdd, i16]
  exact hQ q f

theorem ms_E1_7 {A : Nat → Nat} {d : Int64} {h0 m : MH} {Q : MR → MH → Prop} {bc bs : Nat} {a5 a6 a7 : Value} (sm : Sm A h0 m) (R : Rl A m) (hQ : ∀ q, Fr m q → Ok 244 232 [.ref (A 22), .long (dg1 d (0)), mk0, .int 1, .int 8, a5, a6, a7] [] q bc bs Q) : Ok 244 232 [.ref (A 22), .long (d), mk0, .int 1, .int 7, a5, a6, a7] [] m (bc + 1) (bs + 9) Q := by
  have R0 := R
  obtain ⟨vk, vcn, v0, v1, v2, vp, vl0, vl1, vlr, vsr, vc, tx⟩ := R0
  have vk0 := vk
  have vcn0 := vcn
  (refine K_el vk0 ?_; intros hA kc0 kc1 kc2 kc3 kc4 kc5 kc6 kc7 kc8 kc9 kc10 kc11 kc12 kc13 kc14 kc15 kc16 kc17 kc18 kc19 kc20 kc21 kc22 kc23 kc24 kc25 kc26 kc27 kc28 kc29 kc30 kc31 kc32 kc33 kc34 kc35 kc36 kc37 kc38 kc39 kz kt kn3 kn4 kn18 kn21 kn23 kn24 kn25 kn26 kn27 kn29 kn30 kr0_0 kr0_1 kr0_2 kr0_3 kr0_4 kr0_5 kr0_7 kr0_8 kr0_9 kr0_10 kr1_0 kr2_0 kr5_0 kr5_1 kr6_0 kr6_1 kr7_0 kr7_1 kr8_0 kr9_0 kr10_0 kr11_0 kr12_0 kr13_0 kr14_0 kr15_0 kr16_0 kr17_0 kr19_0 kr19_1 kr22_0 kr22_1 kr22_2 kr22_3 kr22_4 kr22_5 kr22_7 kr22_8 kr25_0 kr25_1 kr25_2 kr26_0 kr26_1 kr26_2 kr29_0 kr29_1)
  (refine Cn_el vcn0 ?_; intros ki5_2 ki6_2 ki7_2 ki8_1 ki8_2 ki8_3 ki9_1 ki9_2 ki9_3 ki10_1 ki10_2 ki10_3 ki11_1 ki11_2 ki11_3 ki12_1 ki12_2 ki12_3 ki13_1 ki13_2 ki13_3 ki14_1 ki14_2 ki14_3 ki28_0 ki28_1 ki31_0 ki31_1 ki32_0 ki32_1 ki33_0 ki33_1 ki34_0 ki34_1 ki35_0 ki35_1 ki36_0 ki36_1)
  have hAe : ∀ i j, i < 40 → j < 40 → (A i = A j ↔ i = j) := hA
  have b9 : (9 : Int32) = 9 := by decide
  have c1 : (1 ≤ bc + 1) = True := eq_true (by omega)
  have c2 : (9 ≤ bs + 9) = True := eq_true (by omega)
  have c3 : bc + 1 - 1 = bc := by omega
  have c4 : bs + 9 - 9 = bs := by omega
  (refine Sm_el sm ?_; intros i0 l0 i1 l1 i2 l2 i3 l3 i4 l4 i5 l5 i6 l6 i7 l7 i8 l8 i9 l9 i10 l10 i11 l11 i12 l12 i13 l13 i14 l14 i15 l15 i16 l16 i17 l17 i18 l18 i19 l19 i23 l23 i24 l24 i25 l25 i26 l26 i27 l27 i28 l28 i29 l29 i30 l30 i31 l31 i32 l32 i33 l33 i34 l34 i35 l35 i36 l36 i37 l37 i38 l38 i39 l39 i22)
  rw [o244_232]
  simp only [o244_234, o244_236, o244_239, o244_240, o244_243, o244_244, o244_245, o244_246, o244_248, mcs_0, mcs_l, true_and, not_true_eq_false, not_false_eq_true, false_implies, forall_const, Nat.reduceLeDiff, Nat.reduceAdd, lt_le, Int32.reduceLT, kc22, Int32.reduceLT, c1, c2, c3, c4]
  refine m_leX1_7 R (fun q f => ?_)
  simp only [o244_251, o244_252, o244_253, o244_254, o244_257, Kn_v, Int32.reduceAdd]
  exact hQ q f

theorem ms_E1_8 {A : Nat → Nat} {d : Int64} {h0 m : MH} {Q : MR → MH → Prop} {bc bs : Nat} {a5 a6 a7 : Value} (sm : Sm A h0 m) (R : Rl A m) (hQ : ∀ q, Fr m q → Ok 244 232 [.ref (A 22), .long (dg1 d (if g_i h0 (A 16) 3 = 0 then g_i h0 (A 16) 1 else -1)), mk0, .int 1, .int 9, a5, a6, a7] [] q bc bs Q) : Ok 244 232 [.ref (A 22), .long (d), mk0, .int 1, .int 8, a5, a6, a7] [] m (bc + 1) (bs + 9) Q := by
  have R0 := R
  obtain ⟨vk, vcn, v0, v1, v2, vp, vl0, vl1, vlr, vsr, vc, tx⟩ := R0
  have vk0 := vk
  have vcn0 := vcn
  (refine K_el vk0 ?_; intros hA kc0 kc1 kc2 kc3 kc4 kc5 kc6 kc7 kc8 kc9 kc10 kc11 kc12 kc13 kc14 kc15 kc16 kc17 kc18 kc19 kc20 kc21 kc22 kc23 kc24 kc25 kc26 kc27 kc28 kc29 kc30 kc31 kc32 kc33 kc34 kc35 kc36 kc37 kc38 kc39 kz kt kn3 kn4 kn18 kn21 kn23 kn24 kn25 kn26 kn27 kn29 kn30 kr0_0 kr0_1 kr0_2 kr0_3 kr0_4 kr0_5 kr0_7 kr0_8 kr0_9 kr0_10 kr1_0 kr2_0 kr5_0 kr5_1 kr6_0 kr6_1 kr7_0 kr7_1 kr8_0 kr9_0 kr10_0 kr11_0 kr12_0 kr13_0 kr14_0 kr15_0 kr16_0 kr17_0 kr19_0 kr19_1 kr22_0 kr22_1 kr22_2 kr22_3 kr22_4 kr22_5 kr22_7 kr22_8 kr25_0 kr25_1 kr25_2 kr26_0 kr26_1 kr26_2 kr29_0 kr29_1)
  (refine Cn_el vcn0 ?_; intros ki5_2 ki6_2 ki7_2 ki8_1 ki8_2 ki8_3 ki9_1 ki9_2 ki9_3 ki10_1 ki10_2 ki10_3 ki11_1 ki11_2 ki11_3 ki12_1 ki12_2 ki12_3 ki13_1 ki13_2 ki13_3 ki14_1 ki14_2 ki14_3 ki28_0 ki28_1 ki31_0 ki31_1 ki32_0 ki32_1 ki33_0 ki33_1 ki34_0 ki34_1 ki35_0 ki35_1 ki36_0 ki36_1)
  have hAe : ∀ i j, i < 40 → j < 40 → (A i = A j ↔ i = j) := hA
  have b9 : (9 : Int32) = 9 := by decide
  have c1 : (1 ≤ bc + 1) = True := eq_true (by omega)
  have c2 : (9 ≤ bs + 9) = True := eq_true (by omega)
  have c3 : bc + 1 - 1 = bc := by omega
  have c4 : bs + 9 - 9 = bs := by omega
  (refine Sm_el sm ?_; intros i0 l0 i1 l1 i2 l2 i3 l3 i4 l4 i5 l5 i6 l6 i7 l7 i8 l8 i9 l9 i10 l10 i11 l11 i12 l12 i13 l13 i14 l14 i15 l15 i16 l16 i17 l17 i18 l18 i19 l19 i23 l23 i24 l24 i25 l25 i26 l26 i27 l27 i28 l28 i29 l29 i30 l30 i31 l31 i32 l32 i33 l33 i34 l34 i35 l35 i36 l36 i37 l37 i38 l38 i39 l39 i22)
  rw [o244_232]
  simp only [o244_234, o244_236, o244_239, o244_240, o244_243, o244_244, o244_245, o244_246, o244_248, mcs_0, mcs_l, true_and, not_true_eq_false, not_false_eq_true, false_implies, forall_const, Nat.reduceLeDiff, Nat.reduceAdd, lt_le, Int32.reduceLT, kc22, Int32.reduceLT, c1, c2, c3, c4]
  refine m_leX1_8 R (fun q f => ?_)
  simp only [o244_251, o244_252, o244_253, o244_254, o244_257, Kn_v, Int32.reduceAdd, i16]
  exact hQ q f

theorem ms_EE {A : Nat → Nat} {d : Int64} {h0 m : MH} {Q : MR → MH → Prop} {bc bs : Nat} {a4 a5 a6 a7 : Value} (sm : Sm A h0 m) (R : Rl A m) (cs : Cs m) (hQ : ∀ q, Sm A h0 q → Rl A q → Cs q → Ok 244 266 [.ref (A 22), .long (dE A h0 d), mk0, .int 2, .int 9, a5, a6, a7] [] q bc bs Q) : Ok 244 224 [.ref (A 22), .long (d), mk0, .int 0, a4, a5, a6, a7] [] m (bc + 18) (bs + 162) Q := by
  have b9 : (9 : Int32) = 9 := by decide
  rw [o244_224]
  simp only [o244_225, o244_226, o244_229, o244_230, true_and, not_true_eq_false, not_false_eq_true, false_implies, forall_const, lt_le, Int32.reduceLT, Int32.reduceLT]
  refine ms_E0_0 (bc := bc + 17) (bs := bs + 153) sm R (fun q0 f0 => ?_)
  have R0 := Rl_Fr R f0
  have s0 := Sm_tr sm (Sm_Fr R f0)
  have cs0 := Cs_Fx (sb := g_t q0) (dg := g_t q0) cs (Fx_Fr f0) (Nat.le_trans (Rl_z R) f0.2.1) (Nat.le_trans (Rl_z R) f0.2.1)
  refine ms_E0_1 (bc := bc + 16) (bs := bs + 144) s0 R0 (fun q1 f1 => ?_)
  have R1 := Rl_Fr R0 f1
  have s1 := Sm_tr s0 (Sm_Fr R0 f1)
  have cs1 := Cs_Fx (sb := g_t q1) (dg := g_t q1) cs0 (Fx_Fr f1) (Nat.le_trans (Rl_z R0) f1.2.1) (Nat.le_trans (Rl_z R0) f1.2.1)
  refine ms_E0_2 (bc := bc + 15) (bs := bs + 135) s1 R1 (fun q2 f2 => ?_)
  have R2 := Rl_Fr R1 f2
  have s2 := Sm_tr s1 (Sm_Fr R1 f2)
  have cs2 := Cs_Fx (sb := g_t q2) (dg := g_t q2) cs1 (Fx_Fr f2) (Nat.le_trans (Rl_z R1) f2.2.1) (Nat.le_trans (Rl_z R1) f2.2.1)
  refine ms_E0_3 (bc := bc + 14) (bs := bs + 126) s2 R2 (fun q3 f3 => ?_)
  have R3 := Rl_Fr R2 f3
  have s3 := Sm_tr s2 (Sm_Fr R2 f3)
  have cs3 := Cs_Fx (sb := g_t q3) (dg := g_t q3) cs2 (Fx_Fr f3) (Nat.le_trans (Rl_z R2) f3.2.1) (Nat.le_trans (Rl_z R2) f3.2.1)
  refine ms_E0_4 (bc := bc + 13) (bs := bs + 117) s3 R3 (fun q4 f4 => ?_)
  have R4 := Rl_Fr R3 f4
  have s4 := Sm_tr s3 (Sm_Fr R3 f4)
  have cs4 := Cs_Fx (sb := g_t q4) (dg := g_t q4) cs3 (Fx_Fr f4) (Nat.le_trans (Rl_z R3) f4.2.1) (Nat.le_trans (Rl_z R3) f4.2.1)
  refine ms_E0_5 (bc := bc + 12) (bs := bs + 108) s4 R4 (fun q5 f5 => ?_)
  have R5 := Rl_Fr R4 f5
  have s5 := Sm_tr s4 (Sm_Fr R4 f5)
  have cs5 := Cs_Fx (sb := g_t q5) (dg := g_t q5) cs4 (Fx_Fr f5) (Nat.le_trans (Rl_z R4) f5.2.1) (Nat.le_trans (Rl_z R4) f5.2.1)
  refine ms_E0_6 (bc := bc + 11) (bs := bs + 99) s5 R5 (fun q6 f6 => ?_)
  have R6 := Rl_Fr R5 f6
  have s6 := Sm_tr s5 (Sm_Fr R5 f6)
  have cs6 := Cs_Fx (sb := g_t q6) (dg := g_t q6) cs5 (Fx_Fr f6) (Nat.le_trans (Rl_z R5) f6.2.1) (Nat.le_trans (Rl_z R5) f6.2.1)
  refine ms_E0_7 (bc := bc + 10) (bs := bs + 90) s6 R6 (fun q7 f7 => ?_)
  have R7 := Rl_Fr R6 f7
  have s7 := Sm_tr s6 (Sm_Fr R6 f7)
  have cs7 := Cs_Fx (sb := g_t q7) (dg := g_t q7) cs6 (Fx_Fr f7) (Nat.le_trans (Rl_z R6) f7.2.1) (Nat.le_trans (Rl_z R6) f7.2.1)
  refine ms_E0_8 (bc := bc + 9) (bs := bs + 81) s7 R7 (fun q8 f8 => ?_)
  have R8 := Rl_Fr R7 f8
  have s8 := Sm_tr s7 (Sm_Fr R7 f8)
  have cs8 := Cs_Fx (sb := g_t q8) (dg := g_t q8) cs7 (Fx_Fr f8) (Nat.le_trans (Rl_z R7) f8.2.1) (Nat.le_trans (Rl_z R7) f8.2.1)
  rw [o244_232]
  simp only [o244_234, o244_236, o244_260, o244_263, and_true, not_true_eq_false, not_false_eq_true, false_implies, forall_const, lt_le, Int32.reduceLT, Int32.reduceAdd, Int32.reduceLT]
  rw [o244_224]
  simp only [o244_225, o244_226, o244_229, o244_230, true_and, not_true_eq_false, not_false_eq_true, false_implies, forall_const, lt_le, Int32.reduceLT, Int32.reduceLT]
  refine ms_E1_0 (bc := bc + 8) (bs := bs + 72) s8 R8 (fun q9 f9 => ?_)
  have R9 := Rl_Fr R8 f9
  have s9 := Sm_tr s8 (Sm_Fr R8 f9)
  have cs9 := Cs_Fx (sb := g_t q9) (dg := g_t q9) cs8 (Fx_Fr f9) (Nat.le_trans (Rl_z R8) f9.2.1) (Nat.le_trans (Rl_z R8) f9.2.1)
  refine ms_E1_1 (bc := bc + 7) (bs := bs + 63) s9 R9 (fun q10 f10 => ?_)
  have R10 := Rl_Fr R9 f10
  have s10 := Sm_tr s9 (Sm_Fr R9 f10)
  have cs10 := Cs_Fx (sb := g_t q10) (dg := g_t q10) cs9 (Fx_Fr f10) (Nat.le_trans (Rl_z R9) f10.2.1) (Nat.le_trans (Rl_z R9) f10.2.1)
  refine ms_E1_2 (bc := bc + 6) (bs := bs + 54) s10 R10 (fun q11 f11 => ?_)
  have R11 := Rl_Fr R10 f11
  have s11 := Sm_tr s10 (Sm_Fr R10 f11)
  have cs11 := Cs_Fx (sb := g_t q11) (dg := g_t q11) cs10 (Fx_Fr f11) (Nat.le_trans (Rl_z R10) f11.2.1) (Nat.le_trans (Rl_z R10) f11.2.1)
  refine ms_E1_3 (bc := bc + 5) (bs := bs + 45) s11 R11 (fun q12 f12 => ?_)
  have R12 := Rl_Fr R11 f12
  have s12 := Sm_tr s11 (Sm_Fr R11 f12)
  have cs12 := Cs_Fx (sb := g_t q12) (dg := g_t q12) cs11 (Fx_Fr f12) (Nat.le_trans (Rl_z R11) f12.2.1) (Nat.le_trans (Rl_z R11) f12.2.1)
  refine ms_E1_4 (bc := bc + 4) (bs := bs + 36) s12 R12 (fun q13 f13 => ?_)
  have R13 := Rl_Fr R12 f13
  have s13 := Sm_tr s12 (Sm_Fr R12 f13)
  have cs13 := Cs_Fx (sb := g_t q13) (dg := g_t q13) cs12 (Fx_Fr f13) (Nat.le_trans (Rl_z R12) f13.2.1) (Nat.le_trans (Rl_z R12) f13.2.1)
  refine ms_E1_5 (bc := bc + 3) (bs := bs + 27) s13 R13 (fun q14 f14 => ?_)
  have R14 := Rl_Fr R13 f14
  have s14 := Sm_tr s13 (Sm_Fr R13 f14)
  have cs14 := Cs_Fx (sb := g_t q14) (dg := g_t q14) cs13 (Fx_Fr f14) (Nat.le_trans (Rl_z R13) f14.2.1) (Nat.le_trans (Rl_z R13) f14.2.1)
  refine ms_E1_6 (bc := bc + 2) (bs := bs + 18) s14 R14 (fun q15 f15 => ?_)
  have R15 := Rl_Fr R14 f15
  have s15 := Sm_tr s14 (Sm_Fr R14 f15)
  have cs15 := Cs_Fx (sb := g_t q15) (dg := g_t q15) cs14 (Fx_Fr f15) (Nat.le_trans (Rl_z R14) f15.2.1) (Nat.le_trans (Rl_z R14) f15.2.1)
  refine ms_E1_7 (bc := bc + 1) (bs := bs + 9) s15 R15 (fun q16 f16 => ?_)
  have R16 := Rl_Fr R15 f16
  have s16 := Sm_tr s15 (Sm_Fr R15 f16)
  have cs16 := Cs_Fx (sb := g_t q16) (dg := g_t q16) cs15 (Fx_Fr f16) (Nat.le_trans (Rl_z R15) f16.2.1) (Nat.le_trans (Rl_z R15) f16.2.1)
  refine ms_E1_8 (bc := bc + 0) (bs := bs + 0) s16 R16 (fun q17 f17 => ?_)
  have R17 := Rl_Fr R16 f17
  have s17 := Sm_tr s16 (Sm_Fr R16 f17)
  have cs17 := Cs_Fx (sb := g_t q17) (dg := g_t q17) cs16 (Fx_Fr f17) (Nat.le_trans (Rl_z R16) f17.2.1) (Nat.le_trans (Rl_z R16) f17.2.1)
  rw [o244_232]
  simp only [o244_234, o244_236, o244_260, o244_263, and_true, not_true_eq_false, not_false_eq_true, false_implies, forall_const, lt_le, Int32.reduceLT, Int32.reduceAdd, Int32.reduceLT]
  rw [o244_224]
  simp only [o244_225, o244_226, and_true, not_true_eq_false, not_false_eq_true, false_implies, forall_const, lt_le, Int32.reduceLT, Int32.reduceLT]
  exact hQ q17 s17 R17 cs17

theorem ms_H {A : Nat → Nat} {d : Int64} {h0 m : MH} {Q : MR → MH → Prop} {bc bs : Nat} {a4 a5 a6 a7 : Value} (sm : Sm A h0 m) (R : Rl A m) (hQ : Ok 244 294 [.ref (A 22), .long (dH A h0 d 8), mk0, .int (Int32.ofNat 8), a4, a5, a6, a7] [] m bc bs Q) : ∀ (k s : Nat), s + k = 8 → Ok 244 268 [.ref (A 22), .long (dH A h0 d s), mk0, .int (Int32.ofNat s), a4, a5, a6, a7] [] m bc bs Q
  | 0, s, hs => by
    have : s = 8 := by omega
    subst this
    have c1 : (Int32.ofNat 8 < (8 : Int32)) = False := by decide
    rw [o244_268]
    simp only [o244_269, o244_271, and_true, not_true_eq_false, not_false_eq_true, false_implies, forall_const, lt_le, c1]
    exact hQ
  | k + 1, s, hs => by
    have ih := ms_H sm R hQ k (s + 1) (by omega)
    (refine Sm_el sm ?_; intros i0 l0 i1 l1 i2 l2 i3 l3 i4 l4 i5 l5 i6 l6 i7 l7 i8 l8 i9 l9 i10 l10 i11 l11 i12 l12 i13 l13 i14 l14 i15 l15 i16 l16 i17 l17 i18 l18 i19 l19 i23 l23 i24 l24 i25 l25 i26 l26 i27 l27 i28 l28 i29 l29 i30 l30 i31 l31 i32 l32 i33 l33 i34 l34 i35 l35 i36 l36 i37 l37 i38 l38 i39 l39 i22)
    have R0 := R
    obtain ⟨vk, vcn, v0, v1, v2, vp, vl0, vl1, vlr, vsr, vc, tx⟩ := R0
    have vk0 := vk
    have vcn0 := vcn
    (refine K_el vk0 ?_; intros hA kc0 kc1 kc2 kc3 kc4 kc5 kc6 kc7 kc8 kc9 kc10 kc11 kc12 kc13 kc14 kc15 kc16 kc17 kc18 kc19 kc20 kc21 kc22 kc23 kc24 kc25 kc26 kc27 kc28 kc29 kc30 kc31 kc32 kc33 kc34 kc35 kc36 kc37 kc38 kc39 kz kt kn3 kn4 kn18 kn21 kn23 kn24 kn25 kn26 kn27 kn29 kn30 kr0_0 kr0_1 kr0_2 kr0_3 kr0_4 kr0_5 kr0_7 kr0_8 kr0_9 kr0_10 kr1_0 kr2_0 kr5_0 kr5_1 kr6_0 kr6_1 kr7_0 kr7_1 kr8_0 kr9_0 kr10_0 kr11_0 kr12_0 kr13_0 kr14_0 kr15_0 kr16_0 kr17_0 kr19_0 kr19_1 kr22_0 kr22_1 kr22_2 kr22_3 kr22_4 kr22_5 kr22_7 kr22_8 kr25_0 kr25_1 kr25_2 kr26_0 kr26_1 kr26_2 kr29_0 kr29_1)
    (refine Cn_el vcn0 ?_; intros ki5_2 ki6_2 ki7_2 ki8_1 ki8_2 ki8_3 ki9_1 ki9_2 ki9_3 ki10_1 ki10_2 ki10_3 ki11_1 ki11_2 ki11_3 ki12_1 ki12_2 ki12_3 ki13_1 ki13_2 ki13_3 ki14_1 ki14_2 ki14_3 ki28_0 ki28_1 ki31_0 ki31_1 ki32_0 ki32_1 ki33_0 ki33_1 ki34_0 ki34_1 ki35_0 ki35_1 ki36_0 ki36_1)
    have hAe : ∀ i j, i < 40 → j < 40 → (A i = A j ↔ i = j) := hA
    have c1 : (Int32.ofNat s < (8 : Int32)) = True := by
      rw [show (8 : Int32) = Int32.ofNat 8 by decide, n_lt (by omega) (by omega)]
      exact eq_true (by omega)
    have c6 : Int32.ofNat s + 1 = Int32.ofNat (s + 1) := n_add s 1
    have c2 : vp_in (Int32.ofNat s) 8 := vp_of (by omega) (by omega)
    have c3 : (Int32.ofNat s).toNatClampNeg = s := n_cl (by omega)
    have c4 := (vc s (by omega)).symm
    have c5 : g_i h0 (A 30) s = g_i h0 (A 18) s := by rw [← i30 s, ← i18 s]; exact c4
    rw [o244_268]
    simp only [o244_269, o244_271, o244_274, o244_275, o244_278, o244_279, o244_280, o244_283, o244_284, o244_285, o244_286, o244_287, o244_288, o244_291, mrf_some, true_and, not_true_eq_false, not_false_eq_true, false_implies, forall_const, and_self, lt_le, i30, kc22, kc30, kn30, kr22_8, c1, c2, c3, c5, c6]
    exact ih

theorem m_digest {A : Nat → Nat} {h0 m : MH} {v : Int32} {Q : MR → MH → Prop} (sm : Sm A h0 m) (R : Rl A m) (cs : Cs m) (hv : edV A h0 v) (hQ : ∀ q, Rl A q → Q (.inl (some (.long (DG A h0 v)))) q) : Ok 244 0 [.ref (A 22), mk0, mk0, mk0, mk0, mk0, mk0, mk0] [] m 119 9469 Q := by
  simp only [o244_0, o244_3, o244_4, o244_5]
  refine ms_S (d0 := 7701) (h0 := h0) (a4 := mk0) (a5 := mk0) (a6 := mk0) (a7 := mk0) (fun m1 s1 R1 cs1 => ?_) 6 0 m rfl sm R cs
  simp only [o244_42, o244_43]
  refine ms_Q0 (bc := 96) (bs := 7446) s1 R1 cs1 (fun m2 s2 R2 cs2 => ?_)
  refine ms_Q1 (bc := 73) (bs := 5423) s2 R2 cs2 (fun m3 s3 R3 cs3 => ?_)
  refine ms_Q2 (bc := 50) (bs := 3400) s3 R3 cs3 (fun m4 s4 R4 cs4 => ?_)
  have R0 := R4
  obtain ⟨vk, vcn, v0, v1, v2, vp, vl0, vl1, vlr, vsr, vc, tx⟩ := R0
  have vk0 := vk
  have vcn0 := vcn
  (refine K_el vk0 ?_; intros hA kc0 kc1 kc2 kc3 kc4 kc5 kc6 kc7 kc8 kc9 kc10 kc11 kc12 kc13 kc14 kc15 kc16 kc17 kc18 kc19 kc20 kc21 kc22 kc23 kc24 kc25 kc26 kc27 kc28 kc29 kc30 kc31 kc32 kc33 kc34 kc35 kc36 kc37 kc38 kc39 kz kt kn3 kn4 kn18 kn21 kn23 kn24 kn25 kn26 kn27 kn29 kn30 kr0_0 kr0_1 kr0_2 kr0_3 kr0_4 kr0_5 kr0_7 kr0_8 kr0_9 kr0_10 kr1_0 kr2_0 kr5_0 kr5_1 kr6_0 kr6_1 kr7_0 kr7_1 kr8_0 kr9_0 kr10_0 kr11_0 kr12_0 kr13_0 kr14_0 kr15_0 kr16_0 kr17_0 kr19_0 kr19_1 kr22_0 kr22_1 kr22_2 kr22_3 kr22_4 kr22_5 kr22_7 kr22_8 kr25_0 kr25_1 kr25_2 kr26_0 kr26_1 kr26_2 kr29_0 kr29_1)
  (refine Cn_el vcn0 ?_; intros ki5_2 ki6_2 ki7_2 ki8_1 ki8_2 ki8_3 ki9_1 ki9_2 ki9_3 ki10_1 ki10_2 ki10_3 ki11_1 ki11_2 ki11_3 ki12_1 ki12_2 ki12_3 ki13_1 ki13_2 ki13_3 ki14_1 ki14_2 ki14_3 ki28_0 ki28_1 ki31_0 ki31_1 ki32_0 ki32_1 ki33_0 ki33_1 ki34_0 ki34_1 ki35_0 ki35_1 ki36_0 ki36_1)
  have hAe : ∀ i j, i < 40 → j < 40 → (A i = A j ↔ i = j) := hA
  rw [o244_44]
  simp only [o244_45, o244_46, o244_126, o244_127, o244_130, o244_131, o244_132, o244_133, o244_135, o244_136, mrf_some, true_and, and_true, not_true_eq_false, not_false_eq_true, false_implies, forall_const, and_self, Nat.reduceLeDiff, lt_le, Int32.reduceLT, kc22, kc23, kn23, kr22_0, Int32.reduceLT]
  refine ms_L s4 R4 (fun a6 => ?_) 16 0 mk0 rfl
  simp only [o244_180, o244_181]
  refine ms_T (bc := 18) (bs := 162) s4 R4 cs4 (fun m5 s5 R5 cs5 => ?_)
  simp only [o244_222, o244_223]
  refine ms_EE (bc := 0) (bs := 0) s5 R5 cs5 (fun m6 s6 R6 cs6 => ?_)
  simp only [o244_266, o244_267]
  refine ms_H s6 R6 ?_ 8 0 rfl
  have R0 := R6
  obtain ⟨vk, vcn, v0, v1, v2, vp, vl0, vl1, vlr, vsr, vc, tx⟩ := R0
  have vk0 := vk
  have vcn0 := vcn
  (refine K_el vk0 ?_; intros hA kc0 kc1 kc2 kc3 kc4 kc5 kc6 kc7 kc8 kc9 kc10 kc11 kc12 kc13 kc14 kc15 kc16 kc17 kc18 kc19 kc20 kc21 kc22 kc23 kc24 kc25 kc26 kc27 kc28 kc29 kc30 kc31 kc32 kc33 kc34 kc35 kc36 kc37 kc38 kc39 kz kt kn3 kn4 kn18 kn21 kn23 kn24 kn25 kn26 kn27 kn29 kn30 kr0_0 kr0_1 kr0_2 kr0_3 kr0_4 kr0_5 kr0_7 kr0_8 kr0_9 kr0_10 kr1_0 kr2_0 kr5_0 kr5_1 kr6_0 kr6_1 kr7_0 kr7_1 kr8_0 kr9_0 kr10_0 kr11_0 kr12_0 kr13_0 kr14_0 kr15_0 kr16_0 kr17_0 kr19_0 kr19_1 kr22_0 kr22_1 kr22_2 kr22_3 kr22_4 kr22_5 kr22_7 kr22_8 kr25_0 kr25_1 kr25_2 kr26_0 kr26_1 kr26_2 kr29_0 kr29_1)
  (refine Cn_el vcn0 ?_; intros ki5_2 ki6_2 ki7_2 ki8_1 ki8_2 ki8_3 ki9_1 ki9_2 ki9_3 ki10_1 ki10_2 ki10_3 ki11_1 ki11_2 ki11_3 ki12_1 ki12_2 ki12_3 ki13_1 ki13_2 ki13_3 ki14_1 ki14_2 ki14_3 ki28_0 ki28_1 ki31_0 ki31_1 ki32_0 ki32_1 ki33_0 ki33_1 ki34_0 ki34_1 ki35_0 ki35_1 ki36_0 ki36_1)
  have hAe : ∀ i j, i < 40 → j < 40 → (A i = A j ↔ i = j) := hA
  have Rt : Rl A (p_i m6 (A 22) 9 0) := Rl_thr R6
  have et := Sm_ed (Sm_tr s6 (Sm_thr (v := 0) R6)) hv
  rcases et with ⟨z, rfl⟩ | ⟨z, rfl⟩
  · have cs1 := fun {Q : MR → MH → Prop} => m_soundNow (Q := Q) Rt (Or.inl ⟨z, rfl⟩)
    simp only [o244_294, o244_295, o244_296, o244_299, o244_300, o244_303, o244_304, o244_305, o244_308, o244_311, o244_312, o244_315, o244_316, o244_317, o244_318, cs1, mc_pi, mcs_0, mcs_l, Kn_v, kok_0, true_and, not_false_eq_true, false_implies, forall_const, and_self, Nat.reduceLeDiff, Nat.reduceAdd, i10, Nat.reduceLT, kc22, kz]
    exact hQ _ Rt
  · have cs1 := fun {Q : MR → MH → Prop} => m_soundNow (Q := Q) Rt (Or.inr ⟨z, rfl⟩)
    simp only [o244_294, o244_295, o244_296, o244_299, o244_300, o244_303, o244_304, o244_305, o244_308, o244_311, o244_312, o244_315, o244_316, o244_317, o244_318, cs1, mc_pi, mcs_0, mcs_l, Kn_v, kok_0, true_and, and_true, not_true_eq_false, false_implies, forall_const, and_self, Nat.reduceLeDiff, Nat.reduceAdd, Nat.reduceLT, kc22, kz]
    exact hQ _ Rt

theorem op_digest {A : Nat → Nat} {h : MH} (R : Rl A h) (Cc : Cs h) : Ok 107 0 [.ref (A 0), mk0, mk0, mk0] [] h 707 89490 (fun r h1 => ∃ k : Int64, r = .inl (some (.long k)) ∧ g_c h1 (A 22) = 9 ∧ Ok 244 0 [.ref (A 22), mk0, mk0, mk0, mk0, mk0, mk0, mk0] [] h1 119 9469 (fun r2 h2 => ∃ b : Int64, r2 = .inl (some (.long b)) ∧ Rl A h2 ∧ k = b)) := by
  have hv : ∃ v, edV A h v := by
    by_cases z : edg A h
    · exact ⟨1, Or.inl ⟨z, rfl⟩⟩
    · exact ⟨0, Or.inr ⟨z, rfl⟩⟩
  obtain ⟨v, hv⟩ := hv
  have k := Ok_low (c_digest (Q := fun r m => r = .inl (some (.long (DG A h v))) ∧ Sm A h m ∧ Rl A m) R hv (fun m s Rm => ⟨rfl, s, Rm⟩))
  refine Ok_mono _ _ _ _ _ _ _ _ _ (fun r m q => ?_) k
  obtain ⟨⟨rfl, s, Rm⟩, lw⟩ := q
  have Cm := Cs_Lw Cc (lw (Rl_z R))
  obtain ⟨vk, -⟩ := id Rm
  (refine K_el vk ?_; intros hA kc0 kc1 kc2 kc3 kc4 kc5 kc6 kc7 kc8 kc9 kc10 kc11 kc12 kc13 kc14 kc15 kc16 kc17 kc18 kc19 kc20 kc21 kc22 kc23 kc24 kc25 kc26 kc27 kc28 kc29 kc30 kc31 kc32 kc33 kc34 kc35 kc36 kc37 kc38 kc39 kz kt kn3 kn4 kn18 kn21 kn23 kn24 kn25 kn26 kn27 kn29 kn30 kr0_0 kr0_1 kr0_2 kr0_3 kr0_4 kr0_5 kr0_7 kr0_8 kr0_9 kr0_10 kr1_0 kr2_0 kr5_0 kr5_1 kr6_0 kr6_1 kr7_0 kr7_1 kr8_0 kr9_0 kr10_0 kr11_0 kr12_0 kr13_0 kr14_0 kr15_0 kr16_0 kr17_0 kr19_0 kr19_1 kr22_0 kr22_1 kr22_2 kr22_3 kr22_4 kr22_5 kr22_7 kr22_8 kr25_0 kr25_1 kr25_2 kr26_0 kr26_1 kr26_2 kr29_0 kr29_1)
  exact ⟨_, rfl, kc22, m_digest s Rm Cm hv (fun q Rq => ⟨_, rfl, Rq, rfl⟩)⟩


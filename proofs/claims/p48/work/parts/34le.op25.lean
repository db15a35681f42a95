section
set_option maxRecDepth 16384
theorem ms_L {A : Nat → Nat} {d : Int64} {h0 m : MH} {Q : MR → MH → Prop} {bc bs : Nat} (sm : Sm A h0 m) (R : Rl A m) (hQ : ∀ a6, Ok 244 180 [.ref (A 22), .long (dL A h0 d 16), mk0, .ref (A 23), .int (Int32.ofNat 16), .int (Int32.ofNat 16), a6, mk0] [] m bc bs Q) : ∀ (k s : Nat) (a6 : Value), s + k = 16 → Ok 244 138 [.ref (A 22), .long (dL A h0 d s), mk0, .ref (A 23), .int (Int32.ofNat 16), .int (Int32.ofNat s), a6, mk0] [] m bc bs Q
  | 0, s, a6, hs => by
    have : s = 16 := by omega
    subst this
    rw [o244_138]
    simp only [o244_140, o244_142, and_true, not_true_eq_false, not_false_eq_true, false_implies, forall_const, lt_le, n_irr]
    exact hQ a6
  | k + 1, s, a6, hs => by
    have ih := ms_L sm R hQ k (s + 1)
    (refine Sm_el sm ?_; intros i0 l0 i1 l1 i2 l2 i3 l3 i4 l4 i5 l5 i6 l6 i7 l7 i8 l8 i9 l9 i10 l10 i11 l11 i12 l12 i13 l13 i14 l14 i15 l15 i16 l16 i17 l17 i18 l18 i19 l19 i23 l23 i24 l24 i25 l25 i26 l26 i27 l27 i28 l28 i29 l29 i30 l30 i31 l31 i32 l32 i33 l33 i34 l34 i35 l35 i36 l36 i37 l37 i38 l38 i39 l39 i22)
    have R0 := R
    obtain ⟨vk, vcn, v0, v1, v2, vp, vl0, vl1, vlr, vsr, vc, tx⟩ := R0
    have vk0 := vk
    have vcn0 := vcn
    (refine K_el vk0 ?_; intros hA kc0 kc1 kc2 kc3 kc4 kc5 kc6 kc7 kc8 kc9 kc10 kc11 kc12 kc13 kc14 kc15 kc16 kc17 kc18 kc19 kc20 kc21 kc22 kc23 kc24 kc25 kc26 kc27 kc28 kc29 kc30 kc31 kc32 kc33 kc34 kc35 kc36 kc37 kc38 kc39 kz kt kn3 kn4 kn18 kn21 kn23 kn24 kn25 kn26 kn27 kn29 kn30 kr0_0 kr0_1 kr0_2 kr0_3 kr0_4 kr0_5 kr0_7 kr0_8 kr0_9 kr0_10 kr1_0 kr2_0 kr5_0 kr5_1 kr6_0 kr6_1 kr7_0 kr7_1 kr8_0 kr9_0 kr10_0 kr11_0 kr12_0 kr13_0 kr14_0 kr15_0 kr16_0 kr17_0 kr19_0 kr19_1 kr22_0 kr22_1 kr22_2 kr22_3 kr22_4 kr22_5 kr22_7 kr22_8 kr25_0 kr25_1 kr25_2 kr26_0 kr26_1 kr26_2 kr29_0 kr29_1)
    (refine Cn_el vcn0 ?_; intros ki5_2 ki6_2 ki7_2 ki8_1 ki8_2 ki8_3 ki9_1 ki9_2 ki9_3 ki10_1 ki10_2 ki10_3 ki11_1 ki11_2 ki11_3 ki12_1 ki12_2 ki12_3 ki13_1 ki13_2 ki13_3 ki14_1 ki14_2 ki14_3 ki28_0 ki28_1 ki31_0 ki31_1 ki32_0 ki32_1 ki33_0 ki33_1 ki34_0 ki34_1 ki35_0 ki35_1 ki36_0 ki36_1)
    have hAe : ∀ i j, i < 40 → j < 40 → (A i = A j ↔ i = j) := hA
    have c1 : (Int32.ofNat s < Int32.ofNat 16) = True := by rw [n_lt (by omega) (by omega)]; exact eq_true (by omega)
    have c6 : Int32.ofNat s + 1 = Int32.ofNat (s + 1) := n_add s 1
    have c2 : vp_in (Int32.ofNat s) 16 := vp_of (by omega) (by omega)
    have c3 : (Int32.ofNat s).toNatClampNeg = s := n_cl (by omega)
    have c4 := (vlr s (by omega)).symm
    have c5 : (32 : Int32) = 32 := by decide
    have z := ih (.long (g_l h0 (A 3) s)) (by omega)
    rw [o244_138]
    simp only [o244_140, o244_142, o244_145, o244_146, o244_148, o244_149, o244_151, o244_152, o244_155, o244_156, o244_158, o244_160, o244_161, o244_162, o244_163, o244_164, o244_167, o244_168, o244_170, o244_171, o244_172, o244_173, o244_174, o244_177, true_and, not_true_eq_false, not_false_eq_true, false_implies, forall_const, and_self, lt_le, kc23, kn23, c1, c2, c3, c4, c6, l3]
    exact z

theorem ms_I0 {A : Nat → Nat} {d : Int64} {h0 m : MH} {Q : MR → MH → Prop} {bc bs : Nat} {a4 a5 a6 a7 : Value} (sm : Sm A h0 m) (R : Rl A m) (hQ : ∀ q, Fr (p_i m (A 22) 9 0) q → Ok 244 182 [.ref (A 22), .long (dg1 d (g_i h0 (A 14) 4)), mk0, .int 1, a4, a5, a6, a7] [] q bc bs Q) : Ok 244 182 [.ref (A 22), .long (d), mk0, .int 0, a4, a5, a6, a7] [] m (bc + 1) (bs + 8) Q := by
  have R0 := R
  obtain ⟨vk, vcn, v0, v1, v2, vp, vl0, vl1, vlr, vsr, vc, tx⟩ := R0
  have vk0 := vk
  have vcn0 := vcn
  (refine K_el vk0 ?_; intros hA kc0 kc1 kc2 kc3 kc4 kc5 kc6 kc7 kc8 kc9 kc10 kc11 kc12 kc13 kc14 kc15 kc16 kc17 kc18 kc19 kc20 kc21 kc22 kc23 kc24 kc25 kc26 kc27 kc28 kc29 kc30 kc31 kc32 kc33 kc34 kc35 kc36 kc37 kc38 kc39 kz kt kn3 kn4 kn18 kn21 kn23 kn24 kn25 kn26 kn27 kn29 kn30 kr0_0 kr0_1 kr0_2 kr0_3 kr0_4 kr0_5 kr0_7 kr0_8 kr0_9 kr0_10 kr1_0 kr2_0 kr5_0 kr5_1 kr6_0 kr6_1 kr7_0 kr7_1 kr8_0 kr9_0 kr10_0 kr11_0 kr12_0 kr13_0 kr14_0 kr15_0 kr16_0 kr17_0 kr19_0 kr19_1 kr22_0 kr22_1 kr22_2 kr22_3 kr22_4 kr22_5 kr22_7 kr22_8 kr25_0 kr25_1 kr25_2 kr26_0 kr26_1 kr26_2 kr29_0 kr29_1)
  (refine Cn_el vcn0 ?_; intros ki5_2 ki6_2 ki7_2 ki8_1 ki8_2 ki8_3 ki9_1 ki9_2 ki9_3 ki10_1 ki10_2 ki10_3 ki11_1 ki11_2 ki11_3 ki12_1 ki12_2 ki12_3 ki13_1 ki13_2 ki13_3 ki14_1 ki14_2 ki14_3 ki28_0 ki28_1 ki31_0 ki31_1 ki32_0 ki32_1 ki33_0 ki33_1 ki34_0 ki34_1 ki35_0 ki35_1 ki36_0 ki36_1)
  have hAe : ∀ i j, i < 40 → j < 40 → (A i = A j ↔ i = j) := hA
  have b8 : (8 : Int32) = 8 := by decide
  have c1 : (1 ≤ bc + 1) = True := eq_true (by omega)
  have c2 : (8 ≤ bs + 8) = True := eq_true (by omega)
  have c3 : bc + 1 - 1 = bc := by omega
  have c4 : bs + 8 - 8 = bs := by omega
  (refine Sm_el sm ?_; intros i0 l0 i1 l1 i2 l2 i3 l3 i4 l4 i5 l5 i6 l6 i7 l7 i8 l8 i9 l9 i10 l10 i11 l11 i12 l12 i13 l13 i14 l14 i15 l15 i16 l16 i17 l17 i18 l18 i19 l19 i23 l23 i24 l24 i25 l25 i26 l26 i27 l27 i28 l28 i29 l29 i30 l30 i31 l31 i32 l32 i33 l33 i34 l34 i35 l35 i36 l36 i37 l37 i38 l38 i39 l39 i22)
  rw [o244_182]
  simp only [o244_183, o244_185, o244_188, o244_189, o244_192, o244_193, o244_194, o244_195, mcs_0, mcs_l, true_and, not_true_eq_false, not_false_eq_true, false_implies, forall_const, Nat.reduceLeDiff, Nat.reduceAdd, lt_le, Int32.reduceLT, kc22, Int32.reduceLT, c1, c2, c3, c4]
  refine m_piX0 R (fun q f => ?_)
  simp only [o244_198, o244_199, o244_200, o244_201, o244_204, Kn_v, Int32.reduceAdd, i14]
  exact hQ q f

theorem ms_I1 {A : Nat → Nat} {d : Int64} {h0 m : MH} {Q : MR → MH → Prop} {bc bs : Nat} {a4 a5 a6 a7 : Value} (sm : Sm A h0 m) (R : Rl A m) (hQ : ∀ q, Fr (p_i m (A 22) 9 0) q → Ok 244 182 [.ref (A 22), .long (dg1 d (g_i h0 (A 14) 5)), mk0, .int 2, a4, a5, a6, a7] [] q bc bs Q) : Ok 244 182 [.ref (A 22), .long (d), mk0, .int 1, a4, a5, a6, a7] [] m (bc + 1) (bs + 8) Q := by
  have R0 := R
  obtain ⟨vk, vcn, v0, v1, v2, vp, vl0, vl1, vlr, vsr, vc, tx⟩ := R0
  have vk0 := vk
  have vcn0 := vcn
  (refine K_el vk0 ?_; intros hA kc0 kc1 kc2 kc3 kc4 kc5 kc6 kc7 kc8 kc9 kc10 kc11 kc12 kc13 kc14 kc15 kc16 kc17 kc18 kc19 kc20 kc21 kc22 kc23 kc24 kc25 kc26 kc27 kc28 kc29 kc30 kc31 kc32 kc33 kc34 kc35 kc36 kc37 kc38 kc39 kz kt kn3 kn4 kn18 kn21 kn23 kn24 kn25 kn26 kn27 kn29 kn30 kr0_0 kr0_1 kr0_2 kr0_3 kr0_4 kr0_5 kr0_7 kr0_8 kr0_9 kr0_10 kr1_0 kr2_0 kr5_0 kr5_1 kr6_0 kr6_1 kr7_0 kr7_1 kr8_0 kr9_0 kr10_0 kr11_0 kr12_0 kr13_0 kr14_0 kr15_0 kr16_0 kr17_0 kr19_0 kr19_1 kr22_0 kr22_1 kr22_2 kr22_3 kr22_4 kr22_5 kr22_7 kr22_8 kr25_0 kr25_1 kr25_2 kr26_0 kr26_1 kr26_2 kr29_0 kr29_1)
  (refine Cn_el vcn0 ?_; intros ki5_2 ki6_2 ki7_2 ki8_1 ki8_2 ki8_3 ki9_1 ki9_2 ki9_3 ki10_1 ki10_2 ki10_3 ki11_1 ki11_2 ki11_3 ki12_1 ki12_2 ki12_3 ki13_1 ki13_2 ki13_3 ki14_1 ki14_2 ki14_3 ki28_0 ki28_1 ki31_0 ki31_1 ki32_0 ki32_1 ki33_0 ki33_1 ki34_0 ki34_1 ki35_0 ki35_1 ki36_0 ki36_1)
  have hAe : ∀ i j, i < 40 → j < 40 → (A i = A j ↔ i = j) := hA
  have b8 : (8 : Int32) = 8 := by decide
  have c1 : (1 ≤ bc + 1) = True := eq_true (by omega)
  have c2 : (8 ≤ bs + 8) = True := eq_true (by omega)
  have c3 : bc + 1 - 1 = bc := by omega
  have c4 : bs + 8 - 8 = bs := by omega
  (refine Sm_el sm ?_; intros i0 l0 i1 l1 i2 l2 i3 l3 i4 l4 i5 l5 i6 l6 i7 l7 i8 l8 i9 l9 i10 l10 i11 l11 i12 l12 i13 l13 i14 l14 i15 l15 i16 l16 i17 l17 i18 l18 i19 l19 i23 l23 i24 l24 i25 l25 i26 l26 i27 l27 i28 l28 i29 l29 i30 l30 i31 l31 i32 l32 i33 l33 i34 l34 i35 l35 i36 l36 i37 l37 i38 l38 i39 l39 i22)
  rw [o244_182]
  simp only [o244_183, o244_185, o244_188, o244_189, o244_192, o244_193, o244_194, o244_195, mcs_0, mcs_l, true_and, not_true_eq_false, not_false_eq_true, false_implies, forall_const, Nat.reduceLeDiff, Nat.reduceAdd, lt_le, Int32.reduceLT, kc22, Int32.reduceLT, c1, c2, c3, c4]
  refine m_piX1 R (fun q f => ?_)
  simp only [o244_198, o244_199, o244_200, o244_201, o244_204, Kn_v, Int32.reduceAdd, i14]
  exact hQ q f

theorem ms_I2 {A : Nat → Nat} {d : Int64} {h0 m : MH} {Q : MR → MH → Prop} {bc bs : Nat} {a4 a5 a6 a7 : Value} (sm : Sm A h0 m) (R : Rl A m) (hQ : ∀ q, Fr (p_i m (A 22) 9 0) q → Ok 244 182 [.ref (A 22), .long (dg1 d (g_i h0 (A 14) 5 - g_i h0 (A 14) 4)), mk0, .int 3, a4, a5, a6, a7] [] q bc bs Q) : Ok 244 182 [.ref (A 22), .long (d), mk0, .int 2, a4, a5, a6, a7] [] m (bc + 1) (bs + 8) Q := by
  have R0 := R
  obtain ⟨vk, vcn, v0, v1, v2, vp, vl0, vl1, vlr, vsr, vc, tx⟩ := R0
  have vk0 := vk
  have vcn0 := vcn
  (refine K_el vk0 ?_; intros hA kc0 kc1 kc2 kc3 kc4 kc5 kc6 kc7 kc8 kc9 kc10 kc11 kc12 kc13 kc14 kc15 kc16 kc17 kc18 kc19 kc20 kc21 kc22 kc23 kc24 kc25 kc26 kc27 kc28 kc29 kc30 kc31 kc32 kc33 kc34 kc35 kc36 kc37 kc38 kc39 kz kt kn3 kn4 kn18 kn21 kn23 kn24 kn25 kn26 kn27 kn29 kn30 kr0_0 kr0_1 kr0_2 kr0_3 kr0_4 kr0_5 kr0_7 kr0_8 kr0_9 kr0_10 kr1_0 kr2_0 kr5_0 kr5_1 kr6_0 kr6_1 kr7_0 kr7_1 kr8_0 kr9_0 kr10_0 kr11_0 kr12_0 kr13_0 kr14_0 kr15_0 kr16_0 kr17_0 kr19_0 kr19_1 kr22_0 kr22_1 kr22_2 kr22_3 kr22_4 kr22_5 kr22_7 kr22_8 kr25_0 kr25_1 kr25_2 kr26_0 kr26_1 kr26_2 kr29_0 kr29_1)
  (refine Cn_el vcn0 ?_; intros ki5_2 ki6_2 ki7_2 ki8_1 ki8_2 ki8_3 ki9_1 ki9_2 ki9_3 ki10_1 ki10_2 ki10_3 ki11_1 ki11_2 ki11_3 ki12_1 ki12_2 ki12_3 ki13_1 ki13_2 ki13_3 ki14_1 ki14_2 ki14_3 ki28_0 ki28_1 ki31_0 ki31_1 ki32_0 ki32_1 ki33_0 ki33_1 ki34_0 ki34_1 ki35_0 ki35_1 ki36_0 ki36_1)
  have hAe : ∀ i j, i < 40 → j < 40 → (A i = A j ↔ i = j) := hA
  have b8 : (8 : Int32) = 8 := by decide
  have c1 : (1 ≤ bc + 1) = True := eq_true (by omega)
  have c2 : (8 ≤ bs + 8) = True := eq_true (by omega)
  have c3 : bc + 1 - 1 = bc := by omega
  have c4 : bs + 8 - 8 = bs := by omega
  (refine Sm_el sm ?_; intros i0 l0 i1 l1 i2 l2 i3 l3 i4 l4 i5 l5 i6 l6 i7 l7 i8 l8 i9 l9 i10 l10 i11 l11 i12 l12 i13 l13 i14 l14 i15 l15 i16 l16 i17 l17 i18 l18 i19 l19 i23 l23 i24 l24 i25 l25 i26 l26 i27 l27 i28 l28 i29 l29 i30 l30 i31 l31 i32 l32 i33 l33 i34 l34 i35 l35 i36 l36 i37 l37 i38 l38 i39 l39 i22)
  rw [o244_182]
  simp only [o244_183, o244_185, o244_188, o244_189, o244_192, o244_193, o244_194, o244_195, mcs_0, mcs_l, true_and, not_true_eq_false, not_false_eq_true, false_implies, forall_const, Nat.reduceLeDiff, Nat.reduceAdd, lt_le, Int32.reduceLT, kc22, Int32.reduceLT, c1, c2, c3, c4]
  refine m_piX2 R (fun q f => ?_)
  simp only [o244_198, o244_199, o244_200, o244_201, o244_204, Kn_v, Int32.reduceAdd, i14]
  exact hQ q f

theorem ms_I3 {A : Nat → Nat} {d : Int64} {h0 m : MH} {Q : MR → MH → Prop} {bc bs : Nat} {a4 a5 a6 a7 : Value} (sm : Sm A h0 m) (R : Rl A m) (hQ : ∀ q, Fr (p_i m (A 22) 9 0) q → Ok 244 182 [.ref (A 22), .long (dg1 d (10)), mk0, .int 4, a4, a5, a6, a7] [] q bc bs Q) : Ok 244 182 [.ref (A 22), .long (d), mk0, .int 3, a4, a5, a6, a7] [] m (bc + 1) (bs + 8) Q := by
  have R0 := R
  obtain ⟨vk, vcn, v0, v1, v2, vp, vl0, vl1, vlr, vsr, vc, tx⟩ := R0
  have vk0 := vk
  have vcn0 := vcn
  (refine K_el vk0 ?_; intros hA kc0 kc1 kc2 kc3 kc4 kc5 kc6 kc7 kc8 kc9 kc10 kc11 kc12 kc13 kc14 kc15 kc16 kc17 kc18 kc19 kc20 kc21 kc22 kc23 kc24 kc25 kc26 kc27 kc28 kc29 kc30 kc31 kc32 kc33 kc34 kc35 kc36 kc37 kc38 kc39 kz kt kn3 kn4 kn18 kn21 kn23 kn24 kn25 kn26 kn27 kn29 kn30 kr0_0 kr0_1 kr0_2 kr0_3 kr0_4 kr0_5 kr0_7 kr0_8 kr0_9 kr0_10 kr1_0 kr2_0 kr5_0 kr5_1 kr6_0 kr6_1 kr7_0 kr7_1 kr8_0 kr9_0 kr10_0 kr11_0 kr12_0 kr13_0 kr14_0 kr15_0 kr16_0 kr17_0 kr19_0 kr19_1 kr22_0 kr22_1 kr22_2 kr22_3 kr22_4 kr22_5 kr22_7 kr22_8 kr25_0 kr25_1 kr25_2 kr26_0 kr26_1 kr26_2 kr29_0 kr29_1)
  (refine Cn_el vcn0 ?_; intros ki5_2 ki6_2 ki7_2 ki8_1 ki8_2 ki8_3 ki9_1 ki9_2 ki9_3 ki10_1 ki10_2 ki10_3 ki11_1 ki11_2 ki11_3 ki12_1 ki12_2 ki12_3 ki13_1 ki13_2 ki13_3 ki14_1 ki14_2 ki14_3 ki28_0 ki28_1 ki31_0 ki31_1 ki32_0 ki32_1 ki33_0 ki33_1 ki34_0 ki34_1 ki35_0 ki35_1 ki36_0 ki36_1)
  have hAe : ∀ i j, i < 40 → j < 40 → (A i = A j ↔ i = j) := hA
  have b8 : (8 : Int32) = 8 := by decide
  have c1 : (1 ≤ bc + 1) = True := eq_true (by omega)
  have c2 : (8 ≤ bs + 8) = True := eq_true (by omega)
  have c3 : bc + 1 - 1 = bc := by omega
  have c4 : bs + 8 - 8 = bs := by omega
  (refine Sm_el sm ?_; intros i0 l0 i1 l1 i2 l2 i3 l3 i4 l4 i5 l5 i6 l6 i7 l7 i8 l8 i9 l9 i10 l10 i11 l11 i12 l12 i13 l13 i14 l14 i15 l15 i16 l16 i17 l17 i18 l18 i19 l19 i23 l23 i24 l24 i25 l25 i26 l26 i27 l27 i28 l28 i29 l29 i30 l30 i31 l31 i32 l32 i33 l33 i34 l34 i35 l35 i36 l36 i37 l37 i38 l38 i39 l39 i22)
  rw [o244_182]
  simp only [o244_183, o244_185, o244_188, o244_189, o244_192, o244_193, o244_194, o244_195, mcs_0, mcs_l, true_and, not_true_eq_false, not_false_eq_true, false_implies, forall_const, Nat.reduceLeDiff, Nat.reduceAdd, lt_le, Int32.reduceLT, kc22, Int32.reduceLT, c1, c2, c3, c4]
  refine m_piX3 R (fun q f => ?_)
  simp only [o244_198, o244_199, o244_200, o244_201, o244_204, Kn_v, Int32.reduceAdd]
  exact hQ q f

theorem ms_I4 {A : Nat → Nat} {d : Int64} {h0 m : MH} {Q : MR → MH → Prop} {bc bs : Nat} {a4 a5 a6 a7 : Value} (sm : Sm A h0 m) (R : Rl A m) (hQ : ∀ q, Fr (p_i m (A 22) 9 0) q → Ok 244 182 [.ref (A 22), .long (dg1 d (g_i h0 (A 14) 6)), mk0, .int 5, a4, a5, a6, a7] [] q bc bs Q) : Ok 244 182 [.ref (A 22), .long (d), mk0, .int 4, a4, a5, a6, a7] [] m (bc + 1) (bs + 8) Q := by
  have R0 := R
  obtain ⟨vk, vcn, v0, v1, v2, vp, vl0, vl1, vlr, vsr, vc, tx⟩ := R0
  have vk0 := vk
  have vcn0 := vcn
  (refine K_el vk0 ?_; intros hA kc0 kc1 kc2 kc3 kc4 kc5 kc6 kc7 kc8 kc9 kc10 kc11 kc12 kc13 kc14 kc15 kc16 kc17 kc18 kc19 kc20 kc21 kc22 kc23 kc24 kc25 kc26 kc27 kc28 kc29 kc30 kc31 kc32 kc33 kc34 kc35 kc36 kc37 kc38 kc39 kz kt kn3 kn4 kn18 kn21 kn23 kn24 kn25 kn26 kn27 kn29 kn30 kr0_0 kr0_1 kr0_2 kr0_3 kr0_4 kr0_5 kr0_7 kr0_8 kr0_9 kr0_10 kr1_0 kr2_0 kr5_0 kr5_1 kr6_0 kr6_1 kr7_0 kr7_1 kr8_0 kr9_0 kr10_0 kr11_0 kr12_0 kr13_0 kr14_0 kr15_0 kr16_0 kr17_0 kr19_0 kr19_1 kr22_0 kr22_1 kr22_2 kr22_3 kr22_4 kr22_5 kr22_7 kr22_8 kr25_0 kr25_1 kr25_2 kr26_0 kr26_1 kr26_2 kr29_0 kr29_1)
  (refine Cn_el vcn0 ?_; intros ki5_2 ki6_2 ki7_2 ki8_1 ki8_2 ki8_3 ki9_1 ki9_2 ki9_3 ki10_1 ki10_2 ki10_3 ki11_1 ki11_2 ki11_3 ki12_1 ki12_2 ki12_3 ki13_1 ki13_2 ki13_3 ki14_1 ki14_2 ki14_3 ki28_0 ki28_1 ki31_0 ki31_1 ki32_0 ki32_1 ki33_0 ki33_1 ki34_0 ki34_1 ki35_0 ki35_1 ki36_0 ki36_1)
  have hAe : ∀ i j, i < 40 → j < 40 → (A i = A j ↔ i = j) := hA
  have b8 : (8 : Int32) = 8 := by decide
  have c1 : (1 ≤ bc + 1) = True := eq_true (by omega)
  have c2 : (8 ≤ bs + 8) = True := eq_true (by omega)
  have c3 : bc + 1 - 1 = bc := by omega
  have c4 : bs + 8 - 8 = bs := by omega
  (refine Sm_el sm ?_; intros i0 l0 i1 l1 i2 l2 i3 l3 i4 l4 i5 l5 i6 l6 i7 l7 i8 l8 i9 l9 i10 l10 i11 l11 i12 l12 i13 l13 i14 l14 i15 l15 i16 l16 i17 l17 i18 l18 i19 l19 i23 l23 i24 l24 i25 l25 i26 l26 i27 l27 i28 l28 i29 l29 i30 l30 i31 l31 i32 l32 i33 l33 i34 l34 i35 l35 i36 l36 i37 l37 i38 l38 i39 l39 i22)
  rw [o244_182]
  simp only [o244_183, o244_185, o244_188, o244_189, o244_192, o244_193, o244_194, o244_195, mcs_0, mcs_l, true_and, not_true_eq_false, not_false_eq_true, false_implies, forall_const, Nat.reduceLeDiff, Nat.reduceAdd, lt_le, Int32.reduceLT, kc22, Int32.reduceLT, c1, c2, c3, c4]
  refine m_piX4 R (fun q f => ?_)
  simp only [o244_198, o244_199, o244_200, o244_201, o244_204, Kn_v, Int32.reduceAdd, i14]
  exact hQ q f

theorem ms_I5 {A : Nat → Nat} {d : Int64} {h0 m : MH} {Q : MR → MH → Prop} {bc bs : Nat} {a4 a5 a6 a7 : Value} (sm : Sm A h0 m) (R : Rl A m) (hQ : ∀ q, Fr (p_i m (A 22) 9 0) q → Ok 244 182 [.ref (A 22), .long (dg1 d (if g_i h0 (A 0) 6 = 0 then 0 else 1)), mk0, .int 6, a4, a5, a6, a7] [] q bc bs Q) : Ok 244 182 [.ref (A 22), .long (d), mk0, .int 5, a4, a5, a6, a7] [] m (bc + 1) (bs + 8) Q := by
  have R0 := R
  obtain ⟨vk, vcn, v0, v1, v2, vp, vl0, vl1, vlr, vsr, vc, tx⟩ := R0
  have vk0 := vk
  have vcn0 := vcn
  (refine K_el vk0 ?_; intros hA kc0 kc1 kc2 kc3 kc4 kc5 kc6 kc7 kc8 kc9 kc10 kc11 kc12 kc13 kc14 kc15 kc16 kc17 kc18 kc19 kc20 kc21 kc22 kc23 kc24 kc25 kc26 kc27 kc28 kc29 kc30 kc31 kc32 kc33 kc34 kc35 kc36 kc37 kc38 kc39 kz kt kn3 kn4 kn18 kn21 kn23 kn24 kn25 kn26 kn27 kn29 kn30 kr0_0 kr0_1 kr0_2 kr0_3 kr0_4 kr0_5 kr0_7 kr0_8 kr0_9 kr0_10 kr1_0 kr2_0 kr5_0 kr5_1 kr6_0 kr6_1 kr7_0 kr7_1 kr8_0 kr9_0 kr10_0 kr11_0 kr12_0 kr13_0 kr14_0 kr15_0 kr16_0 kr17_0 kr19_0 kr19_1 kr22_0 kr22_1 kr22_2 kr22_3 kr22_4 kr22_5 kr22_7 kr22_8 kr25_0 kr25_1 kr25_2 kr26_0 kr26_1 kr26_2 kr29_0 kr29_1)
  (refine Cn_el vcn0 ?_; intros ki5_2 ki6_2 ki7_2 ki8_1 ki8_2 ki8_3 ki9_1 ki9_2 ki9_3 ki10_1 ki10_2 ki10_3 ki11_1 ki11_2 ki11_3 ki12_1 ki12_2 ki12_3 ki13_1 ki13_2 ki13_3 ki14_1 ki14_2 ki14_3 ki28_0 ki28_1 ki31_0 ki31_1 ki32_0 ki32_1 ki33_0 ki33_1 ki34_0 ki34_1 ki35_0 ki35_1 ki36_0 ki36_1)
  have hAe : ∀ i j, i < 40 → j < 40 → (A i = A j ↔ i = j) := hA
  have b8 : (8 : Int32) = 8 := by decide
  have c1 : (1 ≤ bc + 1) = True := eq_true (by omega)
  have c2 : (8 ≤ bs + 8) = True := eq_true (by omega)
  have c3 : bc + 1 - 1 = bc := by omega
  have c4 : bs + 8 - 8 = bs := by omega
  (refine Sm_el sm ?_; intros i0 l0 i1 l1 i2 l2 i3 l3 i4 l4 i5 l5 i6 l6 i7 l7 i8 l8 i9 l9 i10 l10 i11 l11 i12 l12 i13 l13 i14 l14 i15 l15 i16 l16 i17 l17 i18 l18 i19 l19 i23 l23 i24 l24 i25 l25 i26 l26 i27 l27 i28 l28 i29 l29 i30 l30 i31 l31 i32 l32 i33 l33 i34 l34 i35 l35 i36 l36 i37 l37 i38 l38 i39 l39 i22)
  rw [o244_182]
  simp only [o244_183, o244_185, o244_188, o244_189, o244_192, o244_193, o244_194, o244_195, mcs_0, mcs_l, true_and, not_true_eq_false, not_false_eq_true, false_implies, forall_const, Nat.reduceLeDiff, Nat.reduceAdd, lt_le, Int32.reduceLT, kc22, Int32.reduceLT, c1, c2, c3, c4]
  refine m_piX5 R (fun q f => ?_)
  simp only [o244_198, o244_199, o244_200, o244_201, o244_204, Kn_v, Int32.reduceAdd, i0]
  exact hQ q f

theorem ms_I6 {A : Nat → Nat} {d : Int64} {h0 m : MH} {Q : MR → MH → Prop} {bc bs : Nat} {a4 a5 a6 a7 : Value} (sm : Sm A h0 m) (R : Rl A m) (hQ : ∀ q, Fr (p_i m (A 22) 9 0) q → Ok 244 182 [.ref (A 22), .long (dg1 d (1)), mk0, .int 7, a4, a5, a6, a7] [] q bc bs Q) : Ok 244 182 [.ref (A 22), .long (d), mk0, .int 6, a4, a5, a6, a7] [] m (bc + 1) (bs + 8) Q := by
  have R0 := R
  obtain ⟨vk, vcn, v0, v1, v2, vp, vl0, vl1, vlr, vsr, vc, tx⟩ := R0
  have vk0 := vk
  have vcn0 := vcn
  (refine K_el vk0 ?_; intros hA kc0 kc1 kc2 kc3 kc4 kc5 kc6 kc7 kc8 kc9 kc10 kc11 kc12 kc13 kc14 kc15 kc16 kc17 kc18 kc19 kc20 kc21 kc22 kc23 kc24 kc25 kc26 kc27 kc28 kc29 kc30 kc31 kc32 kc33 kc34 kc35 kc36 kc37 kc38 kc39 kz kt kn3 kn4 kn18 kn21 kn23 kn24 kn25 kn26 kn27 kn29 kn30 kr0_0 kr0_1 kr0_2 kr0_3 kr0_4 kr0_5 kr0_7 kr0_8 kr0_9 kr0_10 kr1_0 kr2_0 kr5_0 kr5_1 kr6_0 kr6_1 kr7_0 kr7_1 kr8_0 kr9_0 kr10_0 kr11_0 kr12_0 kr13_0 kr14_0 kr15_0 kr16_0 kr17_0 kr19_0 kr19_1 kr22_0 kr22_1 kr22_2 kr22_3 kr22_4 kr22_5 kr22_7 kr22_8 kr25_0 kr25_1 kr25_2 kr26_0 kr26_1 kr26_2 kr29_0 kr29_1)
  (refine Cn_el vcn0 ?_; intros ki5_2 ki6_2 ki7_2 ki8_1 ki8_2 ki8_3 ki9_1 ki9_2 ki9_3 ki10_1 ki10_2 ki10_3 ki11_1 ki11_2 ki11_3 ki12_1 ki12_2 ki12_3 ki13_1 ki13_2 ki13_3 ki14_1 ki14_2 ki14_3 ki28_0 ki28_1 ki31_0 ki31_1 ki32_0 ki32_1 ki33_0 ki33_1 ki34_0 ki34_1 ki35_0 ki35_1 ki36_0 ki36_1)
  have hAe : ∀ i j, i < 40 → j < 40 → (A i = A j ↔ i = j) := hA
  have b8 : (8 : Int32) = 8 := by decide
  have c1 : (1 ≤ bc + 1) = True := eq_true (by omega)
  have c2 : (8 ≤ bs + 8) = True := eq_true (by omega)
  have c3 : bc + 1 - 1 = bc := by omega
  have c4 : bs + 8 - 8 = bs := by omega
  (refine Sm_el sm ?_; intros i0 l0 i1 l1 i2 l2 i3 l3 i4 l4 i5 l5 i6 l6 i7 l7 i8 l8 i9 l9 i10 l10 i11 l11 i12 l12 i13 l13 i14 l14 i15 l15 i16 l16 i17 l17 i18 l18 i19 l19 i23 l23 i24 l24 i25 l25 i26 l26 i27 l27 i28 l28 i29 l29 i30 l30 i31 l31 i32 l32 i33 l33 i34 l34 i35 l35 i36 l36 i37 l37 i38 l38 i39 l39 i22)
  rw [o244_182]
  simp only [o244_183, o244_185, o244_188, o244_189, o244_192, o244_193, o244_194, o244_195, mcs_0, mcs_l, true_and, not_true_eq_false, not_false_eq_true, false_implies, forall_const, Nat.reduceLeDiff, Nat.reduceAdd, lt_le, Int32.reduceLT, kc22, Int32.reduceLT, c1, c2, c3, c4]
  refine m_piX6 R (fun q f => ?_)
  simp only [o244_198, o244_199, o244_200, o244_201, o244_204, Kn_v, Int32.reduceAdd]
  exact hQ q f

theorem ms_I7 {A : Nat → Nat} {d : Int64} {h0 m : MH} {Q : MR → MH → Prop} {bc bs : Nat} {a4 a5 a6 a7 : Value} (sm : Sm A h0 m) (R : Rl A m) (hQ : ∀ q, Fr (p_i m (A 22) 9 0) q → Ok 244 182 [.ref (A 22), .long (dg1 d (if g_i h0 (A 0) 6 = 0 then g_i h0 (A 14) 4 else g_i h0 (A 14) 5 - g_i h0 (A 14) 4)), mk0, .int 8, a4, a5, a6, a7] [] q bc bs Q) : Ok 244 182 [.ref (A 22), .long (d), mk0, .int 7, a4, a5, a6, a7] [] m (bc + 1) (bs + 8) Q := by
  have R0 := R
  obtain ⟨vk, vcn, v0, v1, v2, vp, vl0, vl1, vlr, vsr, vc, tx⟩ := R0
  have vk0 := vk
  have vcn0 := vcn
  (refine K_el vk0 ?_; intros hA kc0 kc1 kc2 kc3 kc4 kc5 kc6 kc7 kc8 kc9 kc10 kc11 kc12 kc13 kc14 kc15 kc16 kc17 kc18 kc19 kc20 kc21 kc22 kc23 kc24 kc25 kc26 kc27 kc28 kc29 kc30 kc31 kc32 kc33 kc34 kc35 kc36 kc37 kc38 kc39 kz kt kn3 kn4 kn18 kn21 kn23 kn24 kn25 kn26 kn27 kn29 kn30 kr0_0 kr0_1 kr0_2 kr0_3 kr0_4 kr0_5 kr0_7 kr0_8 kr0_9 kr0_10 kr1_0 kr2_0 kr5_0 kr5_1 kr6_0 kr6_1 kr7_0 kr7_1 kr8_0 kr9_0 kr10_0 kr11_0 kr12_0 kr13_0 kr14_0 kr15_0 kr16_0 kr17_0 kr19_0 kr19_1 kr22_0 kr22_1 kr22_2 kr22_3 kr22_4 kr22_5 kr22_7 kr22_8 kr25_0 kr25_1 kr25_2 kr26_0 kr26_1 kr26_2 kr29_0 kr29_1)
  (refine Cn_el vcn0 ?_; intros ki5_2 ki6_2 ki7_2 ki8_1 ki8_2 ki8_3 ki9_1 ki9_2 ki9_3 ki10_1 ki10_2 ki10_3 ki11_1 ki11_2 ki11_3 ki12_1 ki12_2 ki12_3 ki13_1 ki13_2 ki13_3 ki14_1 ki14_2 ki14_3 ki28_0 ki28_1 ki31_0 ki31_1 ki32_0 ki32_1 ki33_0 ki33_1 ki34_0 ki34_1 ki35_0 ki35_1 ki36_0 ki36_1)
  have hAe : ∀ i j, i < 40 → j < 40 → (A i = A j ↔ i = j) := hA
  have b8 : (8 : Int32) = 8 := by decide
  have c1 : (1 ≤ bc + 1) = True := eq_true (by omega)
  have c2 : (8 ≤ bs + 8) = True := eq_true (by omega)
  have c3 : bc + 1 - 1 = bc := by omega
  have c4 : bs + 8 - 8 = bs := by omega
  (refine Sm_el sm ?_; intros i0 l0 i1 l1 i2 l2 i3 l3 i4 l4 i5 l5 i6 l6 i7 l7 i8 l8 i9 l9 i10 l10 i11 l11 i12 l12 i13 l13 i14 l14 i15 l15 i16 l16 i17 l17 i18 l18 i19 l19 i23 l23 i24 l24 i25 l25 i26 l26 i27 l27 i28 l28 i29 l29 i30 l30 i31 l31 i32 l32 i33 l33 i34 l34 i35 l35 i36 l36 i37 l37 i38 l38 i39 l39 i22)
  rw [o244_182]
  simp only [o244_183, o244_185, o244_188, o244_189, o244_192, o244_193, o244_194, o244_195, mcs_0, mcs_l, true_and, not_true_eq_false, not_false_eq_true, false_implies, forall_const, Nat.reduceLeDiff, Nat.reduceAdd, lt_le, Int32.reduceLT, kc22, Int32.reduceLT, c1, c2, c3, c4]
  refine m_piX7 R (fun q f => ?_)
  simp only [o244_198, o244_199, o244_200, o244_201, o244_204, Kn_v, Int32.reduceAdd, i0, i14]
  exact hQ q f

theorem ms_T {A : Nat → Nat} {d : Int64} {h0 m : MH} {Q : MR → MH → Prop} {bc bs : Nat} {a4 a5 a6 a7 : Value} (sm : Sm A h0 m) (R : Rl A m) (cs : Cs m) (hQ : ∀ q, Sm A h0 q → Rl A q → Cs q → Ok 244 222 [.ref (A 22), .long (dT A h0 d), mk0, .int 8, a4, a5, a6, a7] [] q bc bs Q) : Ok 244 182 [.ref (A 22), .long (d), mk0, .int 0, a4, a5, a6, a7] [] m (bc + 32) (bs + 3238) Q := by
  have b8 : (8 : Int32) = 8 := by decide
  refine ms_I0 (bc := bc + 31) (bs := bs + 3230) sm R (fun q0 f0 => ?_)
  obtain ⟨R0, s0⟩ := Rl_fr0 R f0
  have cs0 := Cs_fr0 R cs f0
  replace s0 := Sm_tr sm s0
  refine ms_I1 (bc := bc + 30) (bs := bs + 3222) s0 R0 (fun q1 f1 => ?_)
  obtain ⟨R1, s1⟩ := Rl_fr0 R0 f1
  have cs1 := Cs_fr0 R0 cs0 f1
  replace s1 := Sm_tr s0 s1
  refine ms_I2 (bc := bc + 29) (bs := bs + 3214) s1 R1 (fun q2 f2 => ?_)
  obtain ⟨R2, s2⟩ := Rl_fr0 R1 f2
  have cs2 := Cs_fr0 R1 cs1 f2
  replace s2 := Sm_tr s1 s2
  refine ms_I3 (bc := bc + 28) (bs := bs + 3206) s2 R2 (fun q3 f3 => ?_)
  obtain ⟨R3, s3⟩ := Rl_fr0 R2 f3
  have cs3 := Cs_fr0 R2 cs2 f3
  replace s3 := Sm_tr s2 s3
  refine ms_I4 (bc := bc + 27) (bs := bs + 3198) s3 R3 (fun q4 f4 => ?_)
  obtain ⟨R4, s4⟩ := Rl_fr0 R3 f4
  have cs4 := Cs_fr0 R3 cs3 f4
  replace s4 := Sm_tr s3 s4
  refine ms_I5 (bc := bc + 26) (bs := bs + 3190) s4 R4 (fun q5 f5 => ?_)
  obtain ⟨R5, s5⟩ := Rl_fr0 R4 f5
  have cs5 := Cs_fr0 R4 cs4 f5
  replace s5 := Sm_tr s4 s5
  refine ms_I6 (bc := bc + 25) (bs := bs + 3182) s5 R5 (fun q6 f6 => ?_)
  obtain ⟨R6, s6⟩ := Rl_fr0 R5 f6
  have cs6 := Cs_fr0 R5 cs5 f6
  replace s6 := Sm_tr s5 s6
  refine ms_I7 (bc := bc + 24) (bs := bs + 3174) s6 R6 (fun q7 f7 => ?_)
  obtain ⟨R7, s7⟩ := Rl_fr0 R6 f7
  have cs7 := Cs_fr0 R6 cs6 f7
  replace s7 := Sm_tr s6 s7
  have c1 : (24 ≤ bc + 24) = True := eq_true (by omega)
  have c2 : (3174 ≤ bs + 3174) = True := eq_true (by omega)
  have c3 : bc + 24 - 24 = bc := by omega
  have c4 : bs + 3174 - 3174 = bs := by omega
  have R0 := R7
  obtain ⟨vk, vcn, v0, v1, v2, vp, vl0, vl1, vlr, vsr, vc, tx⟩ := R0
  have vk0 := vk
  have vcn0 := vcn
  (refine K_el vk0 ?_; intros hA kc0 kc1 kc2 kc3 kc4 kc5 kc6 kc7 kc8 kc9 kc10 kc11 kc12 kc13 kc14 kc15 kc16 kc17 kc18 kc19 kc20 kc21 kc22 kc23 kc24 kc25 kc26 kc27 kc28 kc29 kc30 kc31 kc32 kc33 kc34 kc35 kc36 kc37 kc38 kc39 kz kt kn3 kn4 kn18 kn21 kn23 kn24 kn25 kn26 kn27 kn29 kn30 kr0_0 kr0_1 kr0_2 kr0_3 kr0_4 kr0_5 kr0_7 kr0_8 kr0_9 kr0_10 kr1_0 kr2_0 kr5_0 kr5_1 kr6_0 kr6_1 kr7_0 kr7_1 kr8_0 kr9_0 kr10_0 kr11_0 kr12_0 kr13_0 kr14_0 kr15_0 kr16_0 kr17_0 kr19_0 kr19_1 kr22_0 kr22_1 kr22_2 kr22_3 kr22_4 kr22_5 kr22_7 kr22_8 kr25_0 kr25_1 kr25_2 kr26_0 kr26_1 kr26_2 kr29_0 kr29_1)
  (refine Cn_el vcn0 ?_; intros ki5_2 ki6_2 ki7_2 ki8_1 ki8_2 ki8_3 ki9_1 ki9_2 ki9_3 ki10_1 ki10_2 ki10_3 ki11_1 ki11_2 ki11_3 ki12_1 ki12_2 ki12_3 ki13_1 ki13_2 ki13_3 ki14_1 ki14_2 ki14_3 ki28_0 ki28_1 ki31_0 ki31_1 ki32_0 ki32_1 ki33_0 ki33_1 ki34_0 ki34_1 ki35_0 ki35_1 ki36_0 ki36_1)
  have hAe : ∀ i j, i < 40 → j < 40 → (A i = A j ↔ i = j) := hA
  rw [o244_182]
  simp only [o244_183, o244_185, o244_207, o244_208, o244_211, o244_212, o244_213, mcs_0, mcs_l, true_and, and_true, not_true_eq_false, not_false_eq_true, false_implies, forall_const, Nat.reduceLeDiff, Nat.reduceAdd, lt_le, Int32.reduceLT, kc22, Int32.reduceLT, c1, c2, c3, c4]
  refine m_pipeTextNow R7 cs7 (fun q t sb hsb f st => ?_)
  have Rq := Rl_Fn R7 f hsb hsb
  have sq := Sm_tr s7 (Sm_Fn R7 f hsb)
  have cq := Cs_Fx cs7 f (Nat.le_trans (Rl_z R7) hsb) (Nat.le_trans (Rl_z R7) hsb)
  obtain ⟨t1, t2, t3, v, t4, t5, t6, t7⟩ := st
  rw [(Sm_qv s7).2.2.2.1, (Sm_qv s7).2.2.2.2] at t7
  simp only [o244_216, o244_219, o244_220, o244_221, J_slen (v := v), mcs_0, mcs_l, Kn_v, true_and, Nat.reduceLeDiff, Nat.reduceAdd, t1, t3, t4, t5, t7]
  exact hQ q sq Rq cq

theorem ms_E0_0 {A : Nat → Nat} {d : Int64} {h0 m : MH} {Q : MR → MH → Prop} {bc bs : Nat} {a5 a6 a7 : Value} (sm : Sm A h0 m) (R : Rl A m) (hQ : ∀ q, Fr m q → Ok 244 232 [.ref (A 22), .long (dg1 d (g_i h0 (A 15) 4)), mk0, .int 0, .int 1, a5, a6, a7] [] q bc bs Q) : Ok 244 232 [.ref (A 22), .long (d), mk0, .int 0, .int 0, a5, a6, a7] [] m (bc + 1) (bs + 9) Q := by
  have R0 := R
  obtain ⟨vk, vcn, v0, v1, v2, vp, vl0, vl1, vlr, vsr, vc, tx⟩ := R0
  have vk0 := vk
  have vcn0 := vcn
  (refine K_el vk0 ?_; intros hA kc0 kc1 kc2 kc3 kc4 kc5 kc6 kc7 kc8 kc9 kc10 kc11 kc12 kc13 kc14 kc15 kc16 kc17 kc18 kc19 kc20 kc21 kc22 kc23 kc24 kc25 kc26 kc27 kc28 kc29 kc30 kc31 kc32 kc33 kc34 kc35 kc36 kc37 kc38 kc39 kz kt kn3 kn4 kn18 kn21 kn23 kn24 kn25 kn26 kn27 kn29 kn30 kr0_0 kr0_1 kr0_2 kr0_3 kr0_4 kr0_5 kr0_7 kr0_8 kr0_9 kr0_10 kr1_0 kr2_0 kr5_0 kr5_1 kr6_0 kr6_1 kr7_0 kr7_1 kr8_0 kr9_0 kr10_0 kr11_0 kr12_0 kr13_0 kr14_0 kr15_0 kr16_0 kr17_0 kr19_0 kr19_1 kr22_0 kr22_1 kr22_2 kr22_3 kr22_4 kr22_5 kr22_7 kr22_8 kr25_0 kr25_1 kr25_2 kr26_0 kr26_1 kr26_2 kr29_0 kr29_1)
  (refine Cn_el vcn0 ?_; intros ki5_2 ki6_2 ki7_2 ki8_1 ki8_2 ki8_3 ki9_1 ki9_2 ki9_3 ki10_1 ki10_2 ki10_3 ki11_1 ki11_2 ki11_3 ki12_1 ki12_2 ki12_3 ki13_1 ki13_2 ki13_3 ki14_1 ki14_2 ki14_3 ki28_0 ki28_1 ki31_0 ki31_1 ki32_0 ki32_1 ki33_0 ki33_1 ki34_0 ki34_1 ki35_0 ki35_1 ki36_0 ki36_1)
  have hAe : ∀ i j, i < 40 → j < 40 → (A i = A j ↔ i = j) := hA
  have b9 : (9 : Int32) = 9 := by decide
  have c1 : (1 ≤ bc + 1) = True := eq_true (by omega)
  have c2 : (9 ≤ bs + 9) = True := eq_true (by omega)
  have c3 : bc + 1 - 1 = bc := by omega
  have c4 : bs + 9 - 9 = bs := by omega
  (refine Sm_el sm ?_; intros i0 l0 i1 l1 i2 l2 i3 l3 i4 l4 i5 l5 i6 l6 i7 l7 i8 l8 i9 l9 i10 l10 i11 l11 i12 l12 i13 l13 i14 l14 i15 l15 i16 l16 i17 l17 i18 l18 i19 l19 i23 l23 i24 l24 i25 l25 i26 l26 i27 l27 i28 l28 i29 l29 i30 l30 i31 l31 i32 l32 i33 l33 i34 l34 i35 l35 i36 l36 i37 l37 i38 l38 i39 l39 i22)
  rw [o244_232]
  simp only [o244_234, o244_236, o244_239, o244_240, o244_243, o244_244, o244_245, o244_246, o244_248, mcs_0, mcs_l, true_and, not_true_eq_false, not_false_eq_true, false_implies, forall_const, Nat.reduceLeDiff, Nat.reduceAdd, lt_le, Int32.reduceLT, kc22, Int32.reduceLT, c1, c2, c3, c4]
  refine m_leX0_0 R (fun q f => ?_)
  simp only [o244_251, o244_252, o244_253, o244_254, o244_257, Kn_v, Int32.reduceAdd, i15]
  exact hQ q f

theorem ms_E0_1 {A : Nat → Nat} {d : Int64} {h0 m : MH} {Q : MR → MH → Prop} {bc bs : Nat} {a5 a6 a7 : Value} (sm : Sm A h0 m) (R : Rl A m) (hQ : ∀ q, Fr m q → Ok 244 232 [.ref (A 22), .long (dg1 d (g_i h0 (A 15) 5)), mk0, .int 0, .int 2, a5, a6, a7] [] q bc bs Q) : Ok 244 232 [.ref (A 22), .long (d), mk0, .int 0, .int 1, a5, a6, a7] [] m (bc + 1) (bs + 9) Q := by
  have R0 := R
  obtain ⟨vk, vcn, v0, v1, v2, vp, vl0, vl1, vlr, vsr, vc, tx⟩ := R0
  have vk0 := vk
  have vcn0 := vcn
  (refine K_el vk0 ?_; intros hA kc0 kc1 kc2 kc3 kc4 kc5 kc6 kc7 kc8 kc9 kc10 kc11 kc12 kc13 kc14 kc15 kc16 kc17 kc18 kc19 kc20 kc21 kc22 kc23 kc24 kc25 kc26 kc27 kc28 kc29 kc30 kc31 kc32 kc33 kc34 kc35 kc36 kc37 kc38 kc39 kz kt kn3 kn4 kn18 kn21 kn23 kn24 kn25 kn26 kn27 kn29 kn30 kr0_0 kr0_1 kr0_2 kr0_3 kr0_4 kr0_5 kr0_7 kr0_8 kr0_9 kr0_10 kr1_0 kr2_0 kr5_0 kr5_1 kr6_0 kr6_1 kr7_0 kr7_1 kr8_0 kr9_0 kr10_0 kr11_0 kr12_0 kr13_0 kr14_0 kr15_0 kr16_0 kr17_0 kr19_0 kr19_1 kr22_0 kr22_1 kr22_2 kr22_3 kr22_4 kr22_5 kr22_7 kr22_8 kr25_0 kr25_1 kr25_2 kr26_0 kr26_1 kr26_2 kr29_0 kr29_1)
  (refine Cn_el vcn0 ?_; intros ki5_2 ki6_2 ki7_2 ki8_1 ki8_2 ki8_3 ki9_1 ki9_2 ki9_3 ki10_1 ki10_2 ki10_3 ki11_1 ki11_2 ki11_3 ki12_1 ki12_2 ki12_3 ki13_1 ki13_2 ki13_3 ki14_1 ki14_2 ki14_3 ki28_0 ki28_1 ki31_0 ki31_1 ki32_0 ki32_1 ki33_0 ki33_1 ki34_0 ki34_1 ki35_0 ki35_1 ki36_0 ki36_1)
  have hAe : ∀ i j, i < 40 → j < 40 → (A i = A j ↔ i = j) := hA
  have b9 : (9 : Int32) = 9 := by decide
  have c1 : (1 ≤ bc + 1) = True := eq_true (by omega)
  have c2 : (9 ≤ bs + 9) = True := eq_true (by omega)
  have c3 : bc + 1 - 1 = bc := by omega
  have c4 : bs + 9 - 9 = bs := by omega
  (refine Sm_el sm ?_; intros i0 l0 i1 l1 i2 l2 i3 l3 i4 l4 i5 l5 i6 l6 i7 l7 i8 l8 i9 l9 i10 l10 i11 l11 i12 l12 i13 l13 i14 l14 i15 l15 i16 l16 i17 l17 i18 l18 i19 l19 i23 l23 i24 l24 i25 l25 i26 l26 i27 l27 i28 l28 i29 l29 i30 l30 i31 l31 i32 l32 i33 l33 i34 l34 i35 l35 i36 l36 i37 l37 i38 l38 i39 l39 i22)
  rw [o244_232]
  simp only [o244_234, o244_236, o244_239, o244_240, o244_243, o244_244, o244_245, o244_246, o244_248, mcs_0, mcs_l, true_and, not_true_eq_false, not_false_eq_true, false_implies, forall_const, Nat.reduceLeDiff, Nat.reduceAdd, lt_le, Int32.reduceLT, kc22, Int32.reduceLT, c1, c2, c3, c4]
  refine m_leX0_1 R (fun q f => ?_)
  simp only [o244_251, o244_252, o244_253, o244_254, o244_257, Kn_v, Int32.reduceAdd, i15]
  exact hQ q f

theorem ms_E0_2 {A : Nat → Nat} {d : Int64} {h0 m : MH} {Q : MR → MH → Prop} {bc bs : Nat} {a5 a6 a7 : Value} (sm : Sm A h0 m) (R : Rl A m) (hQ : ∀ q, Fr m q → Ok 244 232 [.ref (A 22), .long (dg1 d (g_i h0 (A 15) 2)), mk0, .int 0, .int 3, a5, a6, a7] [] q bc bs Q) : Ok 244 232 [.ref (A 22), .long (d), mk0, .int 0, .int 2, a5, a6, a7] [] m (bc + 1) (bs + 9) Q := by
  have R0 := R
  obtain ⟨vk, vcn, v0, v1, v2, vp, vl0, vl1, vlr, vsr, vc, tx⟩ := R0
  have vk0 := vk
  have vcn0 := vcn
  (refine K_el vk0 ?_; intros hA kc0 kc1 kc2 kc3 kc4 kc5 kc6 kc7 kc8 kc9 kc10 kc11 kc12 kc13 kc14 kc15 kc16 kc17 kc18 kc19 kc20 kc21 kc22 kc23 kc24 kc25 kc26 kc27 kc28 kc29 kc30 kc31 kc32 kc33 kc34 kc35 kc36 kc37 kc38 kc39 kz kt kn3 kn4 kn18 kn21 kn23 kn24 kn25 kn26 kn27 kn29 kn30 kr0_0 kr0_1 kr0_2 kr0_3 kr0_4 kr0_5 kr0_7 kr0_8 kr0_9 kr0_10 kr1_0 kr2_0 kr5_0 kr5_1 kr6_0 kr6_1 kr7_0 kr7_1 kr8_0 kr9_0 kr10_0 kr11_0 kr12_0 kr13_0 kr14_0 kr15_0 kr16_0 kr17_0 kr19_0 kr19_1 kr22_0 kr22_1 kr22_2 kr22_3 kr22_4 kr22_5 kr22_7 kr22_8 kr25_0 kr25_1 kr25_2 kr26_0 kr26_1 kr26_2 kr29_0 kr29_1)
  (refine Cn_el vcn0 ?_; intros ki5_2 ki6_2 ki7_2 ki8_1 ki8_2 ki8_3 ki9_1 ki9_2 ki9_3 ki10_1 ki10_2 ki10_3 ki11_1 ki11_2 ki11_3 ki12_1 ki12_2 ki12_3 ki13_1 ki13_2 ki13_3 ki14_1 ki14_2 ki14_3 ki28_0 ki28_1 ki31_0 ki31_1 ki32_0 ki32_1 ki33_0 ki33_1 ki34_0 ki34_1 ki35_0 ki35_1 ki36_0 ki36_1)
  have hAe : ∀ i j, i < 40 → j < 40 → (A i = A j ↔ i = j) := hA
  have b9 : (9 : Int32) = 9 := by decide
  have c1 : (1 ≤ bc + 1) = True := eq_true (by omega)
  have c2 : (9 ≤ bs + 9) = True := eq_true (by omega)
  have c3 : bc + 1 - 1 = bc := by omega
  have c4 : bs + 9 - 9 = bs := by omega
  (refine Sm_el sm ?_; intros i0 l0 i1 l1 i2 l2 i3 l3 i4 l4 i5 l5 i6 l6 i7 l7 i8 l8 i9 l9 i10 l10 i11 l11 i12 l12 i13 l13 i14 l14 i15 l15 i16 l16 i17 l17 i18 l18 i19 l19 i23 l23 i24 l24 i25 l25 i26 l26 i27 l27 i28 l28 i29 l29 i30 l30 i31 l31 i32 l32 i33 l33 i34 l34 i35 l35 i36 l36 i37 l37 i38 l38 i39 l39 i22)
  rw [o244_232]
  simp only [o244_234, o244_236, o244_239, o244_240, o244_243, o244_244, o244_245, o244_246, o244_248, mcs_0, mcs_l, true_and, not_true_eq_false, not_false_eq_true, false_implies, forall_const, Nat.reduceLeDiff, Nat.reduceAdd, lt_le, Int32.reduceLT, kc22, Int32.reduceLT, c1, c2, c3, c4]
  refine m_leX0_2 R (fun q f => ?_)
  simp only [o244_251, o244_252, o244_253, o244_254, o244_257, Kn_v, Int32.reduceAdd, i15]
  exact hQ q f

theorem ms_E0_3 {A : Nat → Nat} {d : Int64} {h0 m : MH} {Q : MR → MH → Prop} {bc bs : Nat} {a5 a6 a7 : Value} (sm : Sm A h0 m) (R : Rl A m) (hQ : ∀ q, Fr m q → Ok 244 232 [.ref (A 22), .long (dg1 d (g_i h0 (A 15) 5 - g_i h0 (A 15) 4)), mk0, .int 0, .int 4, a5, a6, a7] [] q bc bs Q) : Ok 244 232 [.ref (A 22), .long (d), mk0, .int 0, .int 3, a5, a6, a7] [] m (bc + 1) (bs + 9) Q := by
  have R0 := R
  obtain ⟨vk, vcn, v0, v1, v2, vp, vl0, vl1, vlr, vsr, vc, tx⟩ := R0
  have vk0 := vk
  have vcn0 := vcn
  (refine K_el vk0 ?_; intros hA kc0 kc1 kc2 kc3 kc4 kc5 kc6 kc7 kc8 kc9 kc10 kc11 kc12 kc13 kc14 kc15 kc16 kc17 kc18 kc19 kc20 kc21 kc22 kc23 kc24 kc25 kc26 kc27 kc28 kc29 kc30 kc31 kc32 kc33 kc34 kc35 kc36 kc37 kc38 kc39 kz kt kn3 kn4 kn18 kn21 kn23 kn24 kn25 kn26 kn27 kn29 kn30 kr0_0 kr0_1 kr0_2 kr0_3 kr0_4 kr0_5 kr0_7 kr0_8 kr0_9 kr0_10 kr1_0 kr2_0 kr5_0 kr5_1 kr6_0 kr6_1 kr7_0 kr7_1 kr8_0 kr9_0 kr10_0 kr11_0 kr12_0 kr13_0 kr14_0 kr15_0 kr16_0 kr17_0 kr19_0 kr19_1 kr22_0 kr22_1 kr22_2 kr22_3 kr22_4 kr22_5 kr22_7 kr22_8 kr25_0 kr25_1 kr25_2 kr26_0 kr26_1 kr26_2 kr29_0 kr29_1)
  (refine Cn_el vcn0 ?_; intros ki5_2 ki6_2 ki7_2 ki8_1 ki8_2 ki8_3 ki9_1 ki9_2 ki9_3 ki10_1 ki10_2 ki10_3 ki11_1 ki11_2 ki11_3 ki12_1 ki12_2 ki12_3 ki13_1 ki13_2 ki13_3 ki14_1 ki14_2 ki14_3 ki28_0 ki28_1 ki31_0 ki31_1 ki32_0 ki32_1 ki33_0 ki33_1 ki34_0 ki34_1 ki35_0 ki35_1 ki36_0 ki36_1)
  have hAe : ∀ i j, i < 40 → j < 40 → (A i = A j ↔ i = j) := hA
  have b9 : (9 : Int32) = 9 := by decide
  have c1 : (1 ≤ bc + 1) = True := eq_true (by omega)
  have c2 : (9 ≤ bs + 9) = True := eq_true (by omega)
  have c3 : bc + 1 - 1 = bc := by omega
  have c4 : bs + 9 - 9 = bs := by omega
  (refine Sm_el sm ?_; intros i0 l0 i1 l1 i2 l2 i3 l3 i4 l4 i5 l5 i6 l6 i7 l7 i8 l8 i9 l9 i10 l10 i11 l11 i12 l12 i13 l13 i14 l14 i15 l15 i16 l16 i17 l17 i18 l18 i19 l19 i23 l23 i24 l24 i25 l25 i26 l26 i27 l27 i28 l28 i29 l29 i30 l30 i31 l31 i32 l32 i33 l33 i34 l34 i35 l35 i36 l36 i37 l37 i38 l38 i39 l39 i22)
  rw [o244_232]
  simp only [o244_234, o244_236, o244_239, o244_240, o244_243, o244_244, o244_245, o244_246, o244_248, mcs_0, mcs_l, true_and, not_true_eq_false, not_false_eq_true, false_implies, forall_const, Nat.reduceLeDiff, Nat.reduceAdd, lt_le, Int32.reduceLT, kc22, Int32.reduceLT, c1, c2, c3, c4]
  refine m_leX0_3 R (fun q f => ?_)
  simp only [o244_251, o244_252, o244_253, o244_254, o244_257, Kn_v, Int32.reduceAdd, i15]
  exact hQ q f

theorem ms_E0_4 {A : Nat → Nat} {d : Int64} {h0 m : MH} {Q : MR → MH → Prop} {bc bs : Nat} {a5 a6 a7 : Value} (sm : Sm A h0 m) (R : Rl A m) (hQ : ∀ q, Fr m q → Ok 244 232 [.ref (A 22), .long (dg1 d (g_i h0 (A 15) 6)), mk0, .int 0, .int 5, a5, a6, a7] [] q bc bs Q) : Ok 244 232 [.ref (A 22), .long (d), mk0, .int 0, .int 4, a5, a6, a7] [] m (bc + 1) (bs + 9) Q := by
  have R0 := R
  obtain ⟨vk, vcn, v0, v1, v2, vp, vl0, vl1, vlr, vsr, vc, tx⟩ := R0
  have vk0 := vk
  have vcn0 := vcn
  (refine K_el vk0 ?_; intros hA kc0 kc1 kc2 kc3 kc4 kc5 kc6 kc7 kc8 kc9 kc10 kc11 kc12 kc13 kc14 kc15 kc16 kc17 kc18 kc19 kc20 kc21 kc22 kc23 kc24 kc25 kc26 kc27 kc28 kc29 kc30 kc31 kc32 kc33 kc34 kc35 kc36 kc37 kc38 kc39 kz kt kn3 kn4 kn18 kn21 kn23 kn24 kn25 kn26 kn27 kn29 kn30 kr0_0 kr0_1 kr0_2 kr0_3 kr0_4 kr0_5 kr0_7 kr0_8 kr0_9 kr0_10 kr1_0 kr2_0 kr5_0 kr5_1 kr6_0 kr6_1 kr7_0 kr7_1 kr8_0 kr9_0 kr10_0 kr11_0 kr12_0 kr13_0 kr14_0 kr15_0 kr16_0 kr17_0 kr19_0 kr19_1 kr22_0 kr22_1 kr22_2 kr22_3 kr22_4 kr22_5 kr22_7 kr22_8 kr25_0 kr25_1 kr25_2 kr26_0 kr26_1 kr26_2 kr29_0 kr29_1)
  (refine Cn_el vcn0 ?_; intros ki5_2 ki6_2 ki7_2 ki8_1 ki8_2 ki8_3 ki9_1 ki9_2 ki9_3 ki10_1 ki10_2 ki10_3 ki11_1 ki11_2 ki11_3 ki12_1 ki12_2 ki12_3 ki13_1 ki13_2 ki13_3 ki14_1 ki14_2 ki14_3 ki28_0 ki28_1 ki31_0 ki31_1 ki32_0 ki32_1 ki33_0 ki33_1 ki34_0 ki34_1 ki35_0 ki35_1 ki36_0 ki36_1)
  have hAe : ∀ i j, i < 40 → j < 40 → (A i = A j ↔ i = j) := hA
  have b9 : (9 : Int32) = 9 := by decide
  have c1 : (1 ≤ bc + 1) = True := eq_true (by omega)
  have c2 : (9 ≤ bs + 9) = True := eq_true (by omega)
  have c3 : bc + 1 - 1 = bc := by omega
  have c4 : bs + 9 - 9 = bs := by omega
  (refine Sm_el sm ?_; intros i0 l0 i1 l1 i2 l2 i3 l3 i4 l4 i5 l5 i6 l6 i7 l7 i8 l8 i9 l9 i10 l10 i11 l11 i12 l12 i13 l13 i14 l14 i15 l15 i16 l16 i17 l17 i18 l18 i19 l19 i23 l23 i24 l24 i25 l25 i26 l26 i27 l27 i28 l28 i29 l29 i30 l30 i31 l31 i32 l32 i33 l33 i34 l34 i35 l35 i36 l36 i37 l37 i38 l38 i39 l39 i22)
  rw [o244_232]
  simp only [o244_234, o244_236, o244_239, o244_240, o244_243, o244_244, o244_245, o244_246, o244_248, mcs_0, mcs_l, true_and, not_true_eq_false, not_false_eq_true, false_implies, forall_const, Nat.reduceLeDiff, Nat.reduceAdd, lt_le, Int32.reduceLT, kc22, Int32.reduceLT, c1, c2, c3, c4]
  refine m_leX0_4 R (fun q f => ?_)
  simp only [o244_251, o244_252, o244_253, o244_254, o244_257, Kn_v, Int32.reduceAdd, i15]
  exact hQ q f

theorem ms_E0_5 {A : Nat → Nat} {d : Int64} {h0 m : MH} {Q : MR → MH → Prop} {bc bs : Nat} {a5 a6 a7 : Value} (sm : Sm A h0 m) (R : Rl A m) (hQ : ∀ q, Fr m q → Ok 244 232 [.ref (A 22), .long (dg1 d (if g_i h0 (A 15) 3 = 0 then 0 else 1)), mk0, .int 0, .int 6, a5, a6, a7] [] q bc bs Q) : Ok 244 232 [.ref (A 22), .long (d), mk0, .int 0, .int 5, a5, a6, a7] [] m (bc + 1) (bs + 9) Q := by
  have R0 := R
  obtain ⟨vk, vcn, v0, v1, v2, vp, vl0, vl1, vlr, vsr, vc, tx⟩ := R0
  have vk0 := vk
  have vcn0 := vcn
  (refine K_el vk0 ?_; intros hA kc0 kc1 kc2 kc3 kc4 kc5 kc6 kc7 kc8 kc9 kc10 kc11 kc12 kc13 kc14 kc15 kc16 kc17 kc18 kc19 kc20 kc21 kc22 kc23 kc24 kc25 kc26 kc27 kc28 kc29 kc30 kc31 kc32 kc33 kc34 kc35 kc36 kc37 kc38 kc39 kz kt kn3 kn4 kn18 kn21 kn23 kn24 kn25 kn26 kn27 kn29 kn30 kr0_0 kr0_1 kr0_2 kr0_3 kr0_4 kr0_5 kr0_7 kr0_8 kr0_9 kr0_10 kr1_0 kr2_0 kr5_0 kr5_1 kr6_0 kr6_1 kr7_0 kr7_1 kr8_0 kr9_0 kr10_0 kr11_0 kr12_0 kr13_0 kr14_0 kr15_0 kr16_0 kr17_0 kr19_0 kr19_1 kr22_0 kr22_1 kr22_2 kr22_3 kr22_4 kr22_5 kr22_7 kr22_8 kr25_0 kr25_1 kr25_2 kr26_0 kr26_1 kr26_2 kr29_0 kr29_1)
  (refine Cn_el vcn0 ?_; intros ki5_2 ki6_2 ki7_2 ki8_1 ki8_2 ki8_3 ki9_1 ki9_2 ki9_3 ki10_1 ki10_2 ki10_3 ki11_1 ki11_2 ki11_3 ki12_1 ki12_2 ki12_3 ki13_1 ki13_2 ki13_3 ki14_1 ki14_2 ki14_3 ki28_0 ki28_1 ki31_0 ki31_1 ki32_0 ki32_1 ki33_0 ki33_1 ki34_0 ki34_1 ki35_0 ki35_1 ki36_0 ki36_1)
  have hAe : ∀ i j, i < 40 → j < 40 → (A i = A j ↔ i = j) := hA
  have b9 : (9 : Int32) = 9 := by decide
  have c1 : (1 ≤ bc + 1) = True := eq_true (by omega)
  have c2 : (9 ≤ bs + 9) = True := eq_true (by omega)
  have c3 : bc + 1 - 1 = bc := by omega
  have c4 : bs + 9 - 9 = bs := by omega
  (refine Sm_el sm ?_; intros i0 l0 i1 l1 i2 l2 i3 l3 i4 l4 i5 l5 i6 l6 i7 l7 i8 l8 i9 l9 i10 l10 i11 l11 i12 l12 i13 l13 i14 l14 i15 l15 i16 l16 i17 l17 i18 l18 i19 l19 i23 l23 i24 l24 i25 l25 i26 l26 i27 l27 i28 l28 i29 l29 i30 l30 i31 l31 i32 l32 i33 l33 i34 l34 i35 l35 i36 l36 i37 l37 i38 l38 i39 l39 i22)
  rw [o244_232]
  simp only [o244_234, o244_236, o244_239, o244_240, o244_243, o244_244, o244_245, o244_246, o244_248, mcs_0, mcs_l, true_and, not_true_eq_false, not_false_eq_true, false_implies, forall_const, Nat.reduceLeDiff, Nat.reduceAdd, lt_le, Int32.reduceLT, kc22, Int32.reduceLT, c1, c2, c3, c4]
  refine m_leX0_5 R (fun q f => ?_)
  simp only [o244_251, o244_252, o244_253, o244_254, o244_257, Kn_v, Int32.reduceAdd, i15]
  exact hQ q f

theorem ms_E0_6 {A : Nat → Nat} {d : Int64} {h0 m : MH} {Q : MR → MH → Prop} {bc bs : Nat} {a5 a6 a7 : Value} (sm : Sm A h0 m) (R : Rl A m) (hQ : ∀ q, Fr m q → Ok 244 232 [.ref (A 22), .long (dg1 d (if g_i h0 (A 15) 3 = 0 then 1 else 0)), mk0, .int 0, .int 7, a5, a6, a7] [] q bc bs Q) : Ok 244 232 [.ref (A 22), .long (d), mk0, .int 0, .int 6, a5, a6, a7] [] m (bc + 1) (bs + 9) Q := by
  have R0 := R
  obtain ⟨vk, vcn, v0, v1, v2, vp, vl0, vl1, vlr, vsr, vc, tx⟩ := R0
  have vk0 := vk
  have vcn0 := vcn
  (refine K_el vk0 ?_; intros hA kc0 kc1 kc2 kc3 kc4 kc5 kc6 kc7 kc8 kc9 kc10 kc11 kc12 kc13 kc14 kc15 kc16 kc17 kc18 kc19 kc20 kc21 kc22 kc23 kc24 kc25 kc26 kc27 kc28 kc29 kc30 kc31 kc32 kc33 kc34 kc35 kc36 kc37 kc38 kc39 kz kt kn3 kn4 kn18 kn21 kn23 kn24 kn25 kn26 kn27 kn29 kn30 kr0_0 kr0_1 kr0_2 kr0_3 kr0_4 kr0_5 kr0_7 kr0_8 kr0_9 kr0_10 kr1_0 kr2_0 kr5_0 kr5_1 kr6_0 kr6_1 kr7_0 kr7_1 kr8_0 kr9_0 kr10_0 kr11_0 kr12_0 kr13_0 kr14_0 kr15_0 kr16_0 kr17_0 kr19_0 kr19_1 kr22_0 kr22_1 kr22_2 kr22_3 kr22_4 kr22_5 kr22_7 kr22_8 kr25_0 kr25_1 kr25_2 kr26_0 kr26_1 kr26_2 kr29_0 kr29_1)
  (refine Cn_el vcn0 ?_; intros ki5_2 ki6_2 ki7_2 ki8_1 ki8_2 ki8_3 ki9_1 ki9_2 ki9_3 ki10_1 ki10_2 ki10_3 ki11_1 ki11_2 ki11_3 ki12_1 ki12_2 ki12_3 ki13_1 ki13_2 ki13_3 ki14_1 ki14_2 ki14_3 ki28_0 ki28_1 ki31_0 ki31_1 ki32_0 ki32_1 ki33_0 ki33_1 ki34_0 ki34_1 ki35_0 ki35_1 ki36_0 ki36_1)
  have hAe : ∀ i j, i < 40 → j < 40 → (A i = A j ↔ i = j) := hA
  have b9 : (9 : Int32) = 9 := by decide
  have c1 : (1 ≤ bc + 1) = True := eq_true (by omega)
  have c2 : (9 ≤ bs + 9) = True := eq_true (by omega)
  have c3 : bc + 1 - 1 = bc := by omega
  have c4 : bs + 9 - 9 = bs := by omega
  (refine Sm_el sm ?_; intros i0 l0 i1 l1 i2 l2 i3 l3 i4 l4 i5 l5 i6 l6 i7 l7 i8 l8 i9 l9 i10 l10 i11 l11 i12 l12 i13 l13 i14 l14 i15 l15 i16 l16 i17 l17 i18 l18 i19 l19 i23 l23 i24 l24 i25 l25 i26 l26 i27 l27 i28 l28 i29 l29 i30 l30 i31 l31 i32 l32 i33 l33 i34 l34 i35 l35 i36 l36 i37 l37 i38 l38 i39 l39 i22)
  rw [o244_232]
  simp only [o244_234, o244_236, o244_239, o244_240, o244_243, o244_244, o244_245, o244_246, o244_248, mcs_0, mcs_l, true_and, not_true_eq_false, not_false_eq_true, false_implies, forall_const, Nat.reduceLeDiff, Nat.reduceAdd, lt_le, Int32.reduceLT, kc22, Int32.reduceLT, c1, c2, c3, c4]
  refine m_leX0_6 R (fun q f => ?_)
  simp only [o244_251, o244_252, o244_253, o244_254, o244_257, Kn_v, Int32.reduceAdd, i15]
  exact hQ q f

theorem ms_E0_7 {A : Nat → Nat} {d : Int64} {h0 m : MH} {Q : MR → MH → Prop} {bc bs : Nat} {a5 a6 a7 : Value} (sm : Sm A h0 m) (R : Rl A m) (hQ : ∀ q, Fr m q → Ok 244 232 [.ref (A 22), .long (dg1 d (0)), mk0, .int 0, .int 8, a5, a6, a7] [] q bc bs Q) : Ok 244 232 [.ref (A 22), .long (d), mk0, .int 0, .int 7, a5, a6, a7] [] m (bc + 1) (bs + 9) Q := by
  have R0 := R
  obtain ⟨vk, vcn, v0, v1, v2, vp, vl0, vl1, vlr, vsr, vc, tx⟩ := R0
  have vk0 := vk
  have vcn0 := vcn
  (refine K_el vk0 ?_; intros hA kc0 kc1 kc2 kc3 kc4 kc5 kc6 kc7 kc8 kc9 kc10 kc11 kc12 kc13 kc14 kc15 kc16 kc17 kc18 kc19 kc20 kc21 kc22 kc23 kc24 kc25 kc26 kc27 kc28 kc29 kc30 kc31 kc32 kc33 kc34 kc35 kc36 kc37 kc38 kc39 kz kt kn3 kn4 kn18 kn21 kn23 kn24 kn25 kn26 kn27 kn29 kn30 kr0_0 kr0_1 kr0_2 kr0_3 kr0_4 kr0_5 kr0_7 kr0_8 kr0_9 kr0_10 kr1_0 kr2_0 kr5_0 kr5_1 kr6_0 kr6_1 kr7_0 kr7_1 kr8_0 kr9_0 kr10_0 kr11_0 kr12_0 kr13_0 kr14_0 kr15_0 kr16_0 kr17_0 kr19_0 kr19_1 kr22_0 kr22_1 kr22_2 kr22_3 kr22_4 kr22_5 kr22_7 kr22_8 kr25_0 kr25_1 kr25_2 kr26_0 kr26_1 kr26_2 kr29_0 kr29_1)
  (refine Cn_el vcn0 ?_; intros ki5_2 ki6_2 ki7_2 ki8_1 ki8_2 ki8_3 ki9_1 ki9_2 ki9_3 ki10_1 ki10_2 ki10_3 ki11_1 ki11_2 ki11_3 ki12_1 ki12_2 ki12_3 ki13_1 ki13_2 ki13_3 ki14_1 ki14_2 ki14_3 ki28_0 ki28_1 ki31_0 ki31_1 ki32_0 ki32_1 ki33_0 ki33_1 ki34_0 ki34_1 ki35_0 ki35_1 ki36_0 ki36_1)
  have hAe : ∀ i j, i < 40 → j < 40 → (A i = A j ↔ i = j) := hA
  have b9 : (9 : Int32) = 9 := by decide
  have c1 : (1 ≤ bc + 1) = True := eq_true (by omega)
  have c2 : (9 ≤ bs + 9) = True := eq_true (by omega)
  have c3 : bc + 1 - 1 = bc := by omega
  have c4 : bs + 9 - 9 = bs := by omega
  (refine Sm_el sm ?_; intros i0 l0 i1 l1 i2 l2 i3 l3 i4 l4 i5 l5 i6 l6 i7 l7 i8 l8 i9 l9 i10 l10 i11 l11 i12 l12 i13 l13 i14 l14 i15 l15 i16 l16 i17 l17 i18 l18 i19 l19 i23 l23 i24 l24 i25 l25 i26 l26 i27 l27 i28 l28 i29 l29 i30 l30 i31 l31 i32 l32 i33 l33 i34 l34 i35 l35 i36 l36 i37 l37 i38 l38 i39 l39 i22)
  rw [o244_232]
  simp only [o244_234, o244_236, o244_239, o244_240, o244_243, o244_244, o244_245, o244_246, o244_248, mcs_0, mcs_l, true_and, not_true_eq_false, not_false_eq_true, false_implies, forall_const, Nat.reduceLeDiff, Nat.reduceAdd, lt_le, Int32.reduceLT, kc22, Int32.reduceLT, c1, c2, c3, c4]
  refine m_leX0_7 R (fun q f => ?_)
  simp only [o244_251, o244_252, o244_253, o244_254, o244_257, Kn_v, Int32.reduceAdd]
  exact hQ q f

theorem ms_E0_8 {A : Nat → Nat} {d : Int64} {h0 m : MH} {Q : MR → MH → Prop} {bc bs : Nat} {a5 a6 a7 : Value} (sm : Sm A h0 m) (R : Rl A m) (hQ : ∀ q, Fr m q → Ok 244 232 [.ref (A 22), .long (dg1 d (if g_i h0 (A 15) 3 = 0 then g_i h0 (A 15) 1 else -1)), mk0, .int 0, .int 9, a5, a6, a7] [] q bc bs Q) : Ok 244 232 [.ref (A 22), .long (d), mk0, .int 0, .int 8, a5, a6, a7] [] m (bc + 1) (bs + 9) Q := by
  have R0 := R
  obtain ⟨vk, vcn, v0, v1, v2, vp, vl0, vl1, vlr, vsr, vc, tx⟩ := R0
  have vk0 := vk
  have vcn0 := vcn
  (refine K_el vk0 ?_; intros hA kc0 kc1 kc2 kc3 kc4 kc5 kc6 kc7 kc8 kc9 kc10 kc11 kc12 kc13 kc14 kc15 kc16 kc17 kc18 kc19 kc20 kc21 kc22 kc23 kc24 kc25 kc26 kc27 kc28 kc29 kc30 kc31 kc32 kc33 kc34 kc35 kc36 kc37 kc38 kc39 kz kt kn3 kn4 kn18 kn21 kn23 kn24 kn25 kn26 kn27 kn29 kn30 kr0_0 kr0_1 kr0_2 kr0_3 kr0_4 kr0_5 kr0_7 kr0_8 kr0_9 kr0_10 kr1_0 kr2_0 kr5_0 kr5_1 kr6_0 kr6_1 kr7_0 kr7_1 kr8_0 kr9_0 kr10_0 kr11_0 kr12_0 kr13_0 kr14_0 kr15_0 kr16_0 kr17_0 kr19_0 kr19_1 kr22_0 kr22_1 kr22_2 kr22_3 kr22_4 kr22_5 kr22_7 kr22_8 kr25_0 kr25_1 kr25_2 kr26_0 kr26_1 kr26_2 kr29_0 kr29_1)
  (refine Cn_el vcn0 ?_; intros ki5_2 ki6_2 ki7_2 ki8_1 ki8_2 ki8_3 ki9_1 ki9_2 ki9_3 ki10_1 ki10_2 ki10_3 ki11_1 ki11_2 ki11_3 ki12_1 ki12_2 ki12_3 ki13_1 ki13_2 ki13_3 ki14_1 ki14_2 ki14_3 ki28_0 ki28_1 ki31_0 ki31_1 ki32_0 ki32_1 ki33_0 ki33_1 ki34_0 ki34_1 ki35_0 ki35_1 ki36_0 ki36_1)
  have hAe : ∀ i j, i < 40 → j < 40 → (A i = A j ↔ i = j) := hA
  have b9 : (9 : Int32) = 9 := by decide
  have c1 : (1 ≤ bc + 1) = True := eq_true (by omega)
  have c2 : (9 ≤ bs + 9) = True := eq_true (by omega)
  have c3 : bc + 1 - 1 = bc := by omega
  have c4 : bs + 9 - 9 = bs := by omega
  (refine Sm_el sm ?_; intros i0 l0 i1 l1 i2 l2 i3 l3 i4 l4 i5 l5 i6 l6 i7 l7 i8 l8 i9 l9 i10 l10 i11 l11 i12 l12 i13 l13 i14 l14 i15 l15 i16 l16 i17 l17 i18 l18 i19 l19 i23 l23 i24 l24 i25 l25 i26 l26 i27 l27 i28 l28 i29 l29 i30 l30 i31 l31 i32 l32 i33 l33 i34 l34 i35 l35 i36 l36 i37 l37 i38 l38 i39 l39 i22)
  rw [o244_232]
  simp only [o244_234, o244_236, o244_239, o244_240, o244_243, o244_244, o244_245, o244_246, o244_248, mcs_0, mcs_l, true_and, not_true_eq_false, not_false_eq_true, false_implies, forall_const, Nat.reduceLeDiff, Nat.reduceAdd, lt_le, Int32.reduceLT, kc22, Int32.reduceLT, c1, c2, c3, c4]
  refine m_leX0_8 R (fun q f => ?_)
  simp only [o244_251, o244_252, o244_253, o244_254, o244_257, Kn_v, Int32.reduceAdd, i15]
  exact hQ q f

theorem ms_E1_0 {A : Nat → Nat} {d : Int64} {h0 m : MH} {Q : MR → MH → Prop} {bc bs : Nat} {a5 a6 a7 : Value} (sm : Sm A h0 m) (R : Rl A m) (hQ : ∀ q, Fr m q → Ok 244 232 [.ref (A 22), .long (dg1 d (g_i h0 (A 16) 4)), mk0, .int 1, .int 1, a5, a6, a7] [] q bc bs Q) : Ok 244 232 [.ref (A 22), .long (d), mk0, .int 1, .int 0, a5, a6, a7] [] m (bc + 1) (bs + 9) Q := by
  have R0 := R
  obtain ⟨vk, vcn, v0, v1, v2, vp, vl0, vl1, vlr, vsr, vc, tx⟩ := R0
  have vk0 := vk
  have vcn0 := vcn
  (refine K_el vk0 ?_; intros hA kc0 kc1 kc2 kc3 kc4 kc5 kc6 kc7 kc8 kc9 kc10 kc11 kc12 kc13 kc14 kc15 kc16 kc17 kc18 kc19 kc20 kc21 kc22 kc23 kc24 kc25 kc26 kc27 kc28 kc29 kc30 kc31 kc32 kc33 kc34 kc35 kc36 kc37 kc38 kc39 kz kt kn3 kn4 kn18 kn21 kn23 kn24 kn25 kn26 kn27 kn29 kn30 kr0_0 kr0_1 kr0_2 kr0_3 kr0_4 kr0_5 kr0_7 kr0_8 kr0_9 kr0_10 kr1_0 kr2_0 kr5_0 kr5_1 kr6_0 kr6_1 kr7_0 kr7_1 kr8_0 kr9_0 kr10_0 kr11_0 kr12_0 kr13_0 kr14_0 kr15_0 kr16_0 kr17_0 kr19_0 kr19_1 kr22_0 kr22_1 kr22_2 kr22_3 kr22_4 kr22_5 kr22_7 kr22_8 kr25_0 kr25_1 kr25_2 kr26_0 kr26_1 kr26_2 kr29_0 kr29_1)
  (refine Cn_el vcn0 ?_; intros ki5_2 ki6_2 ki7_2 ki8_1 ki8_2 ki8_3 ki9_1 ki9_2 ki9_3 ki10_1 ki10_2 ki10_3 ki11_1 ki11_2 ki11_3 ki12_1 ki12_2 ki12_3 ki13_1 ki13_2 ki13_3 ki14_1 ki14_2 ki14_3 ki28_0 ki28_1 ki31_0 ki31_1 ki32_0 ki32_1 ki33_0 ki33_1 ki34_0 ki34_1 ki35_0 ki35_1 ki36_0 ki36_1)
  have hAe : ∀ i j, i < 40 → j < 40 → (A i = A j ↔ i = j) := hA
  have b9 : (9 : Int32) = 9 := by decide
  have c1 : (1 ≤ bc + 1) = True := eq_true (by omega)
  have c2 : (9 ≤ bs + 9) = True := eq_true (by omega)
  have c3 : bc + 1 - 1 = bc := by omega
  have c4 : bs + 9 - 9 = bs := by omega
  (refine Sm_el sm ?_; intros i0 l0 i1 l1 i2 l2 i3 l3 i4 l4 i5 l5 i6 l6 i7 l7 i8 l8 i9 l9 i10 l10 i11 l11 i12 l12 i13 l13 i14 l14 i15 l15 i16 l16 i17 l17 i18 l18 i19 l19 i23 l23 i24 l24 i25 l25 i26 l26 i27 l27 i28 l28 i29 l29 i30 l30 i31 l31 i32 l32 i33 l33 i34 l34 i35 l35 i36 l36 i37 l37 i38 l38 i39 l39 i22)
  rw [o244_232]
  simp only [o244_234, o244_236, o244_239, o244_240, o244_243, o244_244, o244_245, o244_246, o244_248, mcs_0, mcs_l, true_and, not_true_eq_false, not_false_eq_true, false_implies, forall_const, Nat.reduceLeDiff, Nat.reduceAdd, lt_le, Int32.reduceLT, kc22, Int32.reduceLT, c1, c2, c3, c4]
  refine m_leX1_0 R (fun q f => ?_)
  simp only [o244_251, o244_252, o244_253, o244_254, o244_257, Kn_v, Int32.reduceAdd, i16]
  exact hQ q f

theorem ms_E1_1 {A : Nat → Nat} {d : Int64} {h0 m : MH} {Q : MR → MH → Prop} {bc bs : Nat} {a5 a6 a7 : Value} (sm : Sm A h0 m) (R : Rl A m) (hQ : ∀ q, Fr m q → Ok 244 232 [.ref (A 22), .long (dg1 d (g_i h0 (A 16) 5)), mk0, .int 1, .int 2, a5, a6, a7] [] q bc bs Q) : Ok 244 232 [.ref (A 22), .long (d), mk0, .int 1, .int 1, a5, a6, a7] [] m (bc + 1) (bs + 9) Q := by
  have R0 := R
  obtain ⟨vk, vcn, v0, v1, v2, vp, vl0, vl1, vlr, vsr, vc, tx⟩ := R0
  have vk0 := vk
  have vcn0 := vcn
  (refine K_el vk0 ?_; intros hA kc0 kc1 kc2 kc3 kc4 kc5 kc6 kc7 kc8 kc9 kc10 kc11 kc12 kc13 kc14 kc15 kc16 kc17 kc18 kc19 kc20 kc21 kc22 kc23 kc24 kc25 kc26 kc27 kc28 kc29 kc30 kc31 kc32 kc33 kc34 kc35 kc36 kc37 kc38 kc39 kz kt kn3 kn4 kn18 kn21 kn23 kn24 kn25 kn26 kn27 kn29 kn30 kr0_0 kr0_1 kr0_2 kr0_3 kr0_4 kr0_5 kr0_7 kr0_8 kr0_9 kr0_10 kr1_0 kr2_0 kr5_0 kr5_1 kr6_0 kr6_1 kr7_0 kr7_1 kr8_0 kr9_0 kr10_0 kr11_0 kr12_0 kr13_0 kr14_0 kr15_0 kr16_0 kr17_0 kr19_0 kr19_1 kr22_0 kr22_1 kr22_2 kr22_3 kr22_4 kr22_5 kr22_7 kr22_8 kr25_0 kr25_1 kr25_2 kr26_0 kr26_1 kr26_2 kr29_0 kr29_1)
  (refine Cn_el vcn0 ?_; intros ki5_2 ki6_2 ki7_2 ki8_1 ki8_2 ki8_3 ki9_1 ki9_2 ki9_3 ki10_1 ki10_2 ki10_3 ki11_1 ki11_2 ki11_3 ki12_1 ki12_2 ki12_3 ki13_1 ki13_2 ki13_3 ki14_1 ki14_2 ki14_3 ki28_0 ki28_1 ki31_0 ki31_1 ki32_0 ki32_1 ki33_0 ki33_1 ki34_0 ki34_1 ki35_0 ki35_1 ki36_0 ki36_1)
  have hAe : ∀ i j, i < 40 → j < 40 → (A i = A j ↔ i = j) := hA
  have b9 : (9 : Int32) = 9 := by decide
  have c1 : (1 ≤ bc + 1) = True := eq_true (by omega)
  have c2 : (9 ≤ bs + 9) = True := eq_true (by omega)
  have c3 : bc + 1 - 1 = bc := by omega
  have c4 : bs + 9 - 9 = bs := by omega
  (refine Sm_el sm ?_; intros i0 l0 i1 l1 i2 l2 i3 l3 i4 l4 i5 l5 i6 l6 i7 l7 i8 l8 i9 l9 i10 l10 i11 l11 i12 l12 i13 l13 i14 l14 i15 l15 i16 l16 i17 l17 i18 l18 i19 l19 i23 l23 i24 l24 i25 l25 i26 l26 i27 l27 i28 l28 i29 l29 i30 l30 i31 l31 i32 l32 i33 l33 i34 l34 i35 l35 i36 l36 i37 l37 i38 l38 i39 l39 i22)
  rw [o244_232]
  simp only [o244_234, o244_236, o244_239, o244_240, o244_243, o244_244, o244_245, o244_246, o244_248, mcs_0, mcs_l, true_and, not_true_eq_false, not_false_eq_true, false_implies, forall_const, Nat.reduceLeDiff, Nat.reduceAdd, lt_le, Int32.reduceLT, kc22, Int32.reduceLT, c1, c2, c3, c4]
  refine m_leX1_1 R (fun q f => ?_)
  simp only [o244_251, o244_252, o244_253, o244_254, o244_257, Kn_v, Int32.reduceAdd, i16]
  exact hQ q f

theorem ms_E1_2 {A : Nat → Nat} {d : Int64} {h0 m : MH} {Q : MR → MH → Prop} {bc bs : Nat} {a5 a6 a7 : Value} (sm : Sm A h0 m) (R : Rl A m) (hQ : ∀ q, Fr m q → Ok 244 232 [.ref (A 22), .long (dg1 d (g_i h0 (A 16) 2)), mk0, .int 1, .int 3, a5, a6, a7] [] q bc bs Q) : Ok 244 232 [.ref (A 22), .long (d), mk0, .int 1, .int 2, a5, a6, a7] [] m (bc + 1) (bs + 9) Q := by
  have R0 := R
  obtain ⟨vk, vcn, v0, v1, v2, vp, vl0, vl1, vlr, vsr, vc, tx⟩ := R0
  have vk0 := vk
  have vcn0 := vcn
  (refine K_el vk0 ?_; intros hA kc0 kc1 kc2 kc3 kc4 kc5 kc6 kc7 kc8 kc9 kc10 kc11 kc12 kc13 kc14 kc15 kc16 kc17 kc18 kc19 kc20 kc21 kc22 kc23 kc24 kc25 kc26 kc27 kc28 kc29 kc30 kc31 kc32 kc33 kc34 kc35 kc36 kc37 kc38 kc39 kz kt kn3 kn4 kn18 kn21 kn23 kn24 kn25 kn26 kn27 kn29 kn30 kr0_0 kr0_1 kr0_2 kr0_3 kr0_4 kr0_5 kr0_7 kr0_8 kr0_9 kr0_10 kr1_0 kr2_0 kr5_0 kr5_1 kr6_0 kr6_1 kr7_0 kr7_1 kr8_0 kr9_0 kr10_0 kr11_0 kr12_0 kr13_0 kr14_0 kr15_0 kr16_0 kr17_0 kr19_0 kr19_1 kr22_0 kr22_1 kr22_2 kr22_3 kr22_4 kr22_5 kr22_7 kr22_8 kr25_0 kr25_1 kr25_2 kr26_0 kr26_1 kr26_2 kr29_0 kr29_1)
  (refine Cn_el vcn0 ?_; intros ki5_2 ki6_2 ki7_2 ki8_1 ki8_2 ki8_3 ki9_1 ki9_2 ki9_3 ki10_1 ki10_2 ki10_3 ki11_1 ki11_2 ki11_3 ki12_1 ki12_2 ki12_3 ki13_1 ki13_2 ki13_3 ki14_1 ki14_2 ki14_3 ki28_0 ki28_1 ki31_0 ki31_1 ki32_0 ki32_1 ki33_0 ki33_1 ki34_0 ki34_1 ki35_0 ki35_1 ki36_0 ki36_1)
  have hAe : ∀ i j, i < 40 → j < 40 → (A i = A j ↔ i = j) := hA
  have b9 : (9 : Int32) = 9 := by decide
  have c1 : (1 ≤ bc + 1) = True := eq_true (by omega)
  have c2 : (9 ≤ bs + 9) = True := eq_true (by omega)
  have c3 : bc + 1 - 1 = bc := by omega
  have c4 : bs + 9 - 9 = bs := by omega
  (refine Sm_el sm ?_; intros i0 l0 i1 l1 i2 l2 i3 l3 i4 l4 i5 l5 i6 l6 i7 l7 i8 l8 i9 l9 i10 l10 i11 l11 i12 l12 i13 l13 i14 l14 i15 l15 i16 l16 i17 l17 i18 l18 i19 l19 i23 l23 i24 l24 i25 l25 i26 l26 i27 l27 i28 l28 i29 l29 i30 l30 i31 l31 i32 l32 i33 l33 i34 l34 i35 l35 i36 l36 i37 l37 i38 l38 i39 l39 i22)
  rw [o244_232]
  simp only [o244_234, o244_236, o244_239, o244_240, o244_243, o244_244, o244_245, o244_246, o244_248, mcs_0, mcs_l, true_and, not_true_eq_false, not_false_eq_true, false_implies, forall_const, Nat.reduceLeDiff, Nat.reduceAdd, lt_le, Int32.reduceLT, kc22, Int32.reduceLT, c1, c2, c3, c4]
  refine m_leX1_2 R (fun q f => ?_)
  simp only [o244_251, o244_252, o244_253, o244_254, o244_257, Kn_v, Int32.reduceAdd, i16]
  exact hQ q f

theorem ms_E1_3 {A : Nat → Nat} {d : Int64} {h0 m : MH} {Q : MR → MH → Prop} {bc bs : Nat} {a5 a6 a7 : Value} (sm : Sm A h0 m) (R : Rl A m) (hQ : ∀ q, Fr m q → Ok 244 232 [.ref (A 22), .long (dg1 d (g_i h0 (A 16) 5 - g_i h0 (A 16) 4)), mk0, .int 1, .int 4, a5, a6, a7] [] q bc bs Q) : Ok 244 232 [.ref (A 22), .long (d), mk0, .int 1, .int 3, a5, a6, a7] [] m (bc + 1) (bs + 9) Q := by
  have R0 := R
  obtain ⟨vk, vcn, v0, v1, v2, vp, vl0, vl1, vlr, vsr, vc, tx⟩ := R0
  have vk0 := vk
  have vcn0 := vcn
  (refine K_el vk0 ?_; intros hA kc0 kc1 kc2 kc3 kc4 kc5 kc6 kc7 kc8 kc9 kc10 kc11 kc12 kc13 kc14 kc15 kc16 kc17 kc18 kc19 kc20 kc21 kc22 kc23 kc24 kc25 kc26 kc27 kc28 kc29 kc30 kc31 kc32 kc33 kc34 kc35 kc36 kc37 kc38 kc39 kz kt kn3 kn4 kn18 kn21 kn23 kn24 kn25 kn26 kn27 kn29 kn30 kr0_0 kr0_1 kr0_2 kr0_3 kr0_4 kr0_5 kr0_7 kr0_8 kr0_9 kr0_10 kr1_0 kr2_0 kr5_0 kr5_1 kr6_0 kr6_1 kr7_0 kr7_1 kr8_0 kr9_0 kr10_0 kr11_0 kr12_0 kr13_0 kr14_0 kr15_0 kr16_0 kr17_0 kr19_0 kr19_1 kr22_0 kr22_1 kr22_2 kr22_3 kr22_4 kr22_5 kr22_7 kr22_8 kr25_0 kr25_1 kr25_2 kr26_0 kr26_1 kr26_2 kr29_0 kr29_1)
  (refine Cn_el vcn0 ?_; intros ki5_2 ki6_2 ki7_2 ki8_1 ki8_2 ki8_3 ki9_1 ki9_2 ki9_3 ki10_1 ki10_2 ki10_3 ki11_1 ki11_2 ki11_3 ki12_1 ki12_2 ki12_3 ki13_1 ki13_2 ki13_3 ki14_1 ki14_2 ki14_3 ki28_0 ki28_1 ki31_0 ki31_1 ki32_0 ki32_1 ki33_0 ki33_1 ki34_0 ki34_1 ki35_0 ki35_1 ki36_0 ki36_1)
  have hAe : ∀ i j, i < 40 → j < 40 → (A i = A j ↔ i = j) := hA
  have b9 : (9 : Int32) = 9 := by decide
  have c1 : (1 ≤ bc + 1) = True := eq_true (by omega)
  have c2 : (9 ≤ bs + 9) = True := eq_true (by omega)
  have c3 : bc + 1 - 1 = bc := by omega
  have c4 : bs + 9 - 9 = bs := by omega
  (refine Sm_el sm ?_; intros i0 l0 i1 l1 i2 l2 i3 l3 i4 l4 i5 l5 i6 l6 i7 l7 i8 l8 i9 l9 i10 l10 i11 l11 i12 l12 i13 l13 i14 l14 i15 l15 i16 l16 i17 l17 i18 l18 i19 l19 i23 l23 i24 l24 i25 l25 i26 l26 i27 l27 i28 l28 i29 l29 i30 l30 i31 l31 i32 l32 i33 l33 i34 l34 i35 l35 i36 l36 i37 l37 i38 l38 i39 l39 i22)
  rw [o244_232]
  simp only [o244_234, o244_236, o244_239, o244_240, o244_243, o244_244, o244_245, o244_246, o244_248, mcs_0, mcs_l, true_and, not_true_eq_false, not_false_eq_true, false_implies, forall_const, Nat.reduceLeDiff, Nat.reduceAdd, lt_le, Int32.reduceLT, kc22, Int32.reduceLT, c1, c2, c3, c4]
  refine m_leX1_3 R (fun q f => ?_)
  simp only [o244_251, o244_252, o244_253, o244_254, o244_257, Kn_v, Int32.reduceAdd, i16]
  exact hQ q f

theorem ms_E1_4 {A : Nat → Nat} {d : Int64} {h0 m : MH} {Q : MR → MH → Prop} {bc bs : Nat} {a5 a6 a7 : Value} (sm : Sm A h0 m) (R : Rl A m) (hQ : ∀ q, Fr m q → Ok 244 232 [.ref (A 22), .long (dg1 d (g_i h0 (A 16) 6)), mk0, .int 1, .int 5, a5, a6, a7] [] q bc bs Q) : Ok 244 232 [.ref (A 22), .long (d), mk0, .int 1, .int 4, a5, a6, a7] [] m (bc + 1) (bs + 9) Q := by
  have R0 := R
  obtain ⟨vk, vcn, v0, v1, v2, vp, vl0, vl1, vlr, vsr, vc, tx⟩ := R0
  have vk0 := vk
  have vcn0 := vcn
  (refine K_el vk0 ?_; intros hA kc0 kc1 kc2 kc3 kc4 kc5 kc6 kc7 kc8 kc9 kc10 kc11 kc12 kc13 kc14 kc15 kc16 kc17 kc18 kc19 kc20 kc21 kc22 kc23 kc24 kc25 kc26 kc27 kc28 kc29 kc30 kc31 kc32 kc33 kc34 kc35 kc36 kc37 kc38 kc39 kz kt kn3 kn4 kn18 kn21 kn23 kn24 kn25 kn26 kn27 kn29 kn30 kr0_0 kr0_1 kr0_2 kr0_3 kr0_4 kr0_5 kr0_7 kr0_8 kr0_9 kr0_10 kr1_0 kr2_0 kr5_0 kr5_1 kr6_0 kr6_1 kr7_0 kr7_1 kr8_0 kr9_0 kr10_0 kr11_0 kr12_0 kr13_0 kr14_0 kr15_0 kr16_0 kr17_0 kr19_0 kr19_1 kr22_0 kr22_1 kr22_2 kr22_3 kr22_4 kr22_5 kr22_7 kr22_8 kr25_0 kr25_1 kr25_2 kr26_0 kr26_1 kr26_2 kr29_0 kr29_1)
  (refine Cn_el vcn0 ?_; intros ki5_2 ki6_2 ki7_2 ki8_1 ki8_2 ki8_3 ki9_1 ki9_2 ki9_3 ki10_1 ki10_2 ki10_3 ki11_1 ki11_2 ki11_3 ki12_1 ki12_2 ki12_3 ki13_1 ki13_2 ki13_3 ki14_1 ki14_2 ki14_3 ki28_0 ki28_1 ki31_0 ki31_1 ki32_0 ki32_1 ki33_0 ki33_1 ki34_0 ki34_1 ki35_0 ki35_1 ki36_0 ki36_1)
  have hAe : ∀ i j, i < 40 → j < 40 → (A i = A j ↔ i = j) := hA
  have b9 : (9 : Int32) = 9 := by decide
  have c1 : (1 ≤ bc + 1) = True := eq_true (by omega)
  have c2 : (9 ≤ bs + 9) = True := eq_true (by omega)
  have c3 : bc + 1 - 1 = bc := by omega
  have c4 : bs + 9 - 9 = bs := by omega
  (refine Sm_el sm ?_; intros i0 l0 i1 l1 i2 l2 i3 l3 i4 l4 i5 l5 i6 l6 i7 l7 i8 l8 i9 l9 i10 l10 i11 l11 i12 l12 i13 l13 i14 l14 i15 l15 i16 l16 i17 l17 i18 l18 i19 l19 i23 l23 i24 l24 i25 l25 i26 l26 i27 l27 i28 l28 i29 l29 i30 l30 i31 l31 i32 l32 i33 l33 i34 l34 i35 l35 i36 l36 i37 l37 i38 l38 i39 l39 i22)
  rw [o244_232]
  simp only [o244_234, o244_236, o244_239, o244_240, o244_243, o244_244, o244_245, o244_246, o244_248, mcs_0, mcs_l, true_and, not_true_eq_false, not_false_eq_true, false_implies, forall_const, Nat.reduceLeDiff, Nat.reduceAdd, lt_le, Int32.reduceLT, kc22, Int32.reduceLT, c1, c2, c3, c4]
  refine m_leX1_4 R (fun q f => ?_)
  simp only [o244_251, o244_252, o244_253, o244_254, o244_257, Kn_v, Int32.reduceAdd, i16]
  exact hQ q f

theorem ms_E1_5 {A : Nat → Nat} {d : Int64} {h0 m : MH} {Q : MR → MH → Prop} {bc bs : Nat} {a5 a6 a7 : Value} (sm : Sm A h0 m) (R : Rl A m) (hQ : ∀ q, Fr m q → Ok 244 232 [.ref (A 22), .long (dg1 d (if g_i h0 (A 16) 3 = 0 then 0 else 1)), mk0, .int 1, .int 6, a5, a6, a7] [] q bc bs Q) : Ok 244 232 [.ref (A 22), .long (d), mk0, .int 1, .int 5, a5, a6, a7] [] m (bc + 1) (bs + 9) Q := by
  have R0 := R
  obtain ⟨vk, vcn, v0, v1, v2, vp, vl0, vl1, vlr, vsr, vc, tx⟩ := R0
  have vk0 := vk
  have vcn0 := vcn
  (refine K_el vk0 ?_; intros hA kc0 kc1 kc2 kc3 kc4 kc5 kc6 kc7 kc8 kc9 kc10 kc11 kc12 kc13 kc14 kc15 kc16 kc17 kc18 kc19 kc20 kc21 kc22 kc23 kc24 kc25 kc26 kc27 kc28 kc29 kc30 kc31 kc32 kc33 kc34 kc35 kc36 kc37 kc38 kc39 kz kt kn3 kn4 kn18 kn21 kn23 kn24 kn25 kn26 kn27 kn29 kn30 kr0_0 kr0_1 kr0_2 kr0_3 kr0_4 kr0_5 kr0_7 kr0_8 kr0_9 kr0_10 kr1_0 kr2_0 kr5_0 kr5_1 kr6_0 kr6_1 kr7_0 kr7_1 kr8_0 kr9_0 kr10_0 kr11_0 kr12_0 kr13_0 kr14_0 kr15_0 kr16_0 kr17_0 kr19_0 kr19_1 kr22_0 kr22_1 kr22_2 kr22_3 kr22_4 kr22_5 kr22_7 kr22_8 kr25_0 kr25_1 kr25_2 kr26_0 kr26_1 kr26_2 kr29_0 kr29_1)
  (refine Cn_el vcn0 ?_; intros ki5_2 ki6_2 ki7_2 ki8_1 ki8_2 ki8_3 ki9_1 ki9_2 ki9_3 ki10_1 ki10_2 ki10_3 ki11_1 ki11_2 ki11_3 ki12_1 ki12_2 ki12_3 ki13_1 ki13_2 ki13_3 ki14_1 ki14_2 ki14_3 ki28_0 ki28_1 ki31_0 ki31_1 ki32_0 ki32_1 ki33_0 ki33_1 ki34_0 ki34_1 ki35_0 ki35_1 ki36_0 ki36_1)
  have hAe : ∀ i j, i < 40 → j < 40 → (A i = A j ↔ i = j) := hA
  have b9 : (9 : Int32) = 9 := by decide
  have c1 : (1 ≤ bc + 1) = True := eq_true (by omega)
  have c2 : (9 ≤ bs + 9) = True := eq_true (by omega)
  have c3 : bc + 1 - 1 = bc := by omega
  have c4 : bs + 9 - 9 = bs := by omega
  (refine Sm_el sm ?_; intros i0 l0 i1 l1 i2 l2 i3 l3 i4 l4 i5 l5 i6 l6 i7 l7 i8 l8 i9 l9 i10 l10 i11 l11 i12 l12 i13 l13 i14 l14 i15 l15 i16 l16 i17 l17 i18 l18 i19 l19 i23 l23 i24 l24 i25 l25 i26 l26 i27 l27 i28 l28 i29 l29 i30 l30 i31 l31 i32 l32 i33 l33 i34 l34 i35 l35 i36 l36 i37 l37 i38 l38 i39 l39 i22)
  rw [o244_232]
  simp only [o244_234, o244_236, o244_239, o244_240, o244_243, o244_244, o244_245, o244_246, o244_248, mcs_0, mcs_l, true_and, not_true_eq_false, not_false_eq_true, false_implies, forall_const, Nat.reduceLeDiff, Nat.reduceAdd, lt_le, Int32.reduceLT, kc22, Int32.reduceLT, c1, c2, c3, c4]
  refine m_leX1_5 R (fun q f => ?_)
  simp only [o244_251, o244_252, o244_253, o244_254, o244_257, Kn_v, Int32.reduceAdd, i16]
  exact hQ q f

theorem ms_E1_6 {A : Nat → Nat} {d : Int64} {h0 m : MH} {Q : MR → MH → Prop} {bc bs : Nat} {a5 a6 a7 : Value} (sm : Sm A h0 m) (R : Rl A m) (hQ : ∀ q, Fr m q → Ok 244 232 [.ref (A 22), .long (dg1 d (if g_i h0 (A 16) 3 = 0 then 1 else 0)), mk0, .int 1, .int 7, a5, a6, a7] [] q bc bs Q) : Ok 244 232 [.ref (A 22), .long (d), mk0, .int 1, .int 6, a5, a6, a7] [] m (bc + 1) (bs + 9) Q := by
  have R0 := R
  obtain ⟨vk, vcn, v0, v1, v2, vp, vl0, vl1, vlr, vsr, vc, tx⟩ := R0
  have vk0 := vk
  have vcn0 := vcn
  (refine K_el vk0 ?_; intros hA kc0 kc1 kc2 kc3 kc4 kc5 kc6 kc7 kc8 kc9 kc10 kc11 kc12 kc13 kc14 kc15 kc16 kc17 kc18 kc19 kc20 kc21 kc22 kc23 kc24 kc25 kc26 kc27 kc28 kc29 kc30 kc31 kc32 kc33 kc34 kc35 kc36 kc37 kc38 kc39 kz kt kn3 kn4 kn18 kn21 kn23 kn24 kn25 kn26 kn27 kn29 kn30 kr0_0 kr0_1 kr0_2 kr0_3 kr0_4 kr0_5 kr0_7 kr0_8 kr0_9 kr0_10 kr1_0 kr2_0 kr5_0 kr5_1 kr6_0 kr6_1 kr7_0 kr7_1 kr8_0 kr9_0 kr10_0 kr11_0 kr12_0 kr13_0 kr14_0 kr15_0 kr16_0 kr17_0 kr19_0 kr19_1 kr22_0 kr22_1 kr22_2 kr22_3 kr22_4 kr22_5 kr22_7 kr22_8 kr25_0 kr25_1 kr25_2 kr26_0 kr26_1 kr26_2 kr29_0 kr29_1)
  (refine Cn_el vcn0 ?_; intros ki5_2 ki6_2 ki7_2 ki8_1 ki8_2 ki8_3 ki9_1 ki9_2 ki9_3 ki10_1 ki10_2 ki10_3 ki11_1 ki11_2 ki11_3 ki12_1 ki12_2 ki12_3 ki13_1 ki13_2 ki13_3 ki14_1 ki14_2 ki14_3 ki28_0 ki28_1 ki31_0 ki31_1 ki32_0 ki32_1 ki33_0 ki33_1 ki34_0 ki34_1 ki35_0 ki35_1 ki36_0 ki36_1)
  have hAe : ∀ i j, i < 40 → j < 40 → (A i = A j ↔ i = j) := hA
  have b9 : (9 : Int32) = 9 := by decide
  have c1 : (1 ≤ bc + 1) = True := eq_true (by omega)
  have c2 : (9 ≤ bs + 9) = True := eq_true (by omega)
  have c3 : bc + 1 - 1 = bc := by omega
  have c4 : bs + 9 - 9 = bs := by omega
  (refine Sm_el sm ?_; intros i0 l0 i1 l1 i2 l2 i3 l3 i4 l4 i5 l5 i6 l6 i7 l7 i8 l8 i9 l9 i10 l10 i11 l11 i12 l12 i13 l13 i14 l14 i15 l15 i16 l16 i17 l17 i18 l18 i19 l19 i23 l23 i24 l24 i25 l25 i26 l26 i27 l27 i28 l28 i29 l29 i30 l30 i31 l31 i32 l32 i33 l33 i34 l34 i35 l35 i36 l36 i37 l37 i38 l38 i39 l39 i22)
  rw [o244_232]
  simp only [o244_234, o244_236, o244_239, o244_240, o244_243, o244_244, o244_245, o244_246, o244_248, mcs_0, mcs_l, true_and, not_true_eq_false, not_false_eq_true, false_implies, forall_const, Nat.reduceLeDiff, Nat.reduceAdd, lt_le, Int32.reduceLT, kc22, Int32.reduceLT, c1, c2, c3, c4]
  refine m_leX1_6 R (fun q f => ?_)
  simp only [o244_251, o244_252, o244_253, o244_254, o244_257, Kn_v, Int32.reduceAdd, i16]
  exact hQ q f

theorem ms_E1_7 {A : Nat → Nat} {d : Int64} {h0 m : MH} {Q : MR → MH → Prop} {bc bs : Nat} {a5 a6 a7 : Value} (sm : Sm A h0 m) (R : Rl A m) (hQ : ∀ q, Fr m q → Ok 244 232 [.ref (A 22), .long (dg1 d (0)), mk0, .int 1, .int 8, a5, a6, a7] [] q bc bs Q) : Ok 244 232 [.ref (A 22), .long (d), mk0, .int 1, .int 7, a5, a6, a7] [] m (bc + 1) (bs + 9) Q := by
  have R0 := R
  obtain ⟨vk, vcn, v0, v1, v2, vp, vl0, vl1, vlr, vsr, vc, tx⟩ := R0
  have vk0 := vk
  have vcn0 := vcn
  (refine K_el vk0 ?_; intros hA kc0 kc1 kc2 kc3 kc4 kc5 kc6 kc7 kc8 kc9 kc10 kc11 kc12 kc13 kc14 kc15 kc16 kc17 kc18 kc19 kc20 kc21 kc22 kc23 kc24 kc25 kc26 kc27 kc28 kc29 kc30 kc31 kc32 kc33 kc34 kc35 kc36 kc37 kc38 kc39 kz kt kn3 kn4 kn18 kn21 kn23 kn24 kn25 kn26 kn27 kn29 kn30 kr0_0 kr0_1 kr0_2 kr0_3 kr0_4 kr0_5 kr0_7 kr0_8 kr0_9 kr0_10 kr1_0 kr2_0 kr5_0 kr5_1 kr6_0 kr6_1 kr7_0 kr7_1 kr8_0 kr9_0 kr10_0 kr11_0 kr12_0 kr13_0 kr14_0 kr15_0 kr16_0 kr17_0 kr19_0 kr19_1 kr22_0 kr22_1 kr22_2 kr22_3 kr22_4 kr22_5 kr22_7 kr22_8 kr25_0 kr25_1 kr25_2 kr26_0 kr26_1 kr26_2 kr29_0 kr29_1)
  (refine Cn_el vcn0 ?_; intros ki5_2 ki6_2 ki7_2 ki8_1 ki8_2 ki8_3 ki9_1 ki9_2 ki9_3 ki10_1 ki10_2 ki10_3 ki11_1 ki11_2 ki11_3 ki12_1 ki12_2 ki12_3 ki13_1 ki13_2 ki13_3 ki14_1 ki14_2 ki14_3 ki28_0 ki28_1 ki31_0 ki31_1 ki32_0 ki32_1 ki33_0 ki33_1 ki34_0 ki34_1 ki35_0 ki35_1 ki36_0 ki36_1)
  have hAe : ∀ i j, i < 40 → j < 40 → (A i = A j ↔ i = j) := hA
  have b9 : (9 : Int32) = 9 := by decide
  have c1 : (1 ≤ bc + 1) = True := eq_true (by omega)
  have c2 : (9 ≤ bs + 9) = True := eq_true (by omega)
  have c3 : bc + 1 - 1 = bc := by omega
  have c4 : bs + 9 - 9 = bs := by omega
  (refine Sm_el sm ?_; intros i0 l0 i1 l1 i2 l2 i3 l3 i4 l4 i5 l5 i6 l6 i7 l7 i8 l8 i9 l9 i10 l10 i11 l11 i12 l12 i13 l13 i14 l14 i15 l15 i16 l16 i17 l17 i18 l18 i19 l19 i23 l23 i24 l24 i25 l25 i26 l26 i27 l27 i28 l28 i29 l29 i30 l30 i31 l31 i32 l32 i33 l33 i34 l34 i35 l35 i36 l36 i37 l37 i38 l38 i39 l39 i22)
  rw [o244_232]
  simp only [o244_234, o244_236, o244_239, o244_240, o244_243, o244_244, o244_245, o244_246, o244_248, mcs_0, mcs_l, true_and, not_true_eq_false, not_false_eq_true, false_implies, forall_const, Nat.reduceLeDiff, Nat.reduceAdd, lt_le, Int32.reduceLT, kc22, Int32.reduceLT, c1, c2, c3, c4]
  refine m_leX1_7 R (fun q f => ?_)
  simp only [o244_251, o244_252, o244_253, o244_254, o244_257, Kn_v, Int32.reduceAdd]
  exact hQ q f

theorem ms_E1_8 {A : Nat → Nat} {d : Int64} {h0 m : MH} {Q : MR → MH → Prop} {bc bs : Nat} {a5 a6 a7 : Value} (sm : Sm A h0 m) (R : Rl A m) (hQ : ∀ q, Fr m q → Ok 244 232 [.ref (A 22), .long (dg1 d (if g_i h0 (A 16) 3 = 0 then g_i h0 (A 16) 1 else -1)), mk0, .int 1, .int 9, a5, a6, a7] [] q bc bs Q) : Ok 244 232 [.ref (A 22), .long (d), mk0, .int 1, .int 8, a5, a6, a7] [] m (bc + 1) (bs + 9) Q := by
  have R0 := R
  obtain ⟨vk, vcn, v0, v1, v2, vp, vl0, vl1, vlr, vsr, vc, tx⟩ := R0
  have vk0 := vk
  have vcn0 := vcn
  (refine K_el vk0 ?_; intros hA kc0 kc1 kc2 kc3 kc4 kc5 kc6 kc7 kc8 kc9 kc10 kc11 kc12 kc13 kc14 kc15 kc16 kc17 kc18 kc19 kc20 kc21 kc22 kc23 kc24 kc25 kc26 kc27 kc28 kc29 kc30 kc31 kc32 kc33 kc34 kc35 kc36 kc37 kc38 kc39 kz kt kn3 kn4 kn18 kn21 kn23 kn24 kn25 kn26 kn27 kn29 kn30 kr0_0 kr0_1 kr0_2 kr0_3 kr0_4 kr0_5 kr0_7 kr0_8 kr0_9 kr0_10 kr1_0 kr2_0 kr5_0 kr5_1 kr6_0 kr6_1 kr7_0 kr7_1 kr8_0 kr9_0 kr10_0 kr11_0 kr12_0 kr13_0 kr14_0 kr15_0 kr16_0 kr17_0 kr19_0 kr19_1 kr22_0 kr22_1 kr22_2 kr22_3 kr22_4 kr22_5 kr22_7 kr22_8 kr25_0 kr25_1 kr25_2 kr26_0 kr26_1 kr26_2 kr29_0 kr29_1)
  (refine Cn_el vcn0 ?_; intros ki5_2 ki6_2 ki7_2 ki8_1 ki8_2 ki8_3 ki9_1 ki9_2 ki9_3 ki10_1 ki10_2 ki10_3 ki11_1 ki11_2 ki11_3 ki12_1 ki12_2 ki12_3 ki13_1 ki13_2 ki13_3 ki14_1 ki14_2 ki14_3 ki28_0 ki28_1 ki31_0 ki31_1 ki32_0 ki32_1 ki33_0 ki33_1 ki34_0 ki34_1 ki35_0 ki35_1 ki36_0 ki36_1)
  have hAe : ∀ i j, i < 40 → j < 40 → (A i = A j ↔ i = j) := hA
  have b9 : (9 : Int32) = 9 := by decide
  have c1 : (1 ≤ bc + 1) = True := eq_true (by omega)
  have c2 : (9 ≤ bs + 9) = True := eq_true (by omega)
  have c3 : bc + 1 - 1 = bc := by omega
  have c4 : bs + 9 - 9 = bs := by omega
  (refine Sm_el sm ?_; intros i0 l0 i1 l1 i2 l2 i3 l3 i4 l4 i5 l5 i6 l6 i7 l7 i8 l8 i9 l9 i10 l10 i11 l11 i12 l12 i13 l13 i14 l14 i15 l15 i16 l16 i17 l17 i18 l18 i19 l19 i23 l23 i24 l24 i25 l25 i26 l26 i27 l27 i28 l28 i29 l29 i30 l30 i31 l31 i32 l32 i33 l33 i34 l34 i35 l35 i36 l36 i37 l37 i38 l38 i39 l39 i22)
  rw [o244_232]
  simp only [o244_234, o244_236, o244_239, o244_240, o244_243, o244_244, o244_245, o244_246, o244_248, mcs_0, mcs_l, true_and, not_true_eq_false, not_false_eq_true, false_implies, forall_const, Nat.reduceLeDiff, Nat.reduceAdd, lt_le, Int32.reduceLT, kc22, Int32.reduceLT, c1, c2, c3, c4]
  refine m_leX1_8 R (fun q f => ?_)
  simp only [o244_251, o244_252, o244_253, o244_254, o244_257, Kn_v, Int32.reduceAdd, i16]
  exact hQ q f

theorem ms_EE {A : Nat → Nat} {d : Int64} {h0 m : MH} {Q : MR → MH → Prop} {bc bs : Nat} {a4 a5 a6 a7 : Value} (sm : Sm A h0 m) (R : Rl A m) (cs : Cs m) (hQ : ∀ q, Sm A h0 q → Rl A q → Cs q → Ok 244 266 [.ref (A 22), .long (dE A h0 d), mk0, .int 2, .int 9, a5, a6, a7] [] q bc bs Q) : Ok 244 224 [.ref (A 22), .long (d), mk0, .int 0, a4, a5, a6, a7] [] m (bc + 18) (bs + 162) Q := by
  have b9 : (9 : Int32) = 9 := by decide
  rw [o244_224]
  simp only [o244_225, o244_226, o244_229, o244_230, true_and, not_true_eq_false, not_false_eq_true, false_implies, forall_const, lt_le, Int32.reduceLT, Int32.reduceLT]
  refine ms_E0_0 (bc := bc + 17) (bs := bs + 153) sm R (fun q0 f0 => ?_)
  have R0 := Rl_Fr R f0
  have s0 := Sm_tr sm (Sm_Fr R f0)
  have cs0 := Cs_Fx (sb := g_t q0) (dg := g_t q0) cs (Fx_Fr f0) (Nat.le_trans (Rl_z R) f0.2.1) (Nat.le_trans (Rl_z R) f0.2.1)
  refine ms_E0_1 (bc := bc + 16) (bs := bs + 144) s0 R0 (fun q1 f1 => ?_)
  have R1 := Rl_Fr R0 f1
  have s1 := Sm_tr s0 (Sm_Fr R0 f1)
  have cs1 := Cs_Fx (sb := g_t q1) (dg := g_t q1) cs0 (Fx_Fr f1) (Nat.le_trans (Rl_z R0) f1.2.1) (Nat.le_trans (Rl_z R0) f1.2.1)
  refine ms_E0_2 (bc := bc + 15) (bs := bs + 135) s1 R1 (fun q2 f2 => ?_)
  have R2 := Rl_Fr R1 f2
  have s2 := Sm_tr s1 (Sm_Fr R1 f2)
  have cs2 := Cs_Fx (sb := g_t q2) (dg := g_t q2) cs1 (Fx_Fr f2) (Nat.le_trans (Rl_z R1) f2.2.1) (Nat.le_trans (Rl_z R1) f2.2.1)
  refine ms_E0_3 (bc := bc + 14) (bs := bs + 126) s2 R2 (fun q3 f3 => ?_)
  have R3 := Rl_Fr R2 f3
  have s3 := Sm_tr s2 (Sm_Fr R2 f3)
  have cs3 := Cs_Fx (sb := g_t q3) (dg := g_t q3) cs2 (Fx_Fr f3) (Nat.le_trans (Rl_z R2) f3.2.1) (Nat.le_trans (Rl_z R2) f3.2.1)
  refine ms_E0_4 (bc := bc + 13) (bs := bs + 117) s3 R3 (fun q4 f4 => ?_)
  have R4 := Rl_Fr R3 f4
  have s4 := Sm_tr s3 (Sm_Fr R3 f4)
  have cs4 := Cs_Fx (sb := g_t q4) (dg := g_t q4) cs3 (Fx_Fr f4) (Nat.le_trans (Rl_z R3) f4.2.1) (Nat.le_trans (Rl_z R3) f4.2.1)
  refine ms_E0_5 (bc := bc + 12) (bs := bs + 108) s4 R4 (fun q5 f5 => ?_)
  have R5 := Rl_Fr R4 f5
  have s5 := Sm_tr s4 (Sm_Fr R4 f5)
  have cs5 := Cs_Fx (sb := g_t q5) (dg := g_t q5) cs4 (Fx_Fr f5) (Nat.le_trans (Rl_z R4) f5.2.1) (Nat.le_trans (Rl_z R4) f5.2.1)
  refine ms_E0_6 (bc := bc + 11) (bs := bs + 99) s5 R5 (fun q6 f6 => ?_)
  have R6 := Rl_Fr R5 f6
  have s6 := Sm_tr s5 (Sm_Fr R5 f6)
  have cs6 := Cs_Fx (sb := g_t q6) (dg := g_t q6) cs5 (Fx_Fr f6) (Nat.le_trans (Rl_z R5) f6.2.1) (Nat.le_trans (Rl_z R5) f6.2.1)
  refine ms_E0_7 (bc := bc + 10) (bs := bs + 90) s6 R6 (fun q7 f7 => ?_)
  have R7 := Rl_Fr R6 f7
  have s7 := Sm_tr s6 (Sm_Fr R6 f7)
  have cs7 := Cs_Fx (sb := g_t q7) (dg := g_t q7) cs6 (Fx_Fr f7) (Nat.le_trans (Rl_z R6) f7.2.1) (Nat.le_trans (Rl_z R6) f7.2.1)
  refine ms_E0_8 (bc := bc + 9) (bs := bs + 81) s7 R7 (fun q8 f8 => ?_)
  have R8 := Rl_Fr R7 f8
  have s8 := Sm_tr s7 (Sm_Fr R7 f8)
  have cs8 := Cs_Fx (sb := g_t q8) (dg := g_t q8) cs7 (Fx_Fr f8) (Nat.le_trans (Rl_z R7) f8.2.1) (Nat.le_trans (Rl_z R7) f8.2.1)
  rw [o244_232]
  simp only [o244_234, o244_236, o244_260, o244_263, and_true, not_true_eq_false, not_false_eq_true, false_implies, forall_const, lt_le, Int32.reduceLT, Int32.reduceAdd, Int32.reduceLT]
  rw [o244_224]
  simp only [o244_225, o244_226, o244_229, o244_230, true_and, not_true_eq_false, not_false_eq_true, false_implies, forall_const, lt_le, Int32.reduceLT, Int32.reduceLT]
  refine ms_E1_0 (bc := bc + 8) (bs := bs + 72) s8 R8 (fun q9 f9 => ?_)
  have R9 := Rl_Fr R8 f9
  have s9 := Sm_tr s8 (Sm_Fr R8 f9)
  have cs9 := Cs_Fx (sb := g_t q9) (dg := g_t q9) cs8 (Fx_Fr f9) (Nat.le_trans (Rl_z R8) f9.2.1) (Nat.le_trans (Rl_z R8) f9.2.1)
  refine ms_E1_1 (bc := bc + 7) (bs := bs + 63) s9 R9 (fun q10 f10 => ?_)
  have R10 := Rl_Fr R9 f10
  have s10 := Sm_tr s9 (Sm_Fr R9 f10)
  have cs10 := Cs_Fx (sb := g_t q10) (dg := g_t q10) cs9 (Fx_Fr f10) (Nat.le_trans (Rl_z R9) f10.2.1) (Nat.le_trans (Rl_z R9) f10.2.1)
  refine ms_E1_2 (bc := bc + 6) (bs := bs + 54) s10 R10 (fun q11 f11 => ?_)
  have R11 := Rl_Fr R10 f11
  have s11 := Sm_tr s10 (Sm_Fr R10 f11)
  have cs11 := Cs_Fx (sb := g_t q11) (dg := g_t q11) cs10 (Fx_Fr f11) (Nat.le_trans (Rl_z R10) f11.2.1) (Nat.le_trans (Rl_z R10) f11.2.1)
  refine ms_E1_3 (bc := bc + 5) (bs := bs + 45) s11 R11 (fun q12 f12 => ?_)
  have R12 := Rl_Fr R11 f12
  have s12 := Sm_tr s11 (Sm_Fr R11 f12)
  have cs12 := Cs_Fx (sb := g_t q12) (dg := g_t q12) cs11 (Fx_Fr f12) (Nat.le_trans (Rl_z R11) f12.2.1) (Nat.le_trans (Rl_z R11) f12.2.1)
  refine ms_E1_4 (bc := bc + 4) (bs := bs + 36) s12 R12 (fun q13 f13 => ?_)
  have R13 := Rl_Fr R12 f13
  have s13 := Sm_tr s12 (Sm_Fr R12 f13)
  have cs13 := Cs_Fx (sb := g_t q13) (dg := g_t q13) cs12 (Fx_Fr f13) (Nat.le_trans (Rl_z R12) f13.2.1) (Nat.le_trans (Rl_z R12) f13.2.1)
  refine ms_E1_5 (bc := bc + 3) (bs := bs + 27) s13 R13 (fun q14 f14 => ?_)
  have R14 := Rl_Fr R13 f14
  have s14 := Sm_tr s13 (Sm_Fr R13 f14)
  have cs14 := Cs_Fx (sb := g_t q14) (dg := g_t q14) cs13 (Fx_Fr f14) (Nat.le_trans (Rl_z R13) f14.2.1) (Nat.le_trans (Rl_z R13) f14.2.1)
  refine ms_E1_6 (bc := bc + 2) (bs := bs + 18) s14 R14 (fun q15 f15 => ?_)
  have R15 := Rl_Fr R14 f15
  have s15 := Sm_tr s14 (Sm_Fr R14 f15)
  have cs15 := Cs_Fx (sb := g_t q15) (dg := g_t q15) cs14 (Fx_Fr f15) (Nat.le_trans (Rl_z R14) f15.2.1) (Nat.le_trans (Rl_z R14) f15.2.1)
  refine ms_E1_7 (bc := bc + 1) (bs := bs + 9) s15 R15 (fun q16 f16 => ?_)
  have R16 := Rl_Fr R15 f16
  have s16 := Sm_tr s15 (Sm_Fr R15 f16)
  have cs16 := Cs_Fx (sb := g_t q16) (dg := g_t q16) cs15 (Fx_Fr f16) (Nat.le_trans (Rl_z R15) f16.2.1) (Nat.le_trans (Rl_z R15) f16.2.1)
  refine ms_E1_8 (bc := bc + 0) (bs := bs + 0) s16 R16 (fun q17 f17 => ?_)
  have R17 := Rl_Fr R16 f17
  have s17 := Sm_tr s16 (Sm_Fr R16 f17)
  have cs17 := Cs_Fx (sb := g_t q17) (dg := g_t q17) cs16 (Fx_Fr f17) (Nat.le_trans (Rl_z R16) f17.2.1) (Nat.le_trans (Rl_z R16) f17.2.1)
  rw [o244_232]
  simp only [o244_234, o244_236, o244_260, o244_263, and_true, not_true_eq_false, not_false_eq_true, false_implies, forall_const, lt_le, Int32.reduceLT, Int32.reduceAdd, Int32.reduceLT]
  rw [o244_224]
  simp only [o244_225, o244_226, and_true, not_true_eq_false, not_false_eq_true, false_implies, forall_const, lt_le, Int32.reduceLT, Int32.reduceLT]
  exact hQ q17 s17 R17 cs17

theorem ms_H {A : Nat → Nat} {d : Int64} {h0 m : MH} {Q : MR → MH → Prop} {bc bs : Nat} {a4 a5 a6 a7 : Value} (sm : Sm A h0 m) (R : Rl A m) (hQ : Ok 244 294 [.ref (A 22), .long (dH A h0 d 8), mk0, .int (Int32.ofNat 8), a4, a5, a6, a7] [] m bc bs Q) : ∀ (k s : Nat), s + k = 8 → Ok 244 268 [.ref (A 22), .long (dH A h0 d s), mk0, .int (Int32.ofNat s), a4, a5, a6, a7] [] m bc bs Q
  | 0, s, hs => by
    have : s = 8 := by omega
    subst this
    have c1 : (Int32.ofNat 8 < (8 : Int32)) = False := by decide
    rw [o244_268]
    simp only [o244_269, o244_271, and_true, not_true_eq_false, not_false_eq_true, false_implies, forall_const, lt_le, c1]
    exact hQ
  | k + 1, s, hs => by
    have ih := ms_H sm R hQ k (s + 1) (by omega)
    (refine Sm_el sm ?_; intros i0 l0 i1 l1 i2 l2 i3 l3 i4 l4 i5 l5 i6 l6 i7 l7 i8 l8 i9 l9 i10 l10 i11 l11 i12 l12 i13 l13 i14 l14 i15 l15 i16 l16 i17 l17 i18 l18 i19 l19 i23 l23 i24 l24 i25 l25 i26 l26 i27 l27 i28 l28 i29 l29 i30 l30 i31 l31 i32 l32 i33 l33 i34 l34 i35 l35 i36 l36 i37 l37 i38 l38 i39 l39 i22)
    have R0 := R
    obtain ⟨vk, vcn, v0, v1, v2, vp, vl0, vl1, vlr, vsr, vc, tx⟩ := R0
    have vk0 := vk
    have vcn0 := vcn
    (refine K_el vk0 ?_; intros hA kc0 kc1 kc2 kc3 kc4 kc5 kc6 kc7 kc8 kc9 kc10 kc11 kc12 kc13 kc14 kc15 kc16 kc17 kc18 kc19 kc20 kc21 kc22 kc23 kc24 kc25 kc26 kc27 kc28 kc29 kc30 kc31 kc32 kc33 kc34 kc35 kc36 kc37 kc38 kc39 kz kt kn3 kn4 kn18 kn21 kn23 kn24 kn25 kn26 kn27 kn29 kn30 kr0_0 kr0_1 kr0_2 kr0_3 kr0_4 kr0_5 kr0_7 kr0_8 kr0_9 kr0_10 kr1_0 kr2_0 kr5_0 kr5_1 kr6_0 kr6_1 kr7_0 kr7_1 kr8_0 kr9_0 kr10_0 kr11_0 kr12_0 kr13_0 kr14_0 kr15_0 kr16_0 kr17_0 kr19_0 kr19_1 kr22_0 kr22_1 kr22_2 kr22_3 kr22_4 kr22_5 kr22_7 kr22_8 kr25_0 kr25_1 kr25_2 kr26_0 kr26_1 kr26_2 kr29_0 kr29_1)
    (refine Cn_el vcn0 ?_; intros ki5_2 ki6_2 ki7_2 ki8_1 ki8_2 ki8_3 ki9_1 ki9_2 ki9_3 ki10_1 ki10_2 ki10_3 ki11_1 ki11_2 ki11_3 ki12_1 ki12_2 ki12_3 ki13_1 ki13_2 ki13_3 ki14_1 ki14_2 ki14_3 ki28_0 ki28_1 ki31_0 ki31_1 ki32_0 ki32_1 ki33_0 ki33_1 ki34_0 ki34_1 ki35_0 ki35_1 ki36_0 ki36_1)
    have hAe : ∀ i j, i < 40 → j < 40 → (A i = A j ↔ i = j) := hA
    have c1 : (Int32.ofNat s < (8 : Int32)) = True := by
      rw [show (8 : Int32) = Int32.ofNat 8 by decide, n_lt (by omega) (by omega)]
      exact eq_true (by omega)
    have c6 : Int32.ofNat s + 1 = Int32.ofNat (s + 1) := n_add s 1
    have c2 : vp_in (Int32.ofNat s) 8 := vp_of (by omega) (by omega)
    have c3 : (Int32.ofNat s).toNatClampNeg = s := n_cl (by omega)
    have c4 := (vc s (by omega)).symm
    have c5 : g_i h0 (A 30) s = g_i h0 (A 18) s := by rw [← i30 s, ← i18 s]; exact c4
    rw [o244_268]
    simp only [o244_269, o244_271, o244_274, o244_275, o244_278, o244_279, o244_280, o244_283, o244_284, o244_285, o244_286, o244_287, o244_288, o244_291, mrf_some, true_and, not_true_eq_false, not_false_eq_true, false_implies, forall_const, and_self, lt_le, i30, kc22, kc30, kn30, kr22_8, c1, c2, c3, c5, c6]
    exact ih

theorem m_digest {A : Nat → Nat} {h0 m : MH} {v : Int32} {Q : MR → MH → Prop} (sm : Sm A h0 m) (R : Rl A m) (cs : Cs m) (hv : edV A h0 v) (hQ : ∀ q, Rl A q → Q (.inl (some (.long (DG A h0 v)))) q) : Ok 244 0 [.ref (A 22), mk0, mk0, mk0, mk0, mk0, mk0, mk0] [] m 119 9469 Q := by
  simp only [o244_0, o244_3, o244_4, o244_5]
  refine ms_S (d0 := 7701) (h0 := h0) (a4 := mk0) (a5 := mk0) (a6 := mk0) (a7 := mk0) (fun m1 s1 R1 cs1 => ?_) 6 0 m rfl sm R cs
  simp only [o244_42, o244_43]
  refine ms_Q0 (bc := 96) (bs := 7446) s1 R1 cs1 (fun m2 s2 R2 cs2 => ?_)
  refine ms_Q1 (bc := 73) (bs := 5423) s2 R2 cs2 (fun m3 s3 R3 cs3 => ?_)
  refine ms_Q2 (bc := 50) (bs := 3400) s3 R3 cs3 (fun m4 s4 R4 cs4 => ?_)
  have R0 := R4
  obtain ⟨vk, vcn, v0, v1, v2, vp, vl0, vl1, vlr, vsr, vc, tx⟩ := R0
  have vk0 := vk
  have vcn0 := vcn
  (refine K_el vk0 ?_; intros hA kc0 kc1 kc2 kc3 kc4 kc5 kc6 kc7 kc8 kc9 kc10 kc11 kc12 kc13 kc14 kc15 kc16 kc17 kc18 kc19 kc20 kc21 kc22 kc23 kc24 kc25 kc26 kc27 kc28 kc29 kc30 kc31 kc32 kc33 kc34 kc35 kc36 kc37 kc38 kc39 kz kt kn3 kn4 kn18 kn21 kn23 kn24 kn25 kn26 kn27 kn29 kn30 kr0_0 kr0_1 kr0_2 kr0_3 kr0_4 kr0_5 kr0_7 kr0_8 kr0_9 kr0_10 kr1_0 kr2_0 kr5_0 kr5_1 kr6_0 kr6_1 kr7_0 kr7_1 kr8_0 kr9_0 kr10_0 kr11_0 kr12_0 kr13_0 kr14_0 kr15_0 kr16_0 kr17_0 kr19_0 kr19_1 kr22_0 kr22_1 kr22_2 kr22_3 kr22_4 kr22_5 kr22_7 kr22_8 kr25_0 kr25_1 kr25_2 kr26_0 kr26_1 kr26_2 kr29_0 kr29_1)
  (refine Cn_el vcn0 ?_; intros ki5_2 ki6_2 ki7_2 ki8_1 ki8_2 ki8_3 ki9_1 ki9_2 ki9_3 ki10_1 ki10_2 ki10_3 ki11_1 ki11_2 ki11_3 ki12_1 ki12_2 ki12_3 ki13_1 ki13_2 ki13_3 ki14_1 ki14_2 ki14_3 ki28_0 ki28_1 ki31_0 ki31_1 ki32_0 ki32_1 ki33_0 ki33_1 ki34_0 ki34_1 ki35_0 ki35_1 ki36_0 ki36_1)
  have hAe : ∀ i j, i < 40 → j < 40 → (A i = A j ↔ i = j) := hA
  rw [o244_44]
  simp only [o244_45, o244_46, o244_126, o244_127, o244_130, o244_131, o244_132, o244_133, o244_135, o244_136, mrf_some, true_and, and_true, not_true_eq_false, not_false_eq_true, false_implies, forall_const, and_self, Nat.reduceLeDiff, lt_le, Int32.reduceLT, kc22, kc23, kn23, kr22_0, Int32.reduceLT]
  refine ms_L s4 R4 (fun a6 => ?_) 16 0 mk0 rfl
  simp only [o244_180, o244_181]
  refine ms_T (bc := 18) (bs := 162) s4 R4 cs4 (fun m5 s5 R5 cs5 => ?_)
  simp only [o244_222, o244_223]
  refine ms_EE (bc := 0) (bs := 0) s5 R5 cs5 (fun m6 s6 R6 cs6 => ?_)
  simp only [o244_266, o244_267]
  refine ms_H s6 R6 ?_ 8 0 rfl
  have R0 := R6
  obtain ⟨vk, vcn, v0, v1, v2, vp, vl0, vl1, vlr, vsr, vc, tx⟩ := R0
  have vk0 := vk
  have vcn0 := vcn
  (refine K_el vk0 ?_; intros hA kc0 kc1 kc2 kc3 kc4 kc5 kc6 kc7 kc8 kc9 kc10 kc11 kc12 kc13 kc14 kc15 kc16 kc17 kc18 kc19 kc20 kc21 kc22 kc23 kc24 kc25 kc26 kc27 kc28 kc29 kc30 kc31 kc32 kc33 kc34 kc35 kc36 kc37 kc38 kc39 kz kt kn3 kn4 kn18 kn21 kn23 kn24 kn25 kn26 kn27 kn29 kn30 kr0_0 kr0_1 kr0_2 kr0_3 kr0_4 kr0_5 kr0_7 kr0_8 kr0_9 kr0_10 kr1_0 kr2_0 kr5_0 kr5_1 kr6_0 kr6_1 kr7_0 kr7_1 kr8_0 kr9_0 kr10_0 kr11_0 kr12_0 kr13_0 kr14_0 kr15_0 kr16_0 kr17_0 kr19_0 kr19_1 kr22_0 kr22_1 kr22_2 kr22_3 kr22_4 kr22_5 kr22_7 kr22_8 kr25_0 kr25_1 kr25_2 kr26_0 kr26_1 kr26_2 kr29_0 kr29_1)
  (refine Cn_el vcn0 ?_; intros ki5_2 ki6_2 ki7_2 ki8_1 ki8_2 ki8_3 ki9_1 ki9_2 ki9_3 ki10_1 ki10_2 ki10_3 ki11_1 ki11_2 ki11_3 ki12_1 ki12_2 ki12_3 ki13_1 ki13_2 ki13_3 ki14_1 ki14_2 ki14_3 ki28_0 ki28_1 ki31_0 ki31_1 ki32_0 ki32_1 ki33_0 ki33_1 ki34_0 ki34_1 ki35_0 ki35_1 ki36_0 ki36_1)
  have hAe : ∀ i j, i < 40 → j < 40 → (A i = A j ↔ i = j) := hA
  have Rt : Rl A (p_i m6 (A 22) 9 0) := Rl_thr R6
  have et := Sm_ed (Sm_tr s6 (Sm_thr (v := 0) R6)) hv
  rcases et with ⟨z, rfl⟩ | ⟨z, rfl⟩
  · have cs1 := fun {Q : MR → MH → Prop} => m_soundNow (Q := Q) Rt (Or.inl ⟨z, rfl⟩)
    simp only [o244_294, o244_295, o244_296, o244_299, o244_300, o244_303, o244_304, o244_305, o244_308, o244_311, o244_312, o244_315, o244_316, o244_317, o244_318, cs1, mc_pi, mcs_0, mcs_l, Kn_v, kok_0, true_and, not_false_eq_true, false_implies, forall_const, and_self, Nat.reduceLeDiff, Nat.reduceAdd, i10, Nat.reduceLT, kc22, kz]
    exact hQ _ Rt
  · have cs1 := fun {Q : MR → MH → Prop} => m_soundNow (Q := Q) Rt (Or.inr ⟨z, rfl⟩)
    simp only [o244_294, o244_295, o244_296, o244_299, o244_300, o244_303, o244_304, o244_305, o244_308, o244_311, o244_312, o244_315, o244_316, o244_317, o244_318, cs1, mc_pi, mcs_0, mcs_l, Kn_v, kok_0, true_and, and_true, not_true_eq_false, false_implies, forall_const, and_self, Nat.reduceLeDiff, Nat.reduceAdd, Nat.reduceLT, kc22, kz]
    exact hQ _ Rt

theorem op_digest {A : Nat → Nat} {h : MH} (R : Rl A h) (Cc : Cs h) : Ok 107 0 [.ref (A 0), mk0, mk0, mk0] [] h 707 89490 (fun r h1 => ∃ k : Int64, r = .inl (some (.long k)) ∧ g_c h1 (A 22) = 9 ∧ Ok 244 0 [.ref (A 22), mk0, mk0, mk0, mk0, mk0, mk0, mk0] [] h1 119 9469 (fun r2 h2 => ∃ b : Int64, r2 = .inl (some (.long b)) ∧ Rl A h2 ∧ k = b)) := by
  have hv : ∃ v, edV A h v := by
    by_cases z : edg A h
    · exact ⟨1, Or.inl ⟨z, rfl⟩⟩
    · exact ⟨0, Or.inr ⟨z, rfl⟩⟩
  obtain ⟨v, hv⟩ := hv
  have k := Ok_low (c_digest (Q := fun r m => r = .inl (some (.long (DG A h v))) ∧ Sm A h m ∧ Rl A m) R hv (fun m s Rm => ⟨rfl, s, Rm⟩))
  refine Ok_mono _ _ _ _ _ _ _ _ _ (fun r m q => ?_) k
  obtain ⟨⟨rfl, s, Rm⟩, lw⟩ := q
  have Cm := Cs_Lw Cc (lw (Rl_z R))
  obtain ⟨vk, -⟩ := id Rm
  (refine K_el vk ?_; intros hA kc0 kc1 kc2 kc3 kc4 kc5 kc6 kc7 kc8 kc9 kc10 kc11 kc12 kc13 kc14 kc15 kc16 kc17 kc18 kc19 kc20 kc21 kc22 kc23 kc24 kc25 kc26 kc27 kc28 kc29 kc30 kc31 kc32 kc33 kc34 kc35 kc36 kc37 kc38 kc39 kz kt kn3 kn4 kn18 kn21 kn23 kn24 kn25 kn26 kn27 kn29 kn30 kr0_0 kr0_1 kr0_2 kr0_3 kr0_4 kr0_5 kr0_7 kr0_8 kr0_9 kr0_10 kr1_0 kr2_0 kr5_0 kr5_1 kr6_0 kr6_1 kr7_0 kr7_1 kr8_0 kr9_0 kr10_0 kr11_0 kr12_0 kr13_0 kr14_0 kr15_0 kr16_0 kr17_0 kr19_0 kr19_1 kr22_0 kr22_1 kr22_2 kr22_3 kr22_4 kr22_5 kr22_7 kr22_8 kr25_0 kr25_1 kr25_2 kr26_0 kr26_1 kr26_2 kr29_0 kr29_1)
  exact ⟨_, rfl, kc22, m_digest s Rm Cm hv (fun q Rq => ⟨_, rfl, Rq, rfl⟩)⟩
end

section
set_option maxRecDepth 16384
/-! THE LAW: its calls -/
def Scr (scr n : Nat) (h : MH) : Prop := g_c h scr = 107 ∧ g_n h scr = n ∧ scr < g_z h ∧ g_z h ≤ g_t h
theorem Scr_Lw {scr n : Nat} {h m : MH} (s : Scr scr n h) (f : Lw h m) : Scr scr n m ∧ ∀ k, g_i m scr k = g_i h scr k := by
  obtain ⟨s1, s2, s3, s4⟩ := s
  obtain ⟨f1, f2, f3, f4⟩ := f
  obtain ⟨⟨x1, x2⟩, x3, -, -⟩ := f4 _ s3
  exact ⟨⟨x1.trans s1, x2.trans s2, by rw [f1]; exact s3, by omega⟩, x3⟩
theorem Rl_c {A : Nat → Nat} {h : MH} (R : Rl A h) : g_c h (A 0) = 7 ∧ g_c h (A 22) = 9 ∧ g_c h (A 39) = 1 := by
  obtain ⟨⟨-, k, -⟩, -⟩ := R
  unfold Kc1 at k
  exact ⟨by simp only [k], by simp only [k], by simp only [k]⟩
def LQ (A : Nat → Nat) (scr n j bc bs : Nat) (Q : MR → MH → Prop) : Prop := ∀ (B : Nat → Nat) (m : MH) (b5 b6 : Value), B 0 = A 0 → B 22 = A 22 → B 39 = A 39 → Rl B m → Cs m → Scr scr n m → Ok 329 1820 [.ref scr, .ref (A 0), .ref (A 22), .ref (A 39), .int (Int32.ofNat (4 * j)), b5, b6] [] m bc bs Q
theorem n_m4 {n a : Nat} (hn : n ≤ 256) (ha : a ≤ 256) : (Int32.ofNat n - 4 < Int32.ofNat a) = (n < a + 4) := by
  apply propext
  rw [Int32.lt_iff_toInt_lt, Int32.toInt_sub, nat_t (by omega), nat_t (by omega), show (4 : Int32).toInt = 4 from rfl, Int.bmod_eq_of_le (by omega) (by omega)]
  omega
theorem lc_lay {scr n j : Nat} {A : Nat → Nat} {h : MH} {a5 a6 : Value} {bc bs B1 B2 : Nat} {Q : MR → MH → Prop} (R : Rl A h) (C : Cs h) (S : Scr scr n h) (hj : 4 * j + 4 ≤ n) (hn : n ≤ 256) (hb1 : bc + 826 ≤ B1) (hb2 : bs + 98959 ≤ B2) (hQ : LQ A scr n j bc bs Q) : Ok 329 256 [.ref scr, .ref (A 0), .ref (A 22), .ref (A 39), .int (Int32.ofNat (4 * j)), a5, a6] [] h B1 B2 Q := by
  have S0 := S
  obtain ⟨s1, s2, s3, s4⟩ := S
  obtain ⟨k0, k1, k2⟩ := Rl_c R
  have e1 : Int32.ofNat (4 * j) + 1 = Int32.ofNat (4 * j + 1) := n_add (4 * j) 1
  have v1 : vp_in (Int32.ofNat (4 * j + 1)) n := vp_of (by omega) (by omega)
  have e2 : Int32.ofNat (4 * j) + 2 = Int32.ofNat (4 * j + 2) := n_add (4 * j) 2
  have v2 : vp_in (Int32.ofNat (4 * j + 2)) n := vp_of (by omega) (by omega)
  have e3 : Int32.ofNat (4 * j) + 3 = Int32.ofNat (4 * j + 3) := n_add (4 * j) 3
  have v3 : vp_in (Int32.ofNat (4 * j + 3)) n := vp_of (by omega) (by omega)
  have b0 : (1 ≤ B1) = True := eq_true (by omega)
  have b1 : (6 ≤ B2) = True := eq_true (by omega)
  simp only [o329_256, o329_257, o329_258, o329_260, o329_261, o329_262, o329_263, o329_264, o329_266, o329_267, o329_268, o329_269, o329_270, o329_272, o329_273, o329_274, o329_275, o329_276, mcs_0, true_and, and_self, Nat.zero_le, s1, s2, e1, v1, e2, v2, e3, v3, b0, b1]
  refine Ok_mono _ _ _ _ _ _ _ _ _ (fun r h1 q => ?_) (Ok_low (op_lay R))
  obtain ⟨⟨k, rfl, g1, z⟩, lw⟩ := q
  replace lw := lw s4
  obtain ⟨S1, si⟩ := Scr_Lw S0 lw
  have C1 := Cs_Lw C lw
  obtain ⟨t1, t2, t3, t4⟩ := id S1
  have d0 : (0 ≤ (B1 - 1)) = True := eq_true (by omega)
  have d1 : (0 ≤ (B2 - 6)) = True := eq_true (by omega)
  simp only [o329_279, o329_281, o329_282, o329_283, o329_285, o329_286, o329_287, o329_288, o329_289, o329_291, o329_292, o329_293, o329_294, o329_295, o329_297, o329_298, o329_299, o329_300, mcs_0, Kn_v, true_and, and_self, Nat.zero_le, t1, t2, g1, si, e1, v1, e2, v2, e3, v3]
  refine Ok_mono _ _ _ _ _ _ _ _ _ (fun r h2 q => ?_) (Ok_low (z))
  obtain ⟨⟨b, rfl, R2, x1, x2⟩, lw2⟩ := q
  have hB0 : A 0 = A 0 := rfl
  have hB1 : A 22 = A 22 := rfl
  have hB2 : A 39 = A 39 := rfl
  replace lw2 := lw2 t4
  have S2 := (Scr_Lw S1 lw2).1
  have C2 := Cs_Lw C1 lw2
  simp only [o329_303, o329_305, Kn_v]
  exact Ok_le (hQ A h2 _ _ hB0 hB1 hB2 R2 C2 S2) _ _ (by omega) (by omega)
theorem lc_layFourth {scr n j : Nat} {A : Nat → Nat} {h : MH} {a5 a6 : Value} {bc bs B1 B2 : Nat} {Q : MR → MH → Prop} (R : Rl A h) (C : Cs h) (S : Scr scr n h) (hj : 4 * j + 4 ≤ n) (hn : n ≤ 256) (hb1 : bc + 826 ≤ B1) (hb2 : bs + 98959 ≤ B2) (hQ : LQ A scr n j bc bs Q) : Ok 329 308 [.ref scr, .ref (A 0), .ref (A 22), .ref (A 39), .int (Int32.ofNat (4 * j)), a5, a6] [] h B1 B2 Q := by
  have S0 := S
  obtain ⟨s1, s2, s3, s4⟩ := S
  obtain ⟨k0, k1, k2⟩ := Rl_c R
  have e1 : Int32.ofNat (4 * j) + 1 = Int32.ofNat (4 * j + 1) := n_add (4 * j) 1
  have v1 : vp_in (Int32.ofNat (4 * j + 1)) n := vp_of (by omega) (by omega)
  have e2 : Int32.ofNat (4 * j) + 2 = Int32.ofNat (4 * j + 2) := n_add (4 * j) 2
  have v2 : vp_in (Int32.ofNat (4 * j + 2)) n := vp_of (by omega) (by omega)
  have e3 : Int32.ofNat (4 * j) + 3 = Int32.ofNat (4 * j + 3) := n_add (4 * j) 3
  have v3 : vp_in (Int32.ofNat (4 * j + 3)) n := vp_of (by omega) (by omega)
  have b0 : (3 ≤ B1) = True := eq_true (by omega)
  have b1 : (18 ≤ B2) = True := eq_true (by omega)
  simp only [o329_308, o329_309, o329_310, o329_312, o329_313, o329_314, o329_315, o329_316, o329_318, o329_319, o329_320, o329_321, o329_322, o329_324, o329_325, o329_326, o329_327, o329_328, mcs_0, true_and, and_self, Nat.zero_le, s1, s2, e1, v1, e2, v2, e3, v3, b0, b1]
  refine Ok_mono _ _ _ _ _ _ _ _ _ (fun r h1 q => ?_) (Ok_low (op_layFourth R))
  obtain ⟨⟨k, rfl, g1, z⟩, lw⟩ := q
  replace lw := lw s4
  obtain ⟨S1, si⟩ := Scr_Lw S0 lw
  have C1 := Cs_Lw C lw
  obtain ⟨t1, t2, t3, t4⟩ := id S1
  have d0 : (0 ≤ (B1 - 3)) = True := eq_true (by omega)
  have d1 : (0 ≤ (B2 - 18)) = True := eq_true (by omega)
  simp only [o329_331, o329_333, o329_334, o329_335, o329_337, o329_338, o329_339, o329_340, o329_341, o329_343, o329_344, o329_345, o329_346, o329_347, o329_349, o329_350, o329_351, o329_352, mcs_0, Kn_v, true_and, and_self, Nat.zero_le, t1, t2, g1, si, e1, v1, e2, v2, e3, v3]
  refine Ok_mono _ _ _ _ _ _ _ _ _ (fun r h2 q => ?_) (Ok_low (z))
  obtain ⟨⟨b, rfl, R2, x1, x2⟩, lw2⟩ := q
  have hB0 : A 0 = A 0 := rfl
  have hB1 : A 22 = A 22 := rfl
  have hB2 : A 39 = A 39 := rfl
  replace lw2 := lw2 t4
  have S2 := (Scr_Lw S1 lw2).1
  have C2 := Cs_Lw C1 lw2
  simp only [o329_355, o329_357, Kn_v]
  exact Ok_le (hQ A h2 _ _ hB0 hB1 hB2 R2 C2 S2) _ _ (by omega) (by omega)
theorem lc_upper {scr n j : Nat} {A : Nat → Nat} {h : MH} {a5 a6 : Value} {bc bs B1 B2 : Nat} {Q : MR → MH → Prop} (R : Rl A h) (C : Cs h) (S : Scr scr n h) (hj : 4 * j + 4 ≤ n) (hn : n ≤ 256) (hb1 : bc + 826 ≤ B1) (hb2 : bs + 98959 ≤ B2) (hQ : LQ A scr n j bc bs Q) : Ok 329 360 [.ref scr, .ref (A 0), .ref (A 22), .ref (A 39), .int (Int32.ofNat (4 * j)), a5, a6] [] h B1 B2 Q := by
  have S0 := S
  obtain ⟨s1, s2, s3, s4⟩ := S
  obtain ⟨k0, k1, k2⟩ := Rl_c R
  have e1 : Int32.ofNat (4 * j) + 1 = Int32.ofNat (4 * j + 1) := n_add (4 * j) 1
  have v1 : vp_in (Int32.ofNat (4 * j + 1)) n := vp_of (by omega) (by omega)
  have e2 : Int32.ofNat (4 * j) + 2 = Int32.ofNat (4 * j + 2) := n_add (4 * j) 2
  have v2 : vp_in (Int32.ofNat (4 * j + 2)) n := vp_of (by omega) (by omega)
  have e3 : Int32.ofNat (4 * j) + 3 = Int32.ofNat (4 * j + 3) := n_add (4 * j) 3
  have v3 : vp_in (Int32.ofNat (4 * j + 3)) n := vp_of (by omega) (by omega)
  have b0 : (1 ≤ B1) = True := eq_true (by omega)
  have b1 : (6 ≤ B2) = True := eq_true (by omega)
  simp only [o329_360, o329_361, o329_362, o329_364, o329_365, o329_366, o329_367, o329_368, mcs_0, true_and, and_self, Nat.zero_le, s1, s2, e1, v1, b0, b1]
  refine Ok_mono _ _ _ _ _ _ _ _ _ (fun r h1 q => ?_) (Ok_low (op_upper R))
  obtain ⟨⟨k, rfl, g1, z⟩, lw⟩ := q
  replace lw := lw s4
  obtain ⟨S1, si⟩ := Scr_Lw S0 lw
  have C1 := Cs_Lw C lw
  obtain ⟨t1, t2, t3, t4⟩ := id S1
  have d0 : (0 ≤ (B1 - 1)) = True := eq_true (by omega)
  have d1 : (0 ≤ (B2 - 6)) = True := eq_true (by omega)
  simp only [o329_371, o329_373, o329_374, o329_375, o329_377, o329_378, o329_379, o329_380, mcs_0, Kn_v, true_and, and_self, Nat.zero_le, t1, t2, g1, si, e1, v1]
  refine Ok_mono _ _ _ _ _ _ _ _ _ (fun r h2 q => ?_) (Ok_low (z))
  obtain ⟨⟨b, rfl, R2, x1, x2⟩, lw2⟩ := q
  have hB0 : A 0 = A 0 := rfl
  have hB1 : A 22 = A 22 := rfl
  have hB2 : A 39 = A 39 := rfl
  replace lw2 := lw2 t4
  have S2 := (Scr_Lw S1 lw2).1
  have C2 := Cs_Lw C1 lw2
  simp only [o329_383, o329_385, Kn_v]
  exact Ok_le (hQ A h2 _ _ hB0 hB1 hB2 R2 C2 S2) _ _ (by omega) (by omega)
theorem lc_lower {scr n j : Nat} {A : Nat → Nat} {h : MH} {a5 a6 : Value} {bc bs B1 B2 : Nat} {Q : MR → MH → Prop} (R : Rl A h) (C : Cs h) (S : Scr scr n h) (hj : 4 * j + 4 ≤ n) (hn : n ≤ 256) (hb1 : bc + 826 ≤ B1) (hb2 : bs + 98959 ≤ B2) (hQ : LQ A scr n j bc bs Q) : Ok 329 388 [.ref scr, .ref (A 0), .ref (A 22), .ref (A 39), .int (Int32.ofNat (4 * j)), a5, a6] [] h B1 B2 Q := by
  have S0 := S
  obtain ⟨s1, s2, s3, s4⟩ := S
  obtain ⟨k0, k1, k2⟩ := Rl_c R
  have e1 : Int32.ofNat (4 * j) + 1 = Int32.ofNat (4 * j + 1) := n_add (4 * j) 1
  have v1 : vp_in (Int32.ofNat (4 * j + 1)) n := vp_of (by omega) (by omega)
  have e2 : Int32.ofNat (4 * j) + 2 = Int32.ofNat (4 * j + 2) := n_add (4 * j) 2
  have v2 : vp_in (Int32.ofNat (4 * j + 2)) n := vp_of (by omega) (by omega)
  have e3 : Int32.ofNat (4 * j) + 3 = Int32.ofNat (4 * j + 3) := n_add (4 * j) 3
  have v3 : vp_in (Int32.ofNat (4 * j + 3)) n := vp_of (by omega) (by omega)
  have b0 : (1 ≤ B1) = True := eq_true (by omega)
  have b1 : (6 ≤ B2) = True := eq_true (by omega)
  simp only [o329_388, o329_389, o329_390, o329_392, o329_393, o329_394, o329_395, o329_396, mcs_0, true_and, and_self, Nat.zero_le, s1, s2, e1, v1, b0, b1]
  refine Ok_mono _ _ _ _ _ _ _ _ _ (fun r h1 q => ?_) (Ok_low (op_lower R))
  obtain ⟨⟨k, rfl, g1, z⟩, lw⟩ := q
  replace lw := lw s4
  obtain ⟨S1, si⟩ := Scr_Lw S0 lw
  have C1 := Cs_Lw C lw
  obtain ⟨t1, t2, t3, t4⟩ := id S1
  have d0 : (0 ≤ (B1 - 1)) = True := eq_true (by omega)
  have d1 : (0 ≤ (B2 - 6)) = True := eq_true (by omega)
  simp only [o329_399, o329_401, o329_402, o329_403, o329_405, o329_406, o329_407, o329_408, mcs_0, Kn_v, true_and, and_self, Nat.zero_le, t1, t2, g1, si, e1, v1]
  refine Ok_mono _ _ _ _ _ _ _ _ _ (fun r h2 q => ?_) (Ok_low (z))
  obtain ⟨⟨b, rfl, R2, x1, x2⟩, lw2⟩ := q
  have hB0 : A 0 = A 0 := rfl
  have hB1 : A 22 = A 22 := rfl
  have hB2 : A 39 = A 39 := rfl
  replace lw2 := lw2 t4
  have S2 := (Scr_Lw S1 lw2).1
  have C2 := Cs_Lw C1 lw2
  simp only [o329_411, o329_413, Kn_v]
  exact Ok_le (hQ A h2 _ _ hB0 hB1 hB2 R2 C2 S2) _ _ (by omega) (by omega)
theorem lc_fourth {scr n j : Nat} {A : Nat → Nat} {h : MH} {a5 a6 : Value} {bc bs B1 B2 : Nat} {Q : MR → MH → Prop} (R : Rl A h) (C : Cs h) (S : Scr scr n h) (hj : 4 * j + 4 ≤ n) (hn : n ≤ 256) (hb1 : bc + 826 ≤ B1) (hb2 : bs + 98959 ≤ B2) (hQ : LQ A scr n j bc bs Q) : Ok 329 416 [.ref scr, .ref (A 0), .ref (A 22), .ref (A 39), .int (Int32.ofNat (4 * j)), a5, a6] [] h B1 B2 Q := by
  have S0 := S
  obtain ⟨s1, s2, s3, s4⟩ := S
  obtain ⟨k0, k1, k2⟩ := Rl_c R
  have e1 : Int32.ofNat (4 * j) + 1 = Int32.ofNat (4 * j + 1) := n_add (4 * j) 1
  have v1 : vp_in (Int32.ofNat (4 * j + 1)) n := vp_of (by omega) (by omega)
  have e2 : Int32.ofNat (4 * j) + 2 = Int32.ofNat (4 * j + 2) := n_add (4 * j) 2
  have v2 : vp_in (Int32.ofNat (4 * j + 2)) n := vp_of (by omega) (by omega)
  have e3 : Int32.ofNat (4 * j) + 3 = Int32.ofNat (4 * j + 3) := n_add (4 * j) 3
  have v3 : vp_in (Int32.ofNat (4 * j + 3)) n := vp_of (by omega) (by omega)
  have b0 : (2 ≤ B1) = True := eq_true (by omega)
  have b1 : (12 ≤ B2) = True := eq_true (by omega)
  simp only [o329_416, o329_417, o329_418, o329_420, o329_421, o329_422, o329_423, o329_424, o329_426, o329_427, o329_428, o329_429, o329_430, mcs_0, true_and, and_self, Nat.zero_le, s1, s2, e1, v1, e2, v2, b0, b1]
  refine Ok_mono _ _ _ _ _ _ _ _ _ (fun r h1 q => ?_) (Ok_low (op_fourth R))
  obtain ⟨⟨k, rfl, g1, z⟩, lw⟩ := q
  replace lw := lw s4
  obtain ⟨S1, si⟩ := Scr_Lw S0 lw
  have C1 := Cs_Lw C lw
  obtain ⟨t1, t2, t3, t4⟩ := id S1
  have d0 : (0 ≤ (B1 - 2)) = True := eq_true (by omega)
  have d1 : (0 ≤ (B2 - 12)) = True := eq_true (by omega)
  simp only [o329_433, o329_435, o329_436, o329_437, o329_439, o329_440, o329_441, o329_442, o329_443, o329_445, o329_446, o329_447, o329_448, mcs_0, Kn_v, true_and, and_self, Nat.zero_le, t1, t2, g1, si, e1, v1, e2, v2]
  refine Ok_mono _ _ _ _ _ _ _ _ _ (fun r h2 q => ?_) (Ok_low (z))
  obtain ⟨⟨b, rfl, R2, x1, x2⟩, lw2⟩ := q
  have hB0 : A 0 = A 0 := rfl
  have hB1 : A 22 = A 22 := rfl
  have hB2 : A 39 = A 39 := rfl
  replace lw2 := lw2 t4
  have S2 := (Scr_Lw S1 lw2).1
  have C2 := Cs_Lw C1 lw2
  simp only [o329_451, o329_453, Kn_v]
  exact Ok_le (hQ A h2 _ _ hB0 hB1 hB2 R2 C2 S2) _ _ (by omega) (by omega)
theorem lc_slotText {scr n j : Nat} {A : Nat → Nat} {h : MH} {a5 a6 : Value} {bc bs B1 B2 : Nat} {Q : MR → MH → Prop} (R : Rl A h) (C : Cs h) (S : Scr scr n h) (hj : 4 * j + 4 ≤ n) (hn : n ≤ 256) (hb1 : bc + 826 ≤ B1) (hb2 : bs + 98959 ≤ B2) (hQ : LQ A scr n j bc bs Q) : Ok 329 456 [.ref scr, .ref (A 0), .ref (A 22), .ref (A 39), .int (Int32.ofNat (4 * j)), a5, a6] [] h B1 B2 Q := by
  have S0 := S
  obtain ⟨s1, s2, s3, s4⟩ := S
  obtain ⟨k0, k1, k2⟩ := Rl_c R
  have e1 : Int32.ofNat (4 * j) + 1 = Int32.ofNat (4 * j + 1) := n_add (4 * j) 1
  have v1 : vp_in (Int32.ofNat (4 * j + 1)) n := vp_of (by omega) (by omega)
  have e2 : Int32.ofNat (4 * j) + 2 = Int32.ofNat (4 * j + 2) := n_add (4 * j) 2
  have v2 : vp_in (Int32.ofNat (4 * j + 2)) n := vp_of (by omega) (by omega)
  have e3 : Int32.ofNat (4 * j) + 3 = Int32.ofNat (4 * j + 3) := n_add (4 * j) 3
  have v3 : vp_in (Int32.ofNat (4 * j + 3)) n := vp_of (by omega) (by omega)
  have b0 : (25 ≤ B1) = True := eq_true (by omega)
  have b1 : (3460 ≤ B2) = True := eq_true (by omega)
  simp only [o329_456, o329_457, o329_458, o329_460, o329_461, o329_462, o329_463, o329_464, mcs_0, true_and, and_self, Nat.zero_le, s1, s2, e1, v1, b0, b1]
  refine Ok_mono _ _ _ _ _ _ _ _ _ (fun r h1 q => ?_) (Ok_low (x_slotText R))
  obtain ⟨⟨k, rfl, R1⟩, lw⟩ := q
  have g1 := (Rl_c R1).2.1
  replace lw := lw s4
  obtain ⟨S1, si⟩ := Scr_Lw S0 lw
  have C1 := Cs_Lw C lw
  obtain ⟨t1, t2, t3, t4⟩ := id S1
  have d0 : (6 ≤ (B1 - 25)) = True := eq_true (by omega)
  have d1 : (474 ≤ (B2 - 3460)) = True := eq_true (by omega)
  simp only [o329_467, o329_469, o329_470, o329_471, o329_473, o329_474, o329_475, o329_476, mcs_0, Kn_v, true_and, and_self, Nat.zero_le, t1, t2, g1, si, e1, v1, d0, d1]
  refine Ok_mono _ _ _ _ _ _ _ _ _ (fun r h2 q => ?_) (Ok_low (m_slotText R1 C1))
  obtain ⟨⟨b, rfl, R2⟩, lw2⟩ := q
  have hB0 : A 0 = A 0 := rfl
  have hB1 : A 22 = A 22 := rfl
  have hB2 : A 39 = A 39 := rfl
  replace lw2 := lw2 t4
  have S2 := (Scr_Lw S1 lw2).1
  have C2 := Cs_Lw C1 lw2
  simp only [o329_479, o329_481, Kn_v]
  exact Ok_le (hQ A h2 _ _ hB0 hB1 hB2 R2 C2 S2) _ _ (by omega) (by omega)
theorem lc_put {scr n j : Nat} {A : Nat → Nat} {h : MH} {a5 a6 : Value} {bc bs B1 B2 : Nat} {Q : MR → MH → Prop} (R : Rl A h) (C : Cs h) (S : Scr scr n h) (hj : 4 * j + 4 ≤ n) (hn : n ≤ 256) (hb1 : bc + 826 ≤ B1) (hb2 : bs + 98959 ≤ B2) (hQ : LQ A scr n j bc bs Q) : Ok 329 484 [.ref scr, .ref (A 0), .ref (A 22), .ref (A 39), .int (Int32.ofNat (4 * j)), a5, a6] [] h B1 B2 Q := by
  have S0 := S
  obtain ⟨s1, s2, s3, s4⟩ := S
  obtain ⟨k0, k1, k2⟩ := Rl_c R
  have e1 : Int32.ofNat (4 * j) + 1 = Int32.ofNat (4 * j + 1) := n_add (4 * j) 1
  have v1 : vp_in (Int32.ofNat (4 * j + 1)) n := vp_of (by omega) (by omega)
  have e2 : Int32.ofNat (4 * j) + 2 = Int32.ofNat (4 * j + 2) := n_add (4 * j) 2
  have v2 : vp_in (Int32.ofNat (4 * j + 2)) n := vp_of (by omega) (by omega)
  have e3 : Int32.ofNat (4 * j) + 3 = Int32.ofNat (4 * j + 3) := n_add (4 * j) 3
  have v3 : vp_in (Int32.ofNat (4 * j + 3)) n := vp_of (by omega) (by omega)
  have b0 : (2 ≤ B1) = True := eq_true (by omega)
  have b1 : (12 ≤ B2) = True := eq_true (by omega)
  simp only [o329_484, o329_485, o329_486, o329_488, o329_489, o329_490, o329_491, o329_492, o329_494, o329_495, o329_496, o329_497, o329_498, mcs_0, true_and, and_self, Nat.zero_le, s1, s2, e1, v1, e2, v2, b0, b1]
  refine Ok_mono _ _ _ _ _ _ _ _ _ (fun r h1 q => ?_) (Ok_low (op_put R))
  obtain ⟨⟨k, rfl, g1, z⟩, lw⟩ := q
  replace lw := lw s4
  obtain ⟨S1, si⟩ := Scr_Lw S0 lw
  have C1 := Cs_Lw C lw
  obtain ⟨t1, t2, t3, t4⟩ := id S1
  have d0 : (0 ≤ (B1 - 2)) = True := eq_true (by omega)
  have d1 : (0 ≤ (B2 - 12)) = True := eq_true (by omega)
  simp only [o329_501, o329_503, o329_504, o329_505, o329_507, o329_508, o329_509, o329_510, o329_511, o329_513, o329_514, o329_515, o329_516, mcs_0, Kn_v, true_and, and_self, Nat.zero_le, t1, t2, g1, si, e1, v1, e2, v2]
  refine Ok_mono _ _ _ _ _ _ _ _ _ (fun r h2 q => ?_) (Ok_low (z))
  obtain ⟨⟨b, rfl, R2, x1, x2⟩, lw2⟩ := q
  have hB0 : A 0 = A 0 := rfl
  have hB1 : A 22 = A 22 := rfl
  have hB2 : A 39 = A 39 := rfl
  replace lw2 := lw2 t4
  have S2 := (Scr_Lw S1 lw2).1
  have C2 := Cs_Lw C1 lw2
  simp only [o329_519, o329_521, Kn_v]
  exact Ok_le (hQ A h2 _ _ hB0 hB1 hB2 R2 C2 S2) _ _ (by omega) (by omega)
theorem lc_take {scr n j : Nat} {A : Nat → Nat} {h : MH} {a5 a6 : Value} {bc bs B1 B2 : Nat} {Q : MR → MH → Prop} (R : Rl A h) (C : Cs h) (S : Scr scr n h) (hj : 4 * j + 4 ≤ n) (hn : n ≤ 256) (hb1 : bc + 826 ≤ B1) (hb2 : bs + 98959 ≤ B2) (hQ : LQ A scr n j bc bs Q) : Ok 329 524 [.ref scr, .ref (A 0), .ref (A 22), .ref (A 39), .int (Int32.ofNat (4 * j)), a5, a6] [] h B1 B2 Q := by
  have S0 := S
  obtain ⟨s1, s2, s3, s4⟩ := S
  obtain ⟨k0, k1, k2⟩ := Rl_c R
  have e1 : Int32.ofNat (4 * j) + 1 = Int32.ofNat (4 * j + 1) := n_add (4 * j) 1
  have v1 : vp_in (Int32.ofNat (4 * j + 1)) n := vp_of (by omega) (by omega)
  have e2 : Int32.ofNat (4 * j) + 2 = Int32.ofNat (4 * j + 2) := n_add (4 * j) 2
  have v2 : vp_in (Int32.ofNat (4 * j + 2)) n := vp_of (by omega) (by omega)
  have e3 : Int32.ofNat (4 * j) + 3 = Int32.ofNat (4 * j + 3) := n_add (4 * j) 3
  have v3 : vp_in (Int32.ofNat (4 * j + 3)) n := vp_of (by omega) (by omega)
  have b0 : (2 ≤ B1) = True := eq_true (by omega)
  have b1 : (12 ≤ B2) = True := eq_true (by omega)
  simp only [o329_524, o329_525, o329_526, o329_528, o329_529, o329_530, o329_531, o329_532, o329_534, o329_535, o329_536, o329_537, o329_538, mcs_0, true_and, and_self, Nat.zero_le, s1, s2, e1, v1, e2, v2, b0, b1]
  refine Ok_mono _ _ _ _ _ _ _ _ _ (fun r h1 q => ?_) (Ok_low (op_take R))
  obtain ⟨⟨k, rfl, g1, z⟩, lw⟩ := q
  replace lw := lw s4
  obtain ⟨S1, si⟩ := Scr_Lw S0 lw
  have C1 := Cs_Lw C lw
  obtain ⟨t1, t2, t3, t4⟩ := id S1
  have d0 : (0 ≤ (B1 - 2)) = True := eq_true (by omega)
  have d1 : (0 ≤ (B2 - 12)) = True := eq_true (by omega)
  simp only [o329_541, o329_543, o329_544, o329_545, o329_547, o329_548, o329_549, o329_550, o329_551, o329_553, o329_554, o329_555, o329_556, mcs_0, Kn_v, true_and, and_self, Nat.zero_le, t1, t2, g1, si, e1, v1, e2, v2]
  refine Ok_mono _ _ _ _ _ _ _ _ _ (fun r h2 q => ?_) (Ok_low (z))
  obtain ⟨⟨b, rfl, R2, x1, x2⟩, lw2⟩ := q
  have hB0 : A 0 = A 0 := rfl
  have hB1 : A 22 = A 22 := rfl
  have hB2 : A 39 = A 39 := rfl
  replace lw2 := lw2 t4
  have S2 := (Scr_Lw S1 lw2).1
  have C2 := Cs_Lw C1 lw2
  simp only [o329_559, o329_561, Kn_v]
  exact Ok_le (hQ A h2 _ _ hB0 hB1 hB2 R2 C2 S2) _ _ (by omega) (by omega)
theorem lc_look {scr n j : Nat} {A : Nat → Nat} {h : MH} {a5 a6 : Value} {bc bs B1 B2 : Nat} {Q : MR → MH → Prop} (R : Rl A h) (C : Cs h) (S : Scr scr n h) (hj : 4 * j + 4 ≤ n) (hn : n ≤ 256) (hb1 : bc + 826 ≤ B1) (hb2 : bs + 98959 ≤ B2) (hQ : LQ A scr n j bc bs Q) : Ok 329 564 [.ref scr, .ref (A 0), .ref (A 22), .ref (A 39), .int (Int32.ofNat (4 * j)), a5, a6] [] h B1 B2 Q := by
  have S0 := S
  obtain ⟨s1, s2, s3, s4⟩ := S
  obtain ⟨k0, k1, k2⟩ := Rl_c R
  have e1 : Int32.ofNat (4 * j) + 1 = Int32.ofNat (4 * j + 1) := n_add (4 * j) 1
  have v1 : vp_in (Int32.ofNat (4 * j + 1)) n := vp_of (by omega) (by omega)
  have e2 : Int32.ofNat (4 * j) + 2 = Int32.ofNat (4 * j + 2) := n_add (4 * j) 2
  have v2 : vp_in (Int32.ofNat (4 * j + 2)) n := vp_of (by omega) (by omega)
  have e3 : Int32.ofNat (4 * j) + 3 = Int32.ofNat (4 * j + 3) := n_add (4 * j) 3
  have v3 : vp_in (Int32.ofNat (4 * j + 3)) n := vp_of (by omega) (by omega)
  have b0 : (3 ≤ B1) = True := eq_true (by omega)
  have b1 : (18 ≤ B2) = True := eq_true (by omega)
  simp only [o329_564, o329_565, o329_566, o329_568, o329_569, o329_570, o329_571, o329_572, o329_574, o329_575, o329_576, o329_577, o329_578, o329_580, o329_581, o329_582, o329_583, o329_584, mcs_0, true_and, and_self, Nat.zero_le, s1, s2, e1, v1, e2, v2, e3, v3, b0, b1]
  refine Ok_mono _ _ _ _ _ _ _ _ _ (fun r h1 q => ?_) (Ok_low (op_look R))
  obtain ⟨⟨k, rfl, g1, z⟩, lw⟩ := q
  replace lw := lw s4
  obtain ⟨S1, si⟩ := Scr_Lw S0 lw
  have C1 := Cs_Lw C lw
  obtain ⟨t1, t2, t3, t4⟩ := id S1
  have d0 : (0 ≤ (B1 - 3)) = True := eq_true (by omega)
  have d1 : (0 ≤ (B2 - 18)) = True := eq_true (by omega)
  simp only [o329_587, o329_589, o329_590, o329_591, o329_593, o329_594, o329_595, o329_596, o329_597, o329_599, o329_600, o329_601, o329_602, o329_603, o329_605, o329_606, o329_607, o329_608, mcs_0, Kn_v, true_and, and_self, Nat.zero_le, t1, t2, g1, si, e1, v1, e2, v2, e3, v3]
  refine Ok_mono _ _ _ _ _ _ _ _ _ (fun r h2 q => ?_) (Ok_low (z))
  obtain ⟨⟨b, rfl, R2, x1, x2⟩, lw2⟩ := q
  have hB0 : A 0 = A 0 := rfl
  have hB1 : A 22 = A 22 := rfl
  have hB2 : A 39 = A 39 := rfl
  replace lw2 := lw2 t4
  have S2 := (Scr_Lw S1 lw2).1
  have C2 := Cs_Lw C1 lw2
  simp only [o329_611, o329_613, Kn_v]
  exact Ok_le (hQ A h2 _ _ hB0 hB1 hB2 R2 C2 S2) _ _ (by omega) (by omega)
theorem lc_mend {scr n j : Nat} {A : Nat → Nat} {h : MH} {a5 a6 : Value} {bc bs B1 B2 : Nat} {Q : MR → MH → Prop} (R : Rl A h) (C : Cs h) (S : Scr scr n h) (hj : 4 * j + 4 ≤ n) (hn : n ≤ 256) (hb1 : bc + 826 ≤ B1) (hb2 : bs + 98959 ≤ B2) (hQ : LQ A scr n j bc bs Q) : Ok 329 616 [.ref scr, .ref (A 0), .ref (A 22), .ref (A 39), .int (Int32.ofNat (4 * j)), a5, a6] [] h B1 B2 Q := by
  have S0 := S
  obtain ⟨s1, s2, s3, s4⟩ := S
  obtain ⟨k0, k1, k2⟩ := Rl_c R
  have e1 : Int32.ofNat (4 * j) + 1 = Int32.ofNat (4 * j + 1) := n_add (4 * j) 1
  have v1 : vp_in (Int32.ofNat (4 * j + 1)) n := vp_of (by omega) (by omega)
  have e2 : Int32.ofNat (4 * j) + 2 = Int32.ofNat (4 * j + 2) := n_add (4 * j) 2
  have v2 : vp_in (Int32.ofNat (4 * j + 2)) n := vp_of (by omega) (by omega)
  have e3 : Int32.ofNat (4 * j) + 3 = Int32.ofNat (4 * j + 3) := n_add (4 * j) 3
  have v3 : vp_in (Int32.ofNat (4 * j + 3)) n := vp_of (by omega) (by omega)
  have b0 : (3 ≤ B1) = True := eq_true (by omega)
  have b1 : (18 ≤ B2) = True := eq_true (by omega)
  simp only [o329_616, o329_617, o329_618, o329_620, o329_621, o329_622, o329_623, o329_624, o329_626, o329_627, o329_628, o329_629, o329_630, o329_632, o329_633, o329_634, o329_635, o329_636, mcs_0, true_and, and_self, Nat.zero_le, s1, s2, e1, v1, e2, v2, e3, v3, b0, b1]
  refine Ok_mono _ _ _ _ _ _ _ _ _ (fun r h1 q => ?_) (Ok_low (op_mend R))
  obtain ⟨⟨k, rfl, g1, z⟩, lw⟩ := q
  replace lw := lw s4
  obtain ⟨S1, si⟩ := Scr_Lw S0 lw
  have C1 := Cs_Lw C lw
  obtain ⟨t1, t2, t3, t4⟩ := id S1
  have d0 : (0 ≤ (B1 - 3)) = True := eq_true (by omega)
  have d1 : (0 ≤ (B2 - 18)) = True := eq_true (by omega)
  simp only [o329_639, o329_641, o329_642, o329_643, o329_645, o329_646, o329_647, o329_648, o329_649, o329_651, o329_652, o329_653, o329_654, o329_655, o329_657, o329_658, o329_659, o329_660, mcs_0, Kn_v, true_and, and_self, Nat.zero_le, t1, t2, g1, si, e1, v1, e2, v2, e3, v3]
  refine Ok_mono _ _ _ _ _ _ _ _ _ (fun r h2 q => ?_) (Ok_low (z))
  obtain ⟨⟨b, rfl, R2, x1, x2⟩, lw2⟩ := q
  have hB0 : A 0 = A 0 := rfl
  have hB1 : A 22 = A 22 := rfl
  have hB2 : A 39 = A 39 := rfl
  replace lw2 := lw2 t4
  have S2 := (Scr_Lw S1 lw2).1
  have C2 := Cs_Lw C1 lw2
  simp only [o329_663, o329_665, Kn_v]
  exact Ok_le (hQ A h2 _ _ hB0 hB1 hB2 R2 C2 S2) _ _ (by omega) (by omega)
theorem lc_mark {scr n j : Nat} {A : Nat → Nat} {h : MH} {a5 a6 : Value} {bc bs B1 B2 : Nat} {Q : MR → MH → Prop} (R : Rl A h) (C : Cs h) (S : Scr scr n h) (hj : 4 * j + 4 ≤ n) (hn : n ≤ 256) (hb1 : bc + 826 ≤ B1) (hb2 : bs + 98959 ≤ B2) (hQ : LQ A scr n j bc bs Q) : Ok 329 668 [.ref scr, .ref (A 0), .ref (A 22), .ref (A 39), .int (Int32.ofNat (4 * j)), a5, a6] [] h B1 B2 Q := by
  have S0 := S
  obtain ⟨s1, s2, s3, s4⟩ := S
  obtain ⟨k0, k1, k2⟩ := Rl_c R
  have e1 : Int32.ofNat (4 * j) + 1 = Int32.ofNat (4 * j + 1) := n_add (4 * j) 1
  have v1 : vp_in (Int32.ofNat (4 * j + 1)) n := vp_of (by omega) (by omega)
  have e2 : Int32.ofNat (4 * j) + 2 = Int32.ofNat (4 * j + 2) := n_add (4 * j) 2
  have v2 : vp_in (Int32.ofNat (4 * j + 2)) n := vp_of (by omega) (by omega)
  have e3 : Int32.ofNat (4 * j) + 3 = Int32.ofNat (4 * j + 3) := n_add (4 * j) 3
  have v3 : vp_in (Int32.ofNat (4 * j + 3)) n := vp_of (by omega) (by omega)
  have b0 : (1 ≤ B1) = True := eq_true (by omega)
  have b1 : (6 ≤ B2) = True := eq_true (by omega)
  simp only [o329_668, o329_669, o329_670, o329_672, o329_673, o329_674, o329_675, o329_676, mcs_0, true_and, and_self, Nat.zero_le, s1, s2, e1, v1, b0, b1]
  refine Ok_mono _ _ _ _ _ _ _ _ _ (fun r h1 q => ?_) (Ok_low (op_mark R))
  obtain ⟨⟨k, rfl, g1, z⟩, lw⟩ := q
  replace lw := lw s4
  obtain ⟨S1, si⟩ := Scr_Lw S0 lw
  have C1 := Cs_Lw C lw
  obtain ⟨t1, t2, t3, t4⟩ := id S1
  have d0 : (0 ≤ (B1 - 1)) = True := eq_true (by omega)
  have d1 : (0 ≤ (B2 - 6)) = True := eq_true (by omega)
  simp only [o329_679, o329_681, o329_682, o329_683, o329_685, o329_686, o329_687, o329_688, mcs_0, Kn_v, true_and, and_self, Nat.zero_le, t1, t2, g1, si, e1, v1]
  refine Ok_mono _ _ _ _ _ _ _ _ _ (fun r h2 q => ?_) (Ok_low (z))
  obtain ⟨⟨b, rfl, R2, x1, x2⟩, lw2⟩ := q
  have hB0 : A 0 = A 0 := rfl
  have hB1 : A 22 = A 22 := rfl
  have hB2 : A 39 = A 39 := rfl
  replace lw2 := lw2 t4
  have S2 := (Scr_Lw S1 lw2).1
  have C2 := Cs_Lw C1 lw2
  simp only [o329_691, o329_693, Kn_v]
  exact Ok_le (hQ A h2 _ _ hB0 hB1 hB2 R2 C2 S2) _ _ (by omega) (by omega)
theorem lc_back {scr n j : Nat} {A : Nat → Nat} {h : MH} {a5 a6 : Value} {bc bs B1 B2 : Nat} {Q : MR → MH → Prop} (R : Rl A h) (C : Cs h) (S : Scr scr n h) (hj : 4 * j + 4 ≤ n) (hn : n ≤ 256) (hb1 : bc + 826 ≤ B1) (hb2 : bs + 98959 ≤ B2) (hQ : LQ A scr n j bc bs Q) : Ok 329 696 [.ref scr, .ref (A 0), .ref (A 22), .ref (A 39), .int (Int32.ofNat (4 * j)), a5, a6] [] h B1 B2 Q := by
  have S0 := S
  obtain ⟨s1, s2, s3, s4⟩ := S
  obtain ⟨k0, k1, k2⟩ := Rl_c R
  have e1 : Int32.ofNat (4 * j) + 1 = Int32.ofNat (4 * j + 1) := n_add (4 * j) 1
  have v1 : vp_in (Int32.ofNat (4 * j + 1)) n := vp_of (by omega) (by omega)
  have e2 : Int32.ofNat (4 * j) + 2 = Int32.ofNat (4 * j + 2) := n_add (4 * j) 2
  have v2 : vp_in (Int32.ofNat (4 * j + 2)) n := vp_of (by omega) (by omega)
  have e3 : Int32.ofNat (4 * j) + 3 = Int32.ofNat (4 * j + 3) := n_add (4 * j) 3
  have v3 : vp_in (Int32.ofNat (4 * j + 3)) n := vp_of (by omega) (by omega)
  have b0 : (1 ≤ B1) = True := eq_true (by omega)
  have b1 : (6 ≤ B2) = True := eq_true (by omega)
  simp only [o329_696, o329_697, o329_698, o329_700, o329_701, o329_702, o329_703, o329_704, mcs_0, true_and, and_self, Nat.zero_le, s1, s2, e1, v1, b0, b1]
  refine Ok_mono _ _ _ _ _ _ _ _ _ (fun r h1 q => ?_) (Ok_low (op_back R))
  obtain ⟨⟨k, rfl, g1, z⟩, lw⟩ := q
  replace lw := lw s4
  obtain ⟨S1, si⟩ := Scr_Lw S0 lw
  have C1 := Cs_Lw C lw
  obtain ⟨t1, t2, t3, t4⟩ := id S1
  have d0 : (0 ≤ (B1 - 1)) = True := eq_true (by omega)
  have d1 : (0 ≤ (B2 - 6)) = True := eq_true (by omega)
  simp only [o329_707, o329_709, o329_710, o329_711, o329_713, o329_714, o329_715, o329_716, mcs_0, Kn_v, true_and, and_self, Nat.zero_le, t1, t2, g1, si, e1, v1]
  refine Ok_mono _ _ _ _ _ _ _ _ _ (fun r h2 q => ?_) (Ok_low (z))
  obtain ⟨⟨b, rfl, R2, x1, x2⟩, lw2⟩ := q
  have hB0 : A 0 = A 0 := rfl
  have hB1 : A 22 = A 22 := rfl
  have hB2 : A 39 = A 39 := rfl
  replace lw2 := lw2 t4
  have S2 := (Scr_Lw S1 lw2).1
  have C2 := Cs_Lw C1 lw2
  simp only [o329_719, o329_721, mc_pi, mc_pl, mc_pr, mc_pN, mc_pT, mc_pC, mn_pi, mn_pl, mn_pr, mn_pN, mn_pT, mn_pC, mi_pi, mi_pl, mi_pr, mi_pN, mi_pT, mi_pC, ml_pi, ml_pl, ml_pr, ml_pN, ml_pT, ml_pC, mr_pi, mr_pl, mr_pr, mr_pN, mr_pT, mr_pC, mt_pi, mt_pl, mt_pr, mt_pN, mt_pT, mt_pC, mz_pi, mz_pl, mz_pr, mz_pN, mz_pT, mz_pC, ma_pi, ma_pl, ma_pr, ma_pN, ma_pT, ma_pC, mcs_0, mcs_i, mcs_l, mcs_r, mcs_n, csum_rf, Kn_v, Kn_0, Kn_x, mrf_some, kok_0, true_and, and_true, false_and, and_false, true_or, or_true, or_false, false_or, not_true_eq_false, not_false_eq_true, true_implies, false_implies, implies_true, forall_const, if_true, if_false, and_self, Nat.reduceEqDiff, Nat.reduceLeDiff, Nat.reduceSub, Nat.reduceAdd, Nat.zero_le, Nat.le_refl, i10, i01, kz0, kz1, eq_self, lt_le, Classical.not_not, Int32.reduceLT, Int32.reduceAdd, Int32.reduceSub, Int32.reduceMul, cl0, cl1, cl2, cl3, cl4, cl5, cl6, cl7, cl8, cl9, cl10, cl11, cl12, cl13, cl14, cl15, cl16, cl17, cl18, cl19, cl20, cl21, cl22, cl23, cl24, cl25, cl26, cl27, cl28, cl29, cl30, cl31, cl32, cl33, cl34, cl35, cl36, cl37, cl38, cl39, lg_cmp_eq]
  exact Ok_le (hQ A h2 _ _ hB0 hB1 hB2 R2 C2 S2) _ _ (by omega) (by omega)
theorem lc_forget {scr n j : Nat} {A : Nat → Nat} {h : MH} {a5 a6 : Value} {bc bs B1 B2 : Nat} {Q : MR → MH → Prop} (R : Rl A h) (C : Cs h) (S : Scr scr n h) (hj : 4 * j + 4 ≤ n) (hn : n ≤ 256) (hb1 : bc + 826 ≤ B1) (hb2 : bs + 98959 ≤ B2) (hQ : LQ A scr n j bc bs Q) : Ok 329 724 [.ref scr, .ref (A 0), .ref (A 22), .ref (A 39), .int (Int32.ofNat (4 * j)), a5, a6] [] h B1 B2 Q := by
  have S0 := S
  obtain ⟨s1, s2, s3, s4⟩ := S
  obtain ⟨k0, k1, k2⟩ := Rl_c R
  have e1 : Int32.ofNat (4 * j) + 1 = Int32.ofNat (4 * j + 1) := n_add (4 * j) 1
  have v1 : vp_in (Int32.ofNat (4 * j + 1)) n := vp_of (by omega) (by omega)
  have e2 : Int32.ofNat (4 * j) + 2 = Int32.ofNat (4 * j + 2) := n_add (4 * j) 2
  have v2 : vp_in (Int32.ofNat (4 * j + 2)) n := vp_of (by omega) (by omega)
  have e3 : Int32.ofNat (4 * j) + 3 = Int32.ofNat (4 * j + 3) := n_add (4 * j) 3
  have v3 : vp_in (Int32.ofNat (4 * j + 3)) n := vp_of (by omega) (by omega)
  have b0 : (1 ≤ B1) = True := eq_true (by omega)
  have b1 : (6 ≤ B2) = True := eq_true (by omega)
  simp only [o329_724, o329_725, o329_726, o329_728, o329_729, o329_730, o329_731, o329_732, mcs_0, true_and, and_self, Nat.zero_le, s1, s2, e1, v1, b0, b1]
  refine Ok_mono _ _ _ _ _ _ _ _ _ (fun r h1 q => ?_) (Ok_low (op_forget R))
  obtain ⟨⟨k, rfl, g1, z⟩, lw⟩ := q
  replace lw := lw s4
  obtain ⟨S1, si⟩ := Scr_Lw S0 lw
  have C1 := Cs_Lw C lw
  obtain ⟨t1, t2, t3, t4⟩ := id S1
  have d0 : (0 ≤ (B1 - 1)) = True := eq_true (by omega)
  have d1 : (0 ≤ (B2 - 6)) = True := eq_true (by omega)
  simp only [o329_735, o329_737, o329_738, o329_739, o329_741, o329_742, o329_743, o329_744, mcs_0, Kn_v, true_and, and_self, Nat.zero_le, t1, t2, g1, si, e1, v1]
  refine Ok_mono _ _ _ _ _ _ _ _ _ (fun r h2 q => ?_) (Ok_low (z))
  obtain ⟨⟨b, rfl, R2, x1, x2⟩, lw2⟩ := q
  have hB0 : A 0 = A 0 := rfl
  have hB1 : A 22 = A 22 := rfl
  have hB2 : A 39 = A 39 := rfl
  replace lw2 := lw2 t4
  have S2 := (Scr_Lw S1 lw2).1
  have C2 := Cs_Lw C1 lw2
  simp only [o329_747, o329_749, Kn_v]
  exact Ok_le (hQ A h2 _ _ hB0 hB1 hB2 R2 C2 S2) _ _ (by omega) (by omega)
end

section
set_option maxRecDepth 16384
theorem lc_squeeze {scr n j : Nat} {A : Nat → Nat} {h : MH} {a5 a6 : Value} {bc bs B1 B2 : Nat} {Q : MR → MH → Prop} (R : Rl A h) (C : Cs h) (S : Scr scr n h) (hj : 4 * j + 4 ≤ n) (hn : n ≤ 256) (hb1 : bc + 826 ≤ B1) (hb2 : bs + 98959 ≤ B2) (hQ : LQ A scr n j bc bs Q) : Ok 329 752 [.ref scr, .ref (A 0), .ref (A 22), .ref (A 39), .int (Int32.ofNat (4 * j)), a5, a6] [] h B1 B2 Q := by
  have S0 := S
  obtain ⟨s1, s2, s3, s4⟩ := S
  obtain ⟨k0, k1, k2⟩ := Rl_c R
  have e1 : Int32.ofNat (4 * j) + 1 = Int32.ofNat (4 * j + 1) := n_add (4 * j) 1
  have v1 : vp_in (Int32.ofNat (4 * j + 1)) n := vp_of (by omega) (by omega)
  have e2 : Int32.ofNat (4 * j) + 2 = Int32.ofNat (4 * j + 2) := n_add (4 * j) 2
  have v2 : vp_in (Int32.ofNat (4 * j + 2)) n := vp_of (by omega) (by omega)
  have e3 : Int32.ofNat (4 * j) + 3 = Int32.ofNat (4 * j + 3) := n_add (4 * j) 3
  have v3 : vp_in (Int32.ofNat (4 * j + 3)) n := vp_of (by omega) (by omega)
  have b0 : (0 ≤ B1) = True := eq_true (by omega)
  have b1 : (0 ≤ B2) = True := eq_true (by omega)
  simp only [o329_752, o329_753, mcs_0, true_and, Nat.zero_le, k0]
  refine Ok_mono _ _ _ _ _ _ _ _ _ (fun r h1 q => ?_) (Ok_low (op_squeeze R))
  obtain ⟨⟨k, rfl, g1, z⟩, lw⟩ := q
  replace lw := lw s4
  obtain ⟨S1, si⟩ := Scr_Lw S0 lw
  have C1 := Cs_Lw C lw
  obtain ⟨t1, t2, t3, t4⟩ := id S1
  have d0 : (0 ≤ B1) = True := eq_true (by omega)
  have d1 : (0 ≤ B2) = True := eq_true (by omega)
  simp only [o329_756, o329_757, o329_758, mcs_0, Kn_v, true_and, Nat.zero_le, g1]
  refine Ok_mono _ _ _ _ _ _ _ _ _ (fun r h2 q => ?_) (Ok_low (z))
  obtain ⟨⟨b, rfl, R2, x1, x2⟩, lw2⟩ := q
  subst x2
  have hB0 : A 0 = A 0 := rfl
  have hB1 : A 22 = A 22 := rfl
  have hB2 : A 39 = A 39 := rfl
  replace lw2 := lw2 t4
  have S2 := (Scr_Lw S1 lw2).1
  have C2 := Cs_Lw C1 lw2
  simp only [o329_761, o329_762, Kn_v]
  exact Ok_le (hQ A h2 _ _ hB0 hB1 hB2 R2 C2 S2) _ _ (by omega) (by omega)
theorem lc_empty {scr n j : Nat} {A : Nat → Nat} {h : MH} {a5 a6 : Value} {bc bs B1 B2 : Nat} {Q : MR → MH → Prop} (R : Rl A h) (C : Cs h) (S : Scr scr n h) (hj : 4 * j + 4 ≤ n) (hn : n ≤ 256) (hb1 : bc + 826 ≤ B1) (hb2 : bs + 98959 ≤ B2) (hQ : LQ A scr n j bc bs Q) : Ok 329 765 [.ref scr, .ref (A 0), .ref (A 22), .ref (A 39), .int (Int32.ofNat (4 * j)), a5, a6] [] h B1 B2 Q := by
  have S0 := S
  obtain ⟨s1, s2, s3, s4⟩ := S
  obtain ⟨k0, k1, k2⟩ := Rl_c R
  have e1 : Int32.ofNat (4 * j) + 1 = Int32.ofNat (4 * j + 1) := n_add (4 * j) 1
  have v1 : vp_in (Int32.ofNat (4 * j + 1)) n := vp_of (by omega) (by omega)
  have e2 : Int32.ofNat (4 * j) + 2 = Int32.ofNat (4 * j + 2) := n_add (4 * j) 2
  have v2 : vp_in (Int32.ofNat (4 * j + 2)) n := vp_of (by omega) (by omega)
  have e3 : Int32.ofNat (4 * j) + 3 = Int32.ofNat (4 * j + 3) := n_add (4 * j) 3
  have v3 : vp_in (Int32.ofNat (4 * j + 3)) n := vp_of (by omega) (by omega)
  have b0 : (1 ≤ B1) = True := eq_true (by omega)
  have b1 : (6 ≤ B2) = True := eq_true (by omega)
  simp only [o329_765, o329_766, o329_767, o329_769, o329_770, o329_771, o329_772, o329_773, mcs_0, true_and, and_self, Nat.zero_le, s1, s2, e1, v1, b0, b1]
  refine Ok_mono _ _ _ _ _ _ _ _ _ (fun r h1 q => ?_) (Ok_low (op_empty R))
  obtain ⟨⟨k, rfl, g1, z⟩, lw⟩ := q
  replace lw := lw s4
  obtain ⟨S1, si⟩ := Scr_Lw S0 lw
  have C1 := Cs_Lw C lw
  obtain ⟨t1, t2, t3, t4⟩ := id S1
  have d0 : (2 ≤ (B1 - 1)) = True := eq_true (by omega)
  have d1 : (12 ≤ (B2 - 6)) = True := eq_true (by omega)
  simp only [o329_776, o329_778, o329_779, o329_780, o329_782, o329_783, o329_784, o329_785, mcs_0, Kn_v, true_and, and_self, Nat.zero_le, t1, t2, g1, si, e1, v1, d0, d1]
  refine Ok_mono _ _ _ _ _ _ _ _ _ (fun r h2 q => ?_) (Ok_low (z))
  obtain ⟨⟨b, rfl, R2, x1, x2⟩, lw2⟩ := q
  obtain ⟨B, hB0, hB1, hB2, R2⟩ := R2
  replace lw2 := lw2 t4
  have S2 := (Scr_Lw S1 lw2).1
  have C2 := Cs_Lw C1 lw2
  simp only [o329_788, o329_790, Kn_v]
  exact Ok_le (hQ B h2 _ _ hB0 hB1 hB2 R2 C2 S2) _ _ (by omega) (by omega)
theorem lc_pass {scr n j : Nat} {A : Nat → Nat} {h : MH} {a5 a6 : Value} {bc bs B1 B2 : Nat} {Q : MR → MH → Prop} (R : Rl A h) (C : Cs h) (S : Scr scr n h) (hj : 4 * j + 4 ≤ n) (hn : n ≤ 256) (hb1 : bc + 826 ≤ B1) (hb2 : bs + 98959 ≤ B2) (hQ : LQ A scr n j bc bs Q) : Ok 329 793 [.ref scr, .ref (A 0), .ref (A 22), .ref (A 39), .int (Int32.ofNat (4 * j)), a5, a6] [] h B1 B2 Q := by
  have S0 := S
  obtain ⟨s1, s2, s3, s4⟩ := S
  obtain ⟨k0, k1, k2⟩ := Rl_c R
  have e1 : Int32.ofNat (4 * j) + 1 = Int32.ofNat (4 * j + 1) := n_add (4 * j) 1
  have v1 : vp_in (Int32.ofNat (4 * j + 1)) n := vp_of (by omega) (by omega)
  have e2 : Int32.ofNat (4 * j) + 2 = Int32.ofNat (4 * j + 2) := n_add (4 * j) 2
  have v2 : vp_in (Int32.ofNat (4 * j + 2)) n := vp_of (by omega) (by omega)
  have e3 : Int32.ofNat (4 * j) + 3 = Int32.ofNat (4 * j + 3) := n_add (4 * j) 3
  have v3 : vp_in (Int32.ofNat (4 * j + 3)) n := vp_of (by omega) (by omega)
  have b0 : (3 ≤ B1) = True := eq_true (by omega)
  have b1 : (18 ≤ B2) = True := eq_true (by omega)
  simp only [o329_793, o329_794, o329_795, o329_797, o329_798, o329_799, o329_800, o329_801, o329_803, o329_804, o329_805, o329_806, o329_807, mcs_0, true_and, and_self, Nat.zero_le, s1, s2, e1, v1, e2, v2, b0, b1]
  refine Ok_mono _ _ _ _ _ _ _ _ _ (fun r h1 q => ?_) (Ok_low (op_pass R))
  obtain ⟨⟨k, rfl, g1, z⟩, lw⟩ := q
  replace lw := lw s4
  obtain ⟨S1, si⟩ := Scr_Lw S0 lw
  have C1 := Cs_Lw C lw
  obtain ⟨t1, t2, t3, t4⟩ := id S1
  have d0 : (0 ≤ (B1 - 3)) = True := eq_true (by omega)
  have d1 : (0 ≤ (B2 - 18)) = True := eq_true (by omega)
  simp only [o329_810, o329_812, o329_813, o329_814, o329_816, o329_817, o329_818, o329_819, o329_820, o329_822, o329_823, o329_824, o329_825, mcs_0, Kn_v, true_and, and_self, Nat.zero_le, t1, t2, g1, si, e1, v1, e2, v2]
  refine Ok_mono _ _ _ _ _ _ _ _ _ (fun r h2 q => ?_) (Ok_low (z))
  obtain ⟨⟨b, rfl, R2, x1, x2⟩, lw2⟩ := q
  have hB0 : A 0 = A 0 := rfl
  have hB1 : A 22 = A 22 := rfl
  have hB2 : A 39 = A 39 := rfl
  replace lw2 := lw2 t4
  have S2 := (Scr_Lw S1 lw2).1
  have C2 := Cs_Lw C1 lw2
  simp only [o329_828, o329_830, Kn_v]
  exact Ok_le (hQ A h2 _ _ hB0 hB1 hB2 R2 C2 S2) _ _ (by omega) (by omega)
theorem lc_poke {scr n j : Nat} {A : Nat → Nat} {h : MH} {a5 a6 : Value} {bc bs B1 B2 : Nat} {Q : MR → MH → Prop} (R : Rl A h) (C : Cs h) (S : Scr scr n h) (hj : 4 * j + 4 ≤ n) (hn : n ≤ 256) (hb1 : bc + 826 ≤ B1) (hb2 : bs + 98959 ≤ B2) (hQ : LQ A scr n j bc bs Q) : Ok 329 833 [.ref scr, .ref (A 0), .ref (A 22), .ref (A 39), .int (Int32.ofNat (4 * j)), a5, a6] [] h B1 B2 Q := by
  have S0 := S
  obtain ⟨s1, s2, s3, s4⟩ := S
  obtain ⟨k0, k1, k2⟩ := Rl_c R
  have e1 : Int32.ofNat (4 * j) + 1 = Int32.ofNat (4 * j + 1) := n_add (4 * j) 1
  have v1 : vp_in (Int32.ofNat (4 * j + 1)) n := vp_of (by omega) (by omega)
  have e2 : Int32.ofNat (4 * j) + 2 = Int32.ofNat (4 * j + 2) := n_add (4 * j) 2
  have v2 : vp_in (Int32.ofNat (4 * j + 2)) n := vp_of (by omega) (by omega)
  have e3 : Int32.ofNat (4 * j) + 3 = Int32.ofNat (4 * j + 3) := n_add (4 * j) 3
  have v3 : vp_in (Int32.ofNat (4 * j + 3)) n := vp_of (by omega) (by omega)
  have b0 : (2 ≤ B1) = True := eq_true (by omega)
  have b1 : (12 ≤ B2) = True := eq_true (by omega)
  simp only [o329_833, o329_834, o329_835, o329_837, o329_838, o329_839, o329_840, o329_841, o329_843, o329_844, o329_845, o329_846, o329_847, mcs_0, true_and, and_self, Nat.zero_le, s1, s2, e1, v1, e2, v2, b0, b1]
  refine Ok_mono _ _ _ _ _ _ _ _ _ (fun r h1 q => ?_) (Ok_low (op_poke R))
  obtain ⟨⟨k, rfl, g1, z⟩, lw⟩ := q
  replace lw := lw s4
  obtain ⟨S1, si⟩ := Scr_Lw S0 lw
  have C1 := Cs_Lw C lw
  obtain ⟨t1, t2, t3, t4⟩ := id S1
  have d0 : (0 ≤ (B1 - 2)) = True := eq_true (by omega)
  have d1 : (0 ≤ (B2 - 12)) = True := eq_true (by omega)
  simp only [o329_850, o329_852, o329_853, o329_854, o329_856, o329_857, o329_858, o329_859, o329_860, o329_862, o329_863, o329_864, o329_865, mcs_0, Kn_v, true_and, and_self, Nat.zero_le, t1, t2, g1, si, e1, v1, e2, v2]
  refine Ok_mono _ _ _ _ _ _ _ _ _ (fun r h2 q => ?_) (Ok_low (z))
  obtain ⟨⟨b, rfl, R2, x1, x2⟩, lw2⟩ := q
  have hB0 : A 0 = A 0 := rfl
  have hB1 : A 22 = A 22 := rfl
  have hB2 : A 39 = A 39 := rfl
  replace lw2 := lw2 t4
  have S2 := (Scr_Lw S1 lw2).1
  have C2 := Cs_Lw C1 lw2
  simp only [o329_868, o329_870, Kn_v]
  exact Ok_le (hQ A h2 _ _ hB0 hB1 hB2 R2 C2 S2) _ _ (by omega) (by omega)
theorem lc_lies {scr n j : Nat} {A : Nat → Nat} {h : MH} {a5 a6 : Value} {bc bs B1 B2 : Nat} {Q : MR → MH → Prop} (R : Rl A h) (C : Cs h) (S : Scr scr n h) (hj : 4 * j + 4 ≤ n) (hn : n ≤ 256) (hb1 : bc + 826 ≤ B1) (hb2 : bs + 98959 ≤ B2) (hQ : LQ A scr n j bc bs Q) : Ok 329 873 [.ref scr, .ref (A 0), .ref (A 22), .ref (A 39), .int (Int32.ofNat (4 * j)), a5, a6] [] h B1 B2 Q := by
  have S0 := S
  obtain ⟨s1, s2, s3, s4⟩ := S
  obtain ⟨k0, k1, k2⟩ := Rl_c R
  have e1 : Int32.ofNat (4 * j) + 1 = Int32.ofNat (4 * j + 1) := n_add (4 * j) 1
  have v1 : vp_in (Int32.ofNat (4 * j + 1)) n := vp_of (by omega) (by omega)
  have e2 : Int32.ofNat (4 * j) + 2 = Int32.ofNat (4 * j + 2) := n_add (4 * j) 2
  have v2 : vp_in (Int32.ofNat (4 * j + 2)) n := vp_of (by omega) (by omega)
  have e3 : Int32.ofNat (4 * j) + 3 = Int32.ofNat (4 * j + 3) := n_add (4 * j) 3
  have v3 : vp_in (Int32.ofNat (4 * j + 3)) n := vp_of (by omega) (by omega)
  have b0 : (1 ≤ B1) = True := eq_true (by omega)
  have b1 : (6 ≤ B2) = True := eq_true (by omega)
  simp only [o329_873, o329_874, o329_875, o329_877, o329_878, o329_879, o329_880, o329_881, mcs_0, true_and, and_self, Nat.zero_le, s1, s2, e1, v1, b0, b1]
  refine Ok_mono _ _ _ _ _ _ _ _ _ (fun r h1 q => ?_) (Ok_low (op_lies R))
  obtain ⟨⟨k, rfl, g1, z⟩, lw⟩ := q
  replace lw := lw s4
  obtain ⟨S1, si⟩ := Scr_Lw S0 lw
  have C1 := Cs_Lw C lw
  obtain ⟨t1, t2, t3, t4⟩ := id S1
  have d0 : (0 ≤ (B1 - 1)) = True := eq_true (by omega)
  have d1 : (0 ≤ (B2 - 6)) = True := eq_true (by omega)
  simp only [o329_884, o329_886, o329_887, o329_888, o329_890, o329_891, o329_892, o329_893, mcs_0, Kn_v, true_and, and_self, Nat.zero_le, t1, t2, g1, si, e1, v1]
  refine Ok_mono _ _ _ _ _ _ _ _ _ (fun r h2 q => ?_) (Ok_low (z))
  obtain ⟨⟨b, rfl, R2, x1, x2⟩, lw2⟩ := q
  have hB0 : A 0 = A 0 := rfl
  have hB1 : A 22 = A 22 := rfl
  have hB2 : A 39 = A 39 := rfl
  replace lw2 := lw2 t4
  have S2 := (Scr_Lw S1 lw2).1
  have C2 := Cs_Lw C1 lw2
  simp only [o329_896, o329_898, Kn_v]
  exact Ok_le (hQ A h2 _ _ hB0 hB1 hB2 R2 C2 S2) _ _ (by omega) (by omega)
theorem lc_room {scr n j : Nat} {A : Nat → Nat} {h : MH} {a5 a6 : Value} {bc bs B1 B2 : Nat} {Q : MR → MH → Prop} (R : Rl A h) (C : Cs h) (S : Scr scr n h) (hj : 4 * j + 4 ≤ n) (hn : n ≤ 256) (hb1 : bc + 826 ≤ B1) (hb2 : bs + 98959 ≤ B2) (hQ : LQ A scr n j bc bs Q) : Ok 329 901 [.ref scr, .ref (A 0), .ref (A 22), .ref (A 39), .int (Int32.ofNat (4 * j)), a5, a6] [] h B1 B2 Q := by
  have S0 := S
  obtain ⟨s1, s2, s3, s4⟩ := S
  obtain ⟨k0, k1, k2⟩ := Rl_c R
  have e1 : Int32.ofNat (4 * j) + 1 = Int32.ofNat (4 * j + 1) := n_add (4 * j) 1
  have v1 : vp_in (Int32.ofNat (4 * j + 1)) n := vp_of (by omega) (by omega)
  have e2 : Int32.ofNat (4 * j) + 2 = Int32.ofNat (4 * j + 2) := n_add (4 * j) 2
  have v2 : vp_in (Int32.ofNat (4 * j + 2)) n := vp_of (by omega) (by omega)
  have e3 : Int32.ofNat (4 * j) + 3 = Int32.ofNat (4 * j + 3) := n_add (4 * j) 3
  have v3 : vp_in (Int32.ofNat (4 * j + 3)) n := vp_of (by omega) (by omega)
  have b0 : (1 ≤ B1) = True := eq_true (by omega)
  have b1 : (6 ≤ B2) = True := eq_true (by omega)
  simp only [o329_901, o329_902, o329_903, o329_905, o329_906, o329_907, o329_908, o329_909, mcs_0, true_and, and_self, Nat.zero_le, s1, s2, e1, v1, b0, b1]
  refine Ok_mono _ _ _ _ _ _ _ _ _ (fun r h1 q => ?_) (Ok_low (op_room R))
  obtain ⟨⟨k, rfl, g1, z⟩, lw⟩ := q
  replace lw := lw s4
  obtain ⟨S1, si⟩ := Scr_Lw S0 lw
  have C1 := Cs_Lw C lw
  obtain ⟨t1, t2, t3, t4⟩ := id S1
  have d0 : (0 ≤ (B1 - 1)) = True := eq_true (by omega)
  have d1 : (0 ≤ (B2 - 6)) = True := eq_true (by omega)
  simp only [o329_912, o329_914, o329_915, o329_916, o329_918, o329_919, o329_920, o329_921, mcs_0, Kn_v, true_and, and_self, Nat.zero_le, t1, t2, g1, si, e1, v1]
  refine Ok_mono _ _ _ _ _ _ _ _ _ (fun r h2 q => ?_) (Ok_low (z))
  obtain ⟨⟨b, rfl, R2, x1, x2⟩, lw2⟩ := q
  have hB0 : A 0 = A 0 := rfl
  have hB1 : A 22 = A 22 := rfl
  have hB2 : A 39 = A 39 := rfl
  replace lw2 := lw2 t4
  have S2 := (Scr_Lw S1 lw2).1
  have C2 := Cs_Lw C1 lw2
  simp only [o329_924, o329_926, Kn_v]
  exact Ok_le (hQ A h2 _ _ hB0 hB1 hB2 R2 C2 S2) _ _ (by omega) (by omega)
theorem lc_isEmpty {scr n j : Nat} {A : Nat → Nat} {h : MH} {a5 a6 : Value} {bc bs B1 B2 : Nat} {Q : MR → MH → Prop} (R : Rl A h) (C : Cs h) (S : Scr scr n h) (hj : 4 * j + 4 ≤ n) (hn : n ≤ 256) (hb1 : bc + 826 ≤ B1) (hb2 : bs + 98959 ≤ B2) (hQ : LQ A scr n j bc bs Q) : Ok 329 929 [.ref scr, .ref (A 0), .ref (A 22), .ref (A 39), .int (Int32.ofNat (4 * j)), a5, a6] [] h B1 B2 Q := by
  have S0 := S
  obtain ⟨s1, s2, s3, s4⟩ := S
  obtain ⟨k0, k1, k2⟩ := Rl_c R
  have e1 : Int32.ofNat (4 * j) + 1 = Int32.ofNat (4 * j + 1) := n_add (4 * j) 1
  have v1 : vp_in (Int32.ofNat (4 * j + 1)) n := vp_of (by omega) (by omega)
  have e2 : Int32.ofNat (4 * j) + 2 = Int32.ofNat (4 * j + 2) := n_add (4 * j) 2
  have v2 : vp_in (Int32.ofNat (4 * j + 2)) n := vp_of (by omega) (by omega)
  have e3 : Int32.ofNat (4 * j) + 3 = Int32.ofNat (4 * j + 3) := n_add (4 * j) 3
  have v3 : vp_in (Int32.ofNat (4 * j + 3)) n := vp_of (by omega) (by omega)
  have b0 : (1 ≤ B1) = True := eq_true (by omega)
  have b1 : (6 ≤ B2) = True := eq_true (by omega)
  simp only [o329_929, o329_930, o329_931, o329_933, o329_934, o329_935, o329_936, o329_937, mcs_0, true_and, and_self, Nat.zero_le, s1, s2, e1, v1, b0, b1]
  refine Ok_mono _ _ _ _ _ _ _ _ _ (fun r h1 q => ?_) (Ok_low (op_isEmpty R))
  obtain ⟨⟨k, rfl, g1, z⟩, lw⟩ := q
  replace lw := lw s4
  obtain ⟨S1, si⟩ := Scr_Lw S0 lw
  have C1 := Cs_Lw C lw
  obtain ⟨t1, t2, t3, t4⟩ := id S1
  have d0 : (0 ≤ (B1 - 1)) = True := eq_true (by omega)
  have d1 : (0 ≤ (B2 - 6)) = True := eq_true (by omega)
  simp only [o329_940, o329_942, o329_943, o329_944, o329_946, o329_947, o329_948, o329_949, mcs_0, Kn_v, true_and, and_self, Nat.zero_le, t1, t2, g1, si, e1, v1]
  refine Ok_mono _ _ _ _ _ _ _ _ _ (fun r h2 q => ?_) (Ok_low (z))
  obtain ⟨⟨b, rfl, R2, x1, x2⟩, lw2⟩ := q
  have hB0 : A 0 = A 0 := rfl
  have hB1 : A 22 = A 22 := rfl
  have hB2 : A 39 = A 39 := rfl
  replace lw2 := lw2 t4
  have S2 := (Scr_Lw S1 lw2).1
  have C2 := Cs_Lw C1 lw2
  simp only [o329_952, o329_954, Kn_v]
  exact Ok_le (hQ A h2 _ _ hB0 hB1 hB2 R2 C2 S2) _ _ (by omega) (by omega)
theorem lc_isFull {scr n j : Nat} {A : Nat → Nat} {h : MH} {a5 a6 : Value} {bc bs B1 B2 : Nat} {Q : MR → MH → Prop} (R : Rl A h) (C : Cs h) (S : Scr scr n h) (hj : 4 * j + 4 ≤ n) (hn : n ≤ 256) (hb1 : bc + 826 ≤ B1) (hb2 : bs + 98959 ≤ B2) (hQ : LQ A scr n j bc bs Q) : Ok 329 957 [.ref scr, .ref (A 0), .ref (A 22), .ref (A 39), .int (Int32.ofNat (4 * j)), a5, a6] [] h B1 B2 Q := by
  have S0 := S
  obtain ⟨s1, s2, s3, s4⟩ := S
  obtain ⟨k0, k1, k2⟩ := Rl_c R
  have e1 : Int32.ofNat (4 * j) + 1 = Int32.ofNat (4 * j + 1) := n_add (4 * j) 1
  have v1 : vp_in (Int32.ofNat (4 * j + 1)) n := vp_of (by omega) (by omega)
  have e2 : Int32.ofNat (4 * j) + 2 = Int32.ofNat (4 * j + 2) := n_add (4 * j) 2
  have v2 : vp_in (Int32.ofNat (4 * j + 2)) n := vp_of (by omega) (by omega)
  have e3 : Int32.ofNat (4 * j) + 3 = Int32.ofNat (4 * j + 3) := n_add (4 * j) 3
  have v3 : vp_in (Int32.ofNat (4 * j + 3)) n := vp_of (by omega) (by omega)
  have b0 : (1 ≤ B1) = True := eq_true (by omega)
  have b1 : (6 ≤ B2) = True := eq_true (by omega)
  simp only [o329_957, o329_958, o329_959, o329_961, o329_962, o329_963, o329_964, o329_965, mcs_0, true_and, and_self, Nat.zero_le, s1, s2, e1, v1, b0, b1]
  refine Ok_mono _ _ _ _ _ _ _ _ _ (fun r h1 q => ?_) (Ok_low (op_isFull R))
  obtain ⟨⟨k, rfl, g1, z⟩, lw⟩ := q
  replace lw := lw s4
  obtain ⟨S1, si⟩ := Scr_Lw S0 lw
  have C1 := Cs_Lw C lw
  obtain ⟨t1, t2, t3, t4⟩ := id S1
  have d0 : (0 ≤ (B1 - 1)) = True := eq_true (by omega)
  have d1 : (0 ≤ (B2 - 6)) = True := eq_true (by omega)
  simp only [o329_968, o329_970, o329_971, o329_972, o329_974, o329_975, o329_976, o329_977, mcs_0, Kn_v, true_and, and_self, Nat.zero_le, t1, t2, g1, si, e1, v1]
  refine Ok_mono _ _ _ _ _ _ _ _ _ (fun r h2 q => ?_) (Ok_low (z))
  obtain ⟨⟨b, rfl, R2, x1, x2⟩, lw2⟩ := q
  have hB0 : A 0 = A 0 := rfl
  have hB1 : A 22 = A 22 := rfl
  have hB2 : A 39 = A 39 := rfl
  replace lw2 := lw2 t4
  have S2 := (Scr_Lw S1 lw2).1
  have C2 := Cs_Lw C1 lw2
  simp only [o329_980, o329_982, Kn_v]
  exact Ok_le (hQ A h2 _ _ hB0 hB1 hB2 R2 C2 S2) _ _ (by omega) (by omega)
theorem lc_place {scr n j : Nat} {A : Nat → Nat} {h : MH} {a5 a6 : Value} {bc bs B1 B2 : Nat} {Q : MR → MH → Prop} (R : Rl A h) (C : Cs h) (S : Scr scr n h) (hj : 4 * j + 4 ≤ n) (hn : n ≤ 256) (hb1 : bc + 826 ≤ B1) (hb2 : bs + 98959 ≤ B2) (hQ : LQ A scr n j bc bs Q) : Ok 329 985 [.ref scr, .ref (A 0), .ref (A 22), .ref (A 39), .int (Int32.ofNat (4 * j)), a5, a6] [] h B1 B2 Q := by
  have S0 := S
  obtain ⟨s1, s2, s3, s4⟩ := S
  obtain ⟨k0, k1, k2⟩ := Rl_c R
  have e1 : Int32.ofNat (4 * j) + 1 = Int32.ofNat (4 * j + 1) := n_add (4 * j) 1
  have v1 : vp_in (Int32.ofNat (4 * j + 1)) n := vp_of (by omega) (by omega)
  have e2 : Int32.ofNat (4 * j) + 2 = Int32.ofNat (4 * j + 2) := n_add (4 * j) 2
  have v2 : vp_in (Int32.ofNat (4 * j + 2)) n := vp_of (by omega) (by omega)
  have e3 : Int32.ofNat (4 * j) + 3 = Int32.ofNat (4 * j + 3) := n_add (4 * j) 3
  have v3 : vp_in (Int32.ofNat (4 * j + 3)) n := vp_of (by omega) (by omega)
  have b0 : (2 ≤ B1) = True := eq_true (by omega)
  have b1 : (12 ≤ B2) = True := eq_true (by omega)
  simp only [o329_985, o329_986, o329_987, o329_989, o329_990, o329_991, o329_992, o329_993, o329_995, o329_996, o329_997, o329_998, o329_999, mcs_0, true_and, and_self, Nat.zero_le, s1, s2, e1, v1, e2, v2, b0, b1]
  refine Ok_mono _ _ _ _ _ _ _ _ _ (fun r h1 q => ?_) (Ok_low (op_place R))
  obtain ⟨⟨k, rfl, g1, z⟩, lw⟩ := q
  replace lw := lw s4
  obtain ⟨S1, si⟩ := Scr_Lw S0 lw
  have C1 := Cs_Lw C lw
  obtain ⟨t1, t2, t3, t4⟩ := id S1
  have d0 : (1 ≤ (B1 - 2)) = True := eq_true (by omega)
  have d1 : (7 ≤ (B2 - 12)) = True := eq_true (by omega)
  simp only [o329_1002, o329_1004, o329_1005, o329_1006, o329_1008, o329_1009, o329_1010, o329_1011, o329_1012, o329_1014, o329_1015, o329_1016, o329_1017, mcs_0, Kn_v, true_and, and_self, Nat.zero_le, t1, t2, g1, si, e1, v1, e2, v2, d0, d1]
  refine Ok_mono _ _ _ _ _ _ _ _ _ (fun r h2 q => ?_) (Ok_low (z))
  obtain ⟨⟨b, rfl, R2, x1, x2⟩, lw2⟩ := q
  have hB0 : A 0 = A 0 := rfl
  have hB1 : A 22 = A 22 := rfl
  have hB2 : A 39 = A 39 := rfl
  replace lw2 := lw2 t4
  have S2 := (Scr_Lw S1 lw2).1
  have C2 := Cs_Lw C1 lw2
  simp only [o329_1020, o329_1022, Kn_v]
  exact Ok_le (hQ A h2 _ _ hB0 hB1 hB2 R2 C2 S2) _ _ (by omega) (by omega)
theorem lc_queueText {scr n j : Nat} {A : Nat → Nat} {h : MH} {a5 a6 : Value} {bc bs B1 B2 : Nat} {Q : MR → MH → Prop} (R : Rl A h) (C : Cs h) (S : Scr scr n h) (hj : 4 * j + 4 ≤ n) (hn : n ≤ 256) (hb1 : bc + 826 ≤ B1) (hb2 : bs + 98959 ≤ B2) (hQ : LQ A scr n j bc bs Q) : Ok 329 1025 [.ref scr, .ref (A 0), .ref (A 22), .ref (A 39), .int (Int32.ofNat (4 * j)), a5, a6] [] h B1 B2 Q := by
  have S0 := S
  obtain ⟨s1, s2, s3, s4⟩ := S
  obtain ⟨k0, k1, k2⟩ := Rl_c R
  have e1 : Int32.ofNat (4 * j) + 1 = Int32.ofNat (4 * j + 1) := n_add (4 * j) 1
  have v1 : vp_in (Int32.ofNat (4 * j + 1)) n := vp_of (by omega) (by omega)
  have e2 : Int32.ofNat (4 * j) + 2 = Int32.ofNat (4 * j + 2) := n_add (4 * j) 2
  have v2 : vp_in (Int32.ofNat (4 * j + 2)) n := vp_of (by omega) (by omega)
  have e3 : Int32.ofNat (4 * j) + 3 = Int32.ofNat (4 * j + 3) := n_add (4 * j) 3
  have v3 : vp_in (Int32.ofNat (4 * j + 3)) n := vp_of (by omega) (by omega)
  have b0 : (130 ≤ B1) = True := eq_true (by omega)
  have b1 : (19210 ≤ B2) = True := eq_true (by omega)
  simp only [o329_1025, o329_1026, o329_1027, o329_1029, o329_1030, o329_1031, o329_1032, o329_1033, mcs_0, true_and, and_self, Nat.zero_le, s1, s2, e1, v1, b0, b1]
  refine Ok_mono _ _ _ _ _ _ _ _ _ (fun r h1 q => ?_) (Ok_low (x_queueText R))
  obtain ⟨⟨k, rfl, R1⟩, lw⟩ := q
  have g1 := (Rl_c R1).2.1
  replace lw := lw s4
  obtain ⟨S1, si⟩ := Scr_Lw S0 lw
  have C1 := Cs_Lw C lw
  obtain ⟨t1, t2, t3, t4⟩ := id S1
  have d0 : (16 ≤ (B1 - 130)) = True := eq_true (by omega)
  have d1 : (1974 ≤ (B2 - 19210)) = True := eq_true (by omega)
  simp only [o329_1036, o329_1038, o329_1039, o329_1040, o329_1042, o329_1043, o329_1044, o329_1045, mcs_0, Kn_v, true_and, and_self, Nat.zero_le, t1, t2, g1, si, e1, v1, d0, d1]
  refine Ok_mono _ _ _ _ _ _ _ _ _ (fun r h2 q => ?_) (Ok_low (m_queueText R1 C1))
  obtain ⟨⟨b, rfl, R2⟩, lw2⟩ := q
  have hB0 : A 0 = A 0 := rfl
  have hB1 : A 22 = A 22 := rfl
  have hB2 : A 39 = A 39 := rfl
  replace lw2 := lw2 t4
  have S2 := (Scr_Lw S1 lw2).1
  have C2 := Cs_Lw C1 lw2
  simp only [o329_1048, o329_1050, Kn_v]
  exact Ok_le (hQ A h2 _ _ hB0 hB1 hB2 R2 C2 S2) _ _ (by omega) (by omega)
theorem lc_pour {scr n j : Nat} {A : Nat → Nat} {h : MH} {a5 a6 : Value} {bc bs B1 B2 : Nat} {Q : MR → MH → Prop} (R : Rl A h) (C : Cs h) (S : Scr scr n h) (hj : 4 * j + 4 ≤ n) (hn : n ≤ 256) (hb1 : bc + 826 ≤ B1) (hb2 : bs + 98959 ≤ B2) (hQ : LQ A scr n j bc bs Q) : Ok 329 1053 [.ref scr, .ref (A 0), .ref (A 22), .ref (A 39), .int (Int32.ofNat (4 * j)), a5, a6] [] h B1 B2 Q := by
  have S0 := S
  obtain ⟨s1, s2, s3, s4⟩ := S
  obtain ⟨k0, k1, k2⟩ := Rl_c R
  have e1 : Int32.ofNat (4 * j) + 1 = Int32.ofNat (4 * j + 1) := n_add (4 * j) 1
  have v1 : vp_in (Int32.ofNat (4 * j + 1)) n := vp_of (by omega) (by omega)
  have e2 : Int32.ofNat (4 * j) + 2 = Int32.ofNat (4 * j + 2) := n_add (4 * j) 2
  have v2 : vp_in (Int32.ofNat (4 * j + 2)) n := vp_of (by omega) (by omega)
  have e3 : Int32.ofNat (4 * j) + 3 = Int32.ofNat (4 * j + 3) := n_add (4 * j) 3
  have v3 : vp_in (Int32.ofNat (4 * j + 3)) n := vp_of (by omega) (by omega)
  have b0 : (3 ≤ B1) = True := eq_true (by omega)
  have b1 : (18 ≤ B2) = True := eq_true (by omega)
  simp only [o329_1053, o329_1054, o329_1055, o329_1057, o329_1058, o329_1059, o329_1060, o329_1061, o329_1063, o329_1064, o329_1065, o329_1066, o329_1067, mcs_0, true_and, and_self, Nat.zero_le, s1, s2, e1, v1, e2, v2, b0, b1]
  refine Ok_mono _ _ _ _ _ _ _ _ _ (fun r h1 q => ?_) (Ok_low (op_pour R))
  obtain ⟨⟨k, rfl, g1, z⟩, lw⟩ := q
  replace lw := lw s4
  obtain ⟨S1, si⟩ := Scr_Lw S0 lw
  have C1 := Cs_Lw C lw
  obtain ⟨t1, t2, t3, t4⟩ := id S1
  have d0 : (0 ≤ (B1 - 3)) = True := eq_true (by omega)
  have d1 : (0 ≤ (B2 - 18)) = True := eq_true (by omega)
  simp only [o329_1070, o329_1072, o329_1073, o329_1074, o329_1076, o329_1077, o329_1078, o329_1079, o329_1080, o329_1082, o329_1083, o329_1084, o329_1085, mcs_0, Kn_v, true_and, and_self, Nat.zero_le, t1, t2, g1, si, e1, v1, e2, v2]
  refine Ok_mono _ _ _ _ _ _ _ _ _ (fun r h2 q => ?_) (Ok_low (z))
  obtain ⟨⟨b, rfl, R2, x1, x2⟩, lw2⟩ := q
  have hB0 : A 0 = A 0 := rfl
  have hB1 : A 22 = A 22 := rfl
  have hB2 : A 39 = A 39 := rfl
  replace lw2 := lw2 t4
  have S2 := (Scr_Lw S1 lw2).1
  have C2 := Cs_Lw C1 lw2
  simp only [o329_1088, o329_1090, Kn_v]
  exact Ok_le (hQ A h2 _ _ hB0 hB1 hB2 R2 C2 S2) _ _ (by omega) (by omega)
theorem lc_pourAll {scr n j : Nat} {A : Nat → Nat} {h : MH} {a5 a6 : Value} {bc bs B1 B2 : Nat} {Q : MR → MH → Prop} (R : Rl A h) (C : Cs h) (S : Scr scr n h) (hj : 4 * j + 4 ≤ n) (hn : n ≤ 256) (hb1 : bc + 826 ≤ B1) (hb2 : bs + 98959 ≤ B2) (hQ : LQ A scr n j bc bs Q) : Ok 329 1093 [.ref scr, .ref (A 0), .ref (A 22), .ref (A 39), .int (Int32.ofNat (4 * j)), a5, a6] [] h B1 B2 Q := by
  have S0 := S
  obtain ⟨s1, s2, s3, s4⟩ := S
  obtain ⟨k0, k1, k2⟩ := Rl_c R
  have e1 : Int32.ofNat (4 * j) + 1 = Int32.ofNat (4 * j + 1) := n_add (4 * j) 1
  have v1 : vp_in (Int32.ofNat (4 * j + 1)) n := vp_of (by omega) (by omega)
  have e2 : Int32.ofNat (4 * j) + 2 = Int32.ofNat (4 * j + 2) := n_add (4 * j) 2
  have v2 : vp_in (Int32.ofNat (4 * j + 2)) n := vp_of (by omega) (by omega)
  have e3 : Int32.ofNat (4 * j) + 3 = Int32.ofNat (4 * j + 3) := n_add (4 * j) 3
  have v3 : vp_in (Int32.ofNat (4 * j + 3)) n := vp_of (by omega) (by omega)
  have b0 : (3 ≤ B1) = True := eq_true (by omega)
  have b1 : (18 ≤ B2) = True := eq_true (by omega)
  simp only [o329_1093, o329_1094, o329_1095, o329_1097, o329_1098, o329_1099, o329_1100, o329_1101, o329_1103, o329_1104, o329_1105, o329_1106, o329_1107, mcs_0, true_and, and_self, Nat.zero_le, s1, s2, e1, v1, e2, v2, b0, b1]
  refine Ok_mono _ _ _ _ _ _ _ _ _ (fun r h1 q => ?_) (Ok_low (op_pourAll R))
  obtain ⟨⟨k, rfl, g1, z⟩, lw⟩ := q
  replace lw := lw s4
  obtain ⟨S1, si⟩ := Scr_Lw S0 lw
  have C1 := Cs_Lw C lw
  obtain ⟨t1, t2, t3, t4⟩ := id S1
  have d0 : (0 ≤ (B1 - 3)) = True := eq_true (by omega)
  have d1 : (0 ≤ (B2 - 18)) = True := eq_true (by omega)
  simp only [o329_1110, o329_1112, o329_1113, o329_1114, o329_1116, o329_1117, o329_1118, o329_1119, o329_1120, o329_1122, o329_1123, o329_1124, o329_1125, mcs_0, Kn_v, true_and, and_self, Nat.zero_le, t1, t2, g1, si, e1, v1, e2, v2]
  refine Ok_mono _ _ _ _ _ _ _ _ _ (fun r h2 q => ?_) (Ok_low (z))
  obtain ⟨⟨b, rfl, R2, x1, x2⟩, lw2⟩ := q
  have hB0 : A 0 = A 0 := rfl
  have hB1 : A 22 = A 22 := rfl
  have hB2 : A 39 = A 39 := rfl
  replace lw2 := lw2 t4
  have S2 := (Scr_Lw S1 lw2).1
  have C2 := Cs_Lw C1 lw2
  simp only [o329_1128, o329_1130, Kn_v]
  exact Ok_le (hQ A h2 _ _ hB0 hB1 hB2 R2 C2 S2) _ _ (by omega) (by omega)
theorem lc_draw {scr n j : Nat} {A : Nat → Nat} {h : MH} {a5 a6 : Value} {bc bs B1 B2 : Nat} {Q : MR → MH → Prop} (R : Rl A h) (C : Cs h) (S : Scr scr n h) (hj : 4 * j + 4 ≤ n) (hn : n ≤ 256) (hb1 : bc + 826 ≤ B1) (hb2 : bs + 98959 ≤ B2) (hQ : LQ A scr n j bc bs Q) : Ok 329 1133 [.ref scr, .ref (A 0), .ref (A 22), .ref (A 39), .int (Int32.ofNat (4 * j)), a5, a6] [] h B1 B2 Q := by
  have S0 := S
  obtain ⟨s1, s2, s3, s4⟩ := S
  obtain ⟨k0, k1, k2⟩ := Rl_c R
  have e1 : Int32.ofNat (4 * j) + 1 = Int32.ofNat (4 * j + 1) := n_add (4 * j) 1
  have v1 : vp_in (Int32.ofNat (4 * j + 1)) n := vp_of (by omega) (by omega)
  have e2 : Int32.ofNat (4 * j) + 2 = Int32.ofNat (4 * j + 2) := n_add (4 * j) 2
  have v2 : vp_in (Int32.ofNat (4 * j + 2)) n := vp_of (by omega) (by omega)
  have e3 : Int32.ofNat (4 * j) + 3 = Int32.ofNat (4 * j + 3) := n_add (4 * j) 3
  have v3 : vp_in (Int32.ofNat (4 * j + 3)) n := vp_of (by omega) (by omega)
  have b0 : (1 ≤ B1) = True := eq_true (by omega)
  have b1 : (6 ≤ B2) = True := eq_true (by omega)
  simp only [o329_1133, o329_1134, o329_1135, mcs_0, true_and, Nat.zero_le, b0, b1]
  refine Ok_mono _ _ _ _ _ _ _ _ _ (fun r h1 q => ?_) (Ok_low (op_draw R))
  obtain ⟨⟨k, rfl, g1, z⟩, lw⟩ := q
  replace lw := lw s4
  obtain ⟨S1, si⟩ := Scr_Lw S0 lw
  have C1 := Cs_Lw C lw
  obtain ⟨t1, t2, t3, t4⟩ := id S1
  have d0 : (0 ≤ (B1 - 1)) = True := eq_true (by omega)
  have d1 : (0 ≤ (B2 - 6)) = True := eq_true (by omega)
  simp only [o329_1138, o329_1140, o329_1141, mcs_0, Kn_v, true_and, Nat.zero_le, g1]
  refine Ok_mono _ _ _ _ _ _ _ _ _ (fun r h2 q => ?_) (Ok_low (z))
  obtain ⟨⟨b, rfl, R2, x1, x2⟩, lw2⟩ := q
  have hB0 : A 0 = A 0 := rfl
  have hB1 : A 22 = A 22 := rfl
  have hB2 : A 39 = A 39 := rfl
  replace lw2 := lw2 t4
  have S2 := (Scr_Lw S1 lw2).1
  have C2 := Cs_Lw C1 lw2
  simp only [o329_1144, o329_1146, Kn_v]
  exact Ok_le (hQ A h2 _ _ hB0 hB1 hB2 R2 C2 S2) _ _ (by omega) (by omega)
end

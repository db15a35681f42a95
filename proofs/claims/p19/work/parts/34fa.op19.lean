set_option maxRecDepth 16384
/-! TEXTS and the relation -/
theorem Kc_ne {A : Nat → Nat} {h : MH} (k : Kc1 A h) : ∀ i, i < 40 → ¬ g_c h (A i) = 103 := by
  obtain ⟨kc0, kc1, kc2, kc3, kc4, kc5, kc6, kc7, kc8, kc9, kc10, kc11, kc12, kc13, kc14, kc15, kc16, kc17, kc18, kc19, kc20, kc21, kc22, kc23, kc24, kc25, kc26, kc27, kc28, kc29, kc30, kc31, kc32, kc33, kc34, kc35, kc36, kc37, kc38, kc39⟩ := k
  intro i hi z
  match i, hi with
  | 0, _ => rw [kc0] at z; cases z
  | 1, _ => rw [kc1] at z; cases z
  | 2, _ => rw [kc2] at z; cases z
  | 3, _ => rw [kc3] at z; cases z
  | 4, _ => rw [kc4] at z; cases z
  | 5, _ => rw [kc5] at z; cases z
  | 6, _ => rw [kc6] at z; cases z
  | 7, _ => rw [kc7] at z; cases z
  | 8, _ => rw [kc8] at z; cases z
  | 9, _ => rw [kc9] at z; cases z
  | 10, _ => rw [kc10] at z; cases z
  | 11, _ => rw [kc11] at z; cases z
  | 12, _ => rw [kc12] at z; cases z
  | 13, _ => rw [kc13] at z; cases z
  | 14, _ => rw [kc14] at z; cases z
  | 15, _ => rw [kc15] at z; cases z
  | 16, _ => rw [kc16] at z; cases z
  | 17, _ => rw [kc17] at z; cases z
  | 18, _ => rw [kc18] at z; cases z
  | 19, _ => rw [kc19] at z; cases z
  | 20, _ => rw [kc20] at z; cases z
  | 21, _ => rw [kc21] at z; cases z
  | 22, _ => rw [kc22] at z; cases z
  | 23, _ => rw [kc23] at z; cases z
  | 24, _ => rw [kc24] at z; cases z
  | 25, _ => rw [kc25] at z; cases z
  | 26, _ => rw [kc26] at z; cases z
  | 27, _ => rw [kc27] at z; cases z
  | 28, _ => rw [kc28] at z; cases z
  | 29, _ => rw [kc29] at z; cases z
  | 30, _ => rw [kc30] at z; cases z
  | 31, _ => rw [kc31] at z; cases z
  | 32, _ => rw [kc32] at z; cases z
  | 33, _ => rw [kc33] at z; cases z
  | 34, _ => rw [kc34] at z; cases z
  | 35, _ => rw [kc35] at z; cases z
  | 36, _ => rw [kc36] at z; cases z
  | 37, _ => rw [kc37] at z; cases z
  | 38, _ => rw [kc38] at z; cases z
  | 39, _ => rw [kc39] at z; cases z
  | n + 40, hi => exact absurd hi (by omega)
theorem Fx_at {A : Nat → Nat} {h m : MH} {sb dg : Nat} (k : K A h) (f : Fx sb dg h m) {i : Nat} (hi : i < 40) (n1 : ¬ A i = sb) (n2 : ¬ A i = dg) : (∀ j, g_i m (A i) j = g_i h (A i) j) ∧ (∀ j, g_l m (A i) j = g_l h (A i) j) ∧ ∀ j, g_r m (A i) j = g_r h (A i) j :=
  (f.2.2.2 _ (k.2.2.1.2 i hi)).2 n1 n2 (Kc_ne k.2.1 i hi)
theorem Bd_of {A : Nat → Nat} {h : MH} (R : Rl A h) : ∃ n, Bd (A 20) n h := by
  have R0 := R
  obtain ⟨vk, vcn, v0, v1, v2, vp, vl0, vl1, vlr, vsr, vc, tx⟩ := R0
  have vk0 := vk
  have vcn0 := vcn
  (refine K_el vk0 ?_; intros hA kc0 kc1 kc2 kc3 kc4 kc5 kc6 kc7 kc8 kc9 kc10 kc11 kc12 kc13 kc14 kc15 kc16 kc17 kc18 kc19 kc20 kc21 kc22 kc23 kc24 kc25 kc26 kc27 kc28 kc29 kc30 kc31 kc32 kc33 kc34 kc35 kc36 kc37 kc38 kc39 kz kt kn3 kn4 kn18 kn21 kn23 kn24 kn25 kn26 kn27 kn29 kn30 kr0_0 kr0_1 kr0_2 kr0_3 kr0_4 kr0_5 kr0_7 kr0_8 kr0_9 kr0_10 kr1_0 kr2_0 kr5_0 kr5_1 kr6_0 kr6_1 kr7_0 kr7_1 kr8_0 kr9_0 kr10_0 kr11_0 kr12_0 kr13_0 kr14_0 kr15_0 kr16_0 kr17_0 kr19_0 kr19_1 kr22_0 kr22_1 kr22_2 kr22_3 kr22_4 kr22_5 kr22_7 kr22_8 kr25_0 kr25_1 kr25_2 kr26_0 kr26_1 kr26_2 kr29_0 kr29_1)
  (refine Cn_el vcn0 ?_; intros ki5_2 ki6_2 ki7_2 ki8_1 ki8_2 ki8_3 ki9_1 ki9_2 ki9_3 ki10_1 ki10_2 ki10_3 ki11_1 ki11_2 ki11_3 ki12_1 ki12_2 ki12_3 ki13_1 ki13_2 ki13_3 ki14_1 ki14_2 ki14_3 ki28_0 ki28_1 ki31_0 ki31_1 ki32_0 ki32_1 ki33_0 ki33_1 ki34_0 ki34_1 ki35_0 ki35_1 ki36_0 ki36_1)
  have hAe : ∀ i j, i < 40 → j < 40 → (A i = A j ↔ i = j) := hA
  obtain ⟨v, a1, a2, a3, a4, a5, a6, a7, a8, a9⟩ := tx
  refine ⟨(g_i h (A 20) 3).toNatClampNeg, kc20, kz 20 (by decide), kt 20 (by decide), a7, ?_, v, a1, a2, a3, a4, a5, a9⟩
  rw [Int32.lt_iff_toInt_lt] at a8
  have e1 : (0 : Int32).toInt = 0 := rfl
  exact toNat_of (by omega)
theorem Tx_Bd {A : Nat → Nat} {m : MH} {n : Nat} (b : Bd (A 20) n m) : Tx A m := by
  obtain ⟨c1, c2, c3, c4, c5, v, v1, v2, v3, v4, v5, v6⟩ := b
  have hc := capOk_le v5
  refine ⟨v, v1, v2, v3, v4, v5, ?_, c4, ?_, ?_⟩
  · unfold capOk at v5; omega
  · rw [c5, n_z (by omega)]; exact fun z => z
  · rw [c5, n_cl (by omega)]; exact v6
theorem Wo_of {A : Nat → Nat} {h : MH} (R : Rl A h) : Wo (A 19) (A 20) (A 21) h := by
  have R0 := R
  obtain ⟨vk, vcn, v0, v1, v2, vp, vl0, vl1, vlr, vsr, vc, tx⟩ := R0
  have vk0 := vk
  have vcn0 := vcn
  (refine K_el vk0 ?_; intros hA kc0 kc1 kc2 kc3 kc4 kc5 kc6 kc7 kc8 kc9 kc10 kc11 kc12 kc13 kc14 kc15 kc16 kc17 kc18 kc19 kc20 kc21 kc22 kc23 kc24 kc25 kc26 kc27 kc28 kc29 kc30 kc31 kc32 kc33 kc34 kc35 kc36 kc37 kc38 kc39 kz kt kn3 kn4 kn18 kn21 kn23 kn24 kn25 kn26 kn27 kn29 kn30 kr0_0 kr0_1 kr0_2 kr0_3 kr0_4 kr0_5 kr0_7 kr0_8 kr0_9 kr0_10 kr1_0 kr2_0 kr5_0 kr5_1 kr6_0 kr6_1 kr7_0 kr7_1 kr8_0 kr9_0 kr10_0 kr11_0 kr12_0 kr13_0 kr14_0 kr15_0 kr16_0 kr17_0 kr19_0 kr19_1 kr22_0 kr22_1 kr22_2 kr22_3 kr22_4 kr22_5 kr22_7 kr22_8 kr25_0 kr25_1 kr25_2 kr26_0 kr26_1 kr26_2 kr29_0 kr29_1)
  (refine Cn_el vcn0 ?_; intros ki5_2 ki6_2 ki7_2 ki8_1 ki8_2 ki8_3 ki9_1 ki9_2 ki9_3 ki10_1 ki10_2 ki10_3 ki11_1 ki11_2 ki11_3 ki12_1 ki12_2 ki12_3 ki13_1 ki13_2 ki13_3 ki14_1 ki14_2 ki14_3 ki28_0 ki28_1 ki31_0 ki31_1 ki32_0 ki32_1 ki33_0 ki33_1 ki34_0 ki34_1 ki35_0 ki35_1 ki36_0 ki36_1)
  have hAe : ∀ i j, i < 40 → j < 40 → (A i = A j ↔ i = j) := hA
  exact ⟨kc19, kt 19 (by decide), kr19_0, kr19_1, kc21, kz 21 (by decide), kt 21 (by decide), kn21, kc20⟩
theorem Rl_Fx0 {A : Nat → Nat} {h m : MH} {sb dg : Nat} (R : Rl A h) (f : Fx sb dg h m) (hs : sb = A 20) (hd : dg = A 21) (b : Tx A m) : Rl A m := by
  have R0 := R
  obtain ⟨vk, vcn, v0, v1, v2, vp, vl0, vl1, vlr, vsr, vc, tx⟩ := R0
  have vk0 := vk
  have vcn0 := vcn
  (refine K_el vk0 ?_; intros hA kc0 kc1 kc2 kc3 kc4 kc5 kc6 kc7 kc8 kc9 kc10 kc11 kc12 kc13 kc14 kc15 kc16 kc17 kc18 kc19 kc20 kc21 kc22 kc23 kc24 kc25 kc26 kc27 kc28 kc29 kc30 kc31 kc32 kc33 kc34 kc35 kc36 kc37 kc38 kc39 kz kt kn3 kn4 kn18 kn21 kn23 kn24 kn25 kn26 kn27 kn29 kn30 kr0_0 kr0_1 kr0_2 kr0_3 kr0_4 kr0_5 kr0_7 kr0_8 kr0_9 kr0_10 kr1_0 kr2_0 kr5_0 kr5_1 kr6_0 kr6_1 kr7_0 kr7_1 kr8_0 kr9_0 kr10_0 kr11_0 kr12_0 kr13_0 kr14_0 kr15_0 kr16_0 kr17_0 kr19_0 kr19_1 kr22_0 kr22_1 kr22_2 kr22_3 kr22_4 kr22_5 kr22_7 kr22_8 kr25_0 kr25_1 kr25_2 kr26_0 kr26_1 kr26_2 kr29_0 kr29_1)
  (refine Cn_el vcn0 ?_; intros ki5_2 ki6_2 ki7_2 ki8_1 ki8_2 ki8_3 ki9_1 ki9_2 ki9_3 ki10_1 ki10_2 ki10_3 ki11_1 ki11_2 ki11_3 ki12_1 ki12_2 ki12_3 ki13_1 ki13_2 ki13_3 ki14_1 ki14_2 ki14_3 ki28_0 ki28_1 ki31_0 ki31_1 ki32_0 ki32_1 ki33_0 ki33_1 ki34_0 ki34_1 ki35_0 ki35_1 ki36_0 ki36_1)
  have hAe : ∀ i j, i < 40 → j < 40 → (A i = A j ↔ i = j) := hA
  have nn : ∀ i, i < 40 → i ≠ 20 → i ≠ 21 → ¬ A i = sb ∧ ¬ A i = dg := fun i hi n1 n2 => ⟨fun z => n1 ((hA i 20 hi (by decide)).mp (z.trans hs)), fun z => n2 ((hA i 21 hi (by decide)).mp (z.trans hd))⟩
  have fa : ∀ i, (hi : i < 40) → i ≠ 20 → i ≠ 21 → (∀ j, g_i m (A i) j = g_i h (A i) j) ∧ (∀ j, g_l m (A i) j = g_l h (A i) j) ∧ ∀ j, g_r m (A i) j = g_r h (A i) j := fun i hi n1 n2 => Fx_at vk f hi (nn i hi n1 n2).1 (nn i hi n1 n2).2
  obtain ⟨f1, f2, f3, f4⟩ := f
  have e1 : ∀ i, i < 40 → g_c m (A i) = g_c h (A i) := fun i hi => (f4 _ (kt i hi)).1.1
  have e2 : ∀ i, i < 40 → g_n m (A i) = g_n h (A i) := fun i hi => (f4 _ (kt i hi)).1.2
  have i0 := (fa 0 (by decide) (by decide) (by decide)).1
  have l0 := (fa 0 (by decide) (by decide) (by decide)).2.1
  have r0 := (fa 0 (by decide) (by decide) (by decide)).2.2
  have i1 := (fa 1 (by decide) (by decide) (by decide)).1
  have l1 := (fa 1 (by decide) (by decide) (by decide)).2.1
  have r1 := (fa 1 (by decide) (by decide) (by decide)).2.2
  have i2 := (fa 2 (by decide) (by decide) (by decide)).1
  have l2 := (fa 2 (by decide) (by decide) (by decide)).2.1
  have r2 := (fa 2 (by decide) (by decide) (by decide)).2.2
  have i3 := (fa 3 (by decide) (by decide) (by decide)).1
  have l3 := (fa 3 (by decide) (by decide) (by decide)).2.1
  have r3 := (fa 3 (by decide) (by decide) (by decide)).2.2
  have i4 := (fa 4 (by decide) (by decide) (by decide)).1
  have l4 := (fa 4 (by decide) (by decide) (by decide)).2.1
  have r4 := (fa 4 (by decide) (by decide) (by decide)).2.2
  have i5 := (fa 5 (by decide) (by decide) (by decide)).1
  have l5 := (fa 5 (by decide) (by decide) (by decide)).2.1
  have r5 := (fa 5 (by decide) (by decide) (by decide)).2.2
  have i6 := (fa 6 (by decide) (by decide) (by decide)).1
  have l6 := (fa 6 (by decide) (by decide) (by decide)).2.1
  have r6 := (fa 6 (by decide) (by decide) (by decide)).2.2
  have i7 := (fa 7 (by decide) (by decide) (by decide)).1
  have l7 := (fa 7 (by decide) (by decide) (by decide)).2.1
  have r7 := (fa 7 (by decide) (by decide) (by decide)).2.2
  have i8 := (fa 8 (by decide) (by decide) (by decide)).1
  have l8 := (fa 8 (by decide) (by decide) (by decide)).2.1
  have r8 := (fa 8 (by decide) (by decide) (by decide)).2.2
  have i9 := (fa 9 (by decide) (by decide) (by decide)).1
  have l9 := (fa 9 (by decide) (by decide) (by decide)).2.1
  have r9 := (fa 9 (by decide) (by decide) (by decide)).2.2
  have i10 := (fa 10 (by decide) (by decide) (by decide)).1
  have l10 := (fa 10 (by decide) (by decide) (by decide)).2.1
  have r10 := (fa 10 (by decide) (by decide) (by decide)).2.2
  have i11 := (fa 11 (by decide) (by decide) (by decide)).1
  have l11 := (fa 11 (by decide) (by decide) (by decide)).2.1
  have r11 := (fa 11 (by decide) (by decide) (by decide)).2.2
  have i12 := (fa 12 (by decide) (by decide) (by decide)).1
  have l12 := (fa 12 (by decide) (by decide) (by decide)).2.1
  have r12 := (fa 12 (by decide) (by decide) (by decide)).2.2
  have i13 := (fa 13 (by decide) (by decide) (by decide)).1
  have l13 := (fa 13 (by decide) (by decide) (by decide)).2.1
  have r13 := (fa 13 (by decide) (by decide) (by decide)).2.2
  have i14 := (fa 14 (by decide) (by decide) (by decide)).1
  have l14 := (fa 14 (by decide) (by decide) (by decide)).2.1
  have r14 := (fa 14 (by decide) (by decide) (by decide)).2.2
  have i15 := (fa 15 (by decide) (by decide) (by decide)).1
  have l15 := (fa 15 (by decide) (by decide) (by decide)).2.1
  have r15 := (fa 15 (by decide) (by decide) (by decide)).2.2
  have i16 := (fa 16 (by decide) (by decide) (by decide)).1
  have l16 := (fa 16 (by decide) (by decide) (by decide)).2.1
  have r16 := (fa 16 (by decide) (by decide) (by decide)).2.2
  have i17 := (fa 17 (by decide) (by decide) (by decide)).1
  have l17 := (fa 17 (by decide) (by decide) (by decide)).2.1
  have r17 := (fa 17 (by decide) (by decide) (by decide)).2.2
  have i18 := (fa 18 (by decide) (by decide) (by decide)).1
  have l18 := (fa 18 (by decide) (by decide) (by decide)).2.1
  have r18 := (fa 18 (by decide) (by decide) (by decide)).2.2
  have i19 := (fa 19 (by decide) (by decide) (by decide)).1
  have l19 := (fa 19 (by decide) (by decide) (by decide)).2.1
  have r19 := (fa 19 (by decide) (by decide) (by decide)).2.2
  have i22 := (fa 22 (by decide) (by decide) (by decide)).1
  have l22 := (fa 22 (by decide) (by decide) (by decide)).2.1
  have r22 := (fa 22 (by decide) (by decide) (by decide)).2.2
  have i23 := (fa 23 (by decide) (by decide) (by decide)).1
  have l23 := (fa 23 (by decide) (by decide) (by decide)).2.1
  have r23 := (fa 23 (by decide) (by decide) (by decide)).2.2
  have i24 := (fa 24 (by decide) (by decide) (by decide)).1
  have l24 := (fa 24 (by decide) (by decide) (by decide)).2.1
  have r24 := (fa 24 (by decide) (by decide) (by decide)).2.2
  have i25 := (fa 25 (by decide) (by decide) (by decide)).1
  have l25 := (fa 25 (by decide) (by decide) (by decide)).2.1
  have r25 := (fa 25 (by decide) (by decide) (by decide)).2.2
  have i26 := (fa 26 (by decide) (by decide) (by decide)).1
  have l26 := (fa 26 (by decide) (by decide) (by decide)).2.1
  have r26 := (fa 26 (by decide) (by decide) (by decide)).2.2
  have i27 := (fa 27 (by decide) (by decide) (by decide)).1
  have l27 := (fa 27 (by decide) (by decide) (by decide)).2.1
  have r27 := (fa 27 (by decide) (by decide) (by decide)).2.2
  have i28 := (fa 28 (by decide) (by decide) (by decide)).1
  have l28 := (fa 28 (by decide) (by decide) (by decide)).2.1
  have r28 := (fa 28 (by decide) (by decide) (by decide)).2.2
  have i29 := (fa 29 (by decide) (by decide) (by decide)).1
  have l29 := (fa 29 (by decide) (by decide) (by decide)).2.1
  have r29 := (fa 29 (by decide) (by decide) (by decide)).2.2
  have i30 := (fa 30 (by decide) (by decide) (by decide)).1
  have l30 := (fa 30 (by decide) (by decide) (by decide)).2.1
  have r30 := (fa 30 (by decide) (by decide) (by decide)).2.2
  have i31 := (fa 31 (by decide) (by decide) (by decide)).1
  have l31 := (fa 31 (by decide) (by decide) (by decide)).2.1
  have r31 := (fa 31 (by decide) (by decide) (by decide)).2.2
  have i32 := (fa 32 (by decide) (by decide) (by decide)).1
  have l32 := (fa 32 (by decide) (by decide) (by decide)).2.1
  have r32 := (fa 32 (by decide) (by decide) (by decide)).2.2
  have i33 := (fa 33 (by decide) (by decide) (by decide)).1
  have l33 := (fa 33 (by decide) (by decide) (by decide)).2.1
  have r33 := (fa 33 (by decide) (by decide) (by decide)).2.2
  have i34 := (fa 34 (by decide) (by decide) (by decide)).1
  have l34 := (fa 34 (by decide) (by decide) (by decide)).2.1
  have r34 := (fa 34 (by decide) (by decide) (by decide)).2.2
  have i35 := (fa 35 (by decide) (by decide) (by decide)).1
  have l35 := (fa 35 (by decide) (by decide) (by decide)).2.1
  have r35 := (fa 35 (by decide) (by decide) (by decide)).2.2
  have i36 := (fa 36 (by decide) (by decide) (by decide)).1
  have l36 := (fa 36 (by decide) (by decide) (by decide)).2.1
  have r36 := (fa 36 (by decide) (by decide) (by decide)).2.2
  have i37 := (fa 37 (by decide) (by decide) (by decide)).1
  have l37 := (fa 37 (by decide) (by decide) (by decide)).2.1
  have r37 := (fa 37 (by decide) (by decide) (by decide)).2.2
  have i38 := (fa 38 (by decide) (by decide) (by decide)).1
  have l38 := (fa 38 (by decide) (by decide) (by decide)).2.1
  have r38 := (fa 38 (by decide) (by decide) (by decide)).2.2
  have i39 := (fa 39 (by decide) (by decide) (by decide)).1
  have l39 := (fa 39 (by decide) (by decide) (by decide)).2.1
  have r39 := (fa 39 (by decide) (by decide) (by decide)).2.2
  obtain ⟨⟨k1, k2, ⟨k3, k4⟩, k5, k6⟩, q2, q3, q4, q5, q6, q7, q8, q9, q10, q11, q12⟩ := R
  refine ⟨⟨k1, ?_, ⟨fun i hi => by rw [f1]; exact k3 i hi, fun i hi => Nat.lt_of_lt_of_le (k4 i hi) f2⟩, ?_, ?_⟩, ?_, ?_, ?_, ?_, ?_, ?_, ?_, ?_, ?_, ?_, ?_⟩
  · simp only [Kc1, e1, Nat.reduceLT]; exact k2
  · simp only [Kn1, e2, Nat.reduceLT]; exact k5
  · simp only [Kr1, r0, r1, r2, r5, r6, r7, r8, r9, r10, r11, r12, r13, r14, r15, r16, r17, r19, r22, r25, r26, r29]; exact k6
  · simp only [Cn, i5, i6, i7, i8, i9, i10, i11, i12, i13, i14, i28, i31, i32, i33, i34, i35, i36]; exact q2
  · simp only [Vq0, cT, mT, i5, i8, i9, i27, i31, i34]; exact q3
  · simp only [Vq1, cT, mT, i6, i10, i11, i27, i32, i35]; exact q4
  · simp only [Vq2, cT, mT, i7, i12, i13, i27, i33, i36]; exact q5
  · simp only [Vp, i0, i14, i22, i28]; exact q6
  · simp only [Vl0, i15, i37]; exact q7
  · simp only [Vl1, i16, i38]; exact q8
  · simp only [Vlr, l3, l23]; exact q9
  · simp only [Vsr, i24, l4]; exact q10
  · simp only [Vc, i18, i30]; exact q11
  · exact b

theorem Rl_Fn {A : Nat → Nat} {h m : MH} {sb dg : Nat} (R : Rl A h) (f : Fx sb dg h m) (hs : g_t h ≤ sb) (hd : g_t h ≤ dg) : Rl A m := by
  have R0 := R
  obtain ⟨vk, vcn, v0, v1, v2, vp, vl0, vl1, vlr, vsr, vc, tx⟩ := R0
  have vk0 := vk
  have vcn0 := vcn
  (refine K_el vk0 ?_; intros hA kc0 kc1 kc2 kc3 kc4 kc5 kc6 kc7 kc8 kc9 kc10 kc11 kc12 kc13 kc14 kc15 kc16 kc17 kc18 kc19 kc20 kc21 kc22 kc23 kc24 kc25 kc26 kc27 kc28 kc29 kc30 kc31 kc32 kc33 kc34 kc35 kc36 kc37 kc38 kc39 kz kt kn3 kn4 kn18 kn21 kn23 kn24 kn25 kn26 kn27 kn29 kn30 kr0_0 kr0_1 kr0_2 kr0_3 kr0_4 kr0_5 kr0_7 kr0_8 kr0_9 kr0_10 kr1_0 kr2_0 kr5_0 kr5_1 kr6_0 kr6_1 kr7_0 kr7_1 kr8_0 kr9_0 kr10_0 kr11_0 kr12_0 kr13_0 kr14_0 kr15_0 kr16_0 kr17_0 kr19_0 kr19_1 kr22_0 kr22_1 kr22_2 kr22_3 kr22_4 kr22_5 kr22_7 kr22_8 kr25_0 kr25_1 kr25_2 kr26_0 kr26_1 kr26_2 kr29_0 kr29_1)
  (refine Cn_el vcn0 ?_; intros ki5_2 ki6_2 ki7_2 ki8_1 ki8_2 ki8_3 ki9_1 ki9_2 ki9_3 ki10_1 ki10_2 ki10_3 ki11_1 ki11_2 ki11_3 ki12_1 ki12_2 ki12_3 ki13_1 ki13_2 ki13_3 ki14_1 ki14_2 ki14_3 ki28_0 ki28_1 ki31_0 ki31_1 ki32_0 ki32_1 ki33_0 ki33_1 ki34_0 ki34_1 ki35_0 ki35_1 ki36_0 ki36_1)
  have hAe : ∀ i j, i < 40 → j < 40 → (A i = A j ↔ i = j) := hA
  have nn : ∀ i, i < 40 →  ¬ A i = sb ∧ ¬ A i = dg := fun i hi => ⟨fun z => by have := kt i hi; omega, fun z => by have := kt i hi; omega⟩
  have fa : ∀ i, (hi : i < 40) →  (∀ j, g_i m (A i) j = g_i h (A i) j) ∧ (∀ j, g_l m (A i) j = g_l h (A i) j) ∧ ∀ j, g_r m (A i) j = g_r h (A i) j := fun i hi => Fx_at vk f hi (nn i hi).1 (nn i hi).2
  obtain ⟨f1, f2, f3, f4⟩ := f
  have e1 : ∀ i, i < 40 → g_c m (A i) = g_c h (A i) := fun i hi => (f4 _ (kt i hi)).1.1
  have e2 : ∀ i, i < 40 → g_n m (A i) = g_n h (A i) := fun i hi => (f4 _ (kt i hi)).1.2
  have i0 := (fa 0 (by decide)).1
  have l0 := (fa 0 (by decide)).2.1
  have r0 := (fa 0 (by decide)).2.2
  have i1 := (fa 1 (by decide)).1
  have l1 := (fa 1 (by decide)).2.1
  have r1 := (fa 1 (by decide)).2.2
  have i2 := (fa 2 (by decide)).1
  have l2 := (fa 2 (by decide)).2.1
  have r2 := (fa 2 (by decide)).2.2
  have i3 := (fa 3 (by decide)).1
  have l3 := (fa 3 (by decide)).2.1
  have r3 := (fa 3 (by decide)).2.2
  have i4 := (fa 4 (by decide)).1
  have l4 := (fa 4 (by decide)).2.1
  have r4 := (fa 4 (by decide)).2.2
  have i5 := (fa 5 (by decide)).1
  have l5 := (fa 5 (by decide)).2.1
  have r5 := (fa 5 (by decide)).2.2
  have i6 := (fa 6 (by decide)).1
  have l6 := (fa 6 (by decide)).2.1
  have r6 := (fa 6 (by decide)).2.2
  have i7 := (fa 7 (by decide)).1
  have l7 := (fa 7 (by decide)).2.1
  have r7 := (fa 7 (by decide)).2.2
  have i8 := (fa 8 (by decide)).1
  have l8 := (fa 8 (by decide)).2.1
  have r8 := (fa 8 (by decide)).2.2
  have i9 := (fa 9 (by decide)).1
  have l9 := (fa 9 (by decide)).2.1
  have r9 := (fa 9 (by decide)).2.2
  have i10 := (fa 10 (by decide)).1
  have l10 := (fa 10 (by decide)).2.1
  have r10 := (fa 10 (by decide)).2.2
  have i11 := (fa 11 (by decide)).1
  have l11 := (fa 11 (by decide)).2.1
  have r11 := (fa 11 (by decide)).2.2
  have i12 := (fa 12 (by decide)).1
  have l12 := (fa 12 (by decide)).2.1
  have r12 := (fa 12 (by decide)).2.2
  have i13 := (fa 13 (by decide)).1
  have l13 := (fa 13 (by decide)).2.1
  have r13 := (fa 13 (by decide)).2.2
  have i14 := (fa 14 (by decide)).1
  have l14 := (fa 14 (by decide)).2.1
  have r14 := (fa 14 (by decide)).2.2
  have i15 := (fa 15 (by decide)).1
  have l15 := (fa 15 (by decide)).2.1
  have r15 := (fa 15 (by decide)).2.2
  have i16 := (fa 16 (by decide)).1
  have l16 := (fa 16 (by decide)).2.1
  have r16 := (fa 16 (by decide)).2.2
  have i17 := (fa 17 (by decide)).1
  have l17 := (fa 17 (by decide)).2.1
  have r17 := (fa 17 (by decide)).2.2
  have i18 := (fa 18 (by decide)).1
  have l18 := (fa 18 (by decide)).2.1
  have r18 := (fa 18 (by decide)).2.2
  have i19 := (fa 19 (by decide)).1
  have l19 := (fa 19 (by decide)).2.1
  have r19 := (fa 19 (by decide)).2.2
  have i22 := (fa 22 (by decide)).1
  have l22 := (fa 22 (by decide)).2.1
  have r22 := (fa 22 (by decide)).2.2
  have i23 := (fa 23 (by decide)).1
  have l23 := (fa 23 (by decide)).2.1
  have r23 := (fa 23 (by decide)).2.2
  have i24 := (fa 24 (by decide)).1
  have l24 := (fa 24 (by decide)).2.1
  have r24 := (fa 24 (by decide)).2.2
  have i25 := (fa 25 (by decide)).1
  have l25 := (fa 25 (by decide)).2.1
  have r25 := (fa 25 (by decide)).2.2
  have i26 := (fa 26 (by decide)).1
  have l26 := (fa 26 (by decide)).2.1
  have r26 := (fa 26 (by decide)).2.2
  have i27 := (fa 27 (by decide)).1
  have l27 := (fa 27 (by decide)).2.1
  have r27 := (fa 27 (by decide)).2.2
  have i28 := (fa 28 (by decide)).1
  have l28 := (fa 28 (by decide)).2.1
  have r28 := (fa 28 (by decide)).2.2
  have i29 := (fa 29 (by decide)).1
  have l29 := (fa 29 (by decide)).2.1
  have r29 := (fa 29 (by decide)).2.2
  have i30 := (fa 30 (by decide)).1
  have l30 := (fa 30 (by decide)).2.1
  have r30 := (fa 30 (by decide)).2.2
  have i31 := (fa 31 (by decide)).1
  have l31 := (fa 31 (by decide)).2.1
  have r31 := (fa 31 (by decide)).2.2
  have i32 := (fa 32 (by decide)).1
  have l32 := (fa 32 (by decide)).2.1
  have r32 := (fa 32 (by decide)).2.2
  have i33 := (fa 33 (by decide)).1
  have l33 := (fa 33 (by decide)).2.1
  have r33 := (fa 33 (by decide)).2.2
  have i34 := (fa 34 (by decide)).1
  have l34 := (fa 34 (by decide)).2.1
  have r34 := (fa 34 (by decide)).2.2
  have i35 := (fa 35 (by decide)).1
  have l35 := (fa 35 (by decide)).2.1
  have r35 := (fa 35 (by decide)).2.2
  have i36 := (fa 36 (by decide)).1
  have l36 := (fa 36 (by decide)).2.1
  have r36 := (fa 36 (by decide)).2.2
  have i37 := (fa 37 (by decide)).1
  have l37 := (fa 37 (by decide)).2.1
  have r37 := (fa 37 (by decide)).2.2
  have i38 := (fa 38 (by decide)).1
  have l38 := (fa 38 (by decide)).2.1
  have r38 := (fa 38 (by decide)).2.2
  have i39 := (fa 39 (by decide)).1
  have l39 := (fa 39 (by decide)).2.1
  have r39 := (fa 39 (by decide)).2.2
  obtain ⟨⟨k1, k2, ⟨k3, k4⟩, k5, k6⟩, q2, q3, q4, q5, q6, q7, q8, q9, q10, q11, q12⟩ := R
  refine ⟨⟨k1, ?_, ⟨fun i hi => by rw [f1]; exact k3 i hi, fun i hi => Nat.lt_of_lt_of_le (k4 i hi) f2⟩, ?_, ?_⟩, ?_, ?_, ?_, ?_, ?_, ?_, ?_, ?_, ?_, ?_, ?_⟩
  · simp only [Kc1, e1, Nat.reduceLT]; exact k2
  · simp only [Kn1, e2, Nat.reduceLT]; exact k5
  · simp only [Kr1, r0, r1, r2, r5, r6, r7, r8, r9, r10, r11, r12, r13, r14, r15, r16, r17, r19, r22, r25, r26, r29]; exact k6
  · simp only [Cn, i5, i6, i7, i8, i9, i10, i11, i12, i13, i14, i28, i31, i32, i33, i34, i35, i36]; exact q2
  · simp only [Vq0, cT, mT, i5, i8, i9, i27, i31, i34]; exact q3
  · simp only [Vq1, cT, mT, i6, i10, i11, i27, i32, i35]; exact q4
  · simp only [Vq2, cT, mT, i7, i12, i13, i27, i33, i36]; exact q5
  · simp only [Vp, i0, i14, i22, i28]; exact q6
  · simp only [Vl0, i15, i37]; exact q7
  · simp only [Vl1, i16, i38]; exact q8
  · simp only [Vlr, l3, l23]; exact q9
  · simp only [Vsr, i24, l4]; exact q10
  · simp only [Vc, i18, i30]; exact q11
  · obtain ⟨w, a1, a2, a3, a4, a5⟩ := q12
    obtain ⟨⟨g1, g2⟩, -⟩ := f4 w a4
    obtain ⟨j1, -, j3⟩ := fa 20 (by decide)
    simp only [Tx, j1, j3, f1]
    exact ⟨w, a1, g1.trans a2, a3, Nat.lt_of_lt_of_le a4 f2, by rw [g2]; exact a5⟩

theorem Rl_Fx {A : Nat → Nat} {h m : MH} {n : Nat} (R : Rl A h) (f : Fx (A 20) (A 21) h m) (b : Bd (A 20) n m) : Rl A m := Rl_Fx0 R f rfl rfl (Tx_Bd b)
theorem Rl_pT {A : Nat → Nat} {h : MH} {t : Nat} (R : Rl A h) (ht : g_t h ≤ t) : Rl A (p_T h t) := Rl_Fr R (Fr_pT Fr_rfl ht)
theorem Rl_thr {A : Nat → Nat} {h : MH} {v : Int32} (R : Rl A h) : Rl A (p_i h (A 22) 9 v) := by
  have R0 := R
  obtain ⟨vk, vcn, v0, v1, v2, vp, vl0, vl1, vlr, vsr, vc, tx⟩ := R0
  have vk0 := vk
  have vcn0 := vcn
  (refine K_el vk0 ?_; intros hA kc0 kc1 kc2 kc3 kc4 kc5 kc6 kc7 kc8 kc9 kc10 kc11 kc12 kc13 kc14 kc15 kc16 kc17 kc18 kc19 kc20 kc21 kc22 kc23 kc24 kc25 kc26 kc27 kc28 kc29 kc30 kc31 kc32 kc33 kc34 kc35 kc36 kc37 kc38 kc39 kz kt kn3 kn4 kn18 kn21 kn23 kn24 kn25 kn26 kn27 kn29 kn30 kr0_0 kr0_1 kr0_2 kr0_3 kr0_4 kr0_5 kr0_7 kr0_8 kr0_9 kr0_10 kr1_0 kr2_0 kr5_0 kr5_1 kr6_0 kr6_1 kr7_0 kr7_1 kr8_0 kr9_0 kr10_0 kr11_0 kr12_0 kr13_0 kr14_0 kr15_0 kr16_0 kr17_0 kr19_0 kr19_1 kr22_0 kr22_1 kr22_2 kr22_3 kr22_4 kr22_5 kr22_7 kr22_8 kr25_0 kr25_1 kr25_2 kr26_0 kr26_1 kr26_2 kr29_0 kr29_1)
  (refine Cn_el vcn0 ?_; intros ki5_2 ki6_2 ki7_2 ki8_1 ki8_2 ki8_3 ki9_1 ki9_2 ki9_3 ki10_1 ki10_2 ki10_3 ki11_1 ki11_2 ki11_3 ki12_1 ki12_2 ki12_3 ki13_1 ki13_2 ki13_3 ki14_1 ki14_2 ki14_3 ki28_0 ki28_1 ki31_0 ki31_1 ki32_0 ki32_1 ki33_0 ki33_1 ki34_0 ki34_1 ki35_0 ki35_1 ki36_0 ki36_1)
  have hAe : ∀ i j, i < 40 → j < 40 → (A i = A j ↔ i = j) := hA
  refine ⟨vk, ?_, ?_, ?_, ?_, ?_, ?_, ?_, ?_, ?_, ?_, ?_⟩
  · (try simp only [Cn_pi_j22 hA]); exact vcn
  · (try simp only [Vq0_pi_j22 hA]); exact v0
  · (try simp only [Vq1_pi_j22 hA]); exact v1
  · (try simp only [Vq2_pi_j22 hA]); exact v2
  · (try simp only [Vp_thr hA]); exact vp
  · (try simp only [Vl0_pi_j22 hA]); exact vl0
  · (try simp only [Vl1_pi_j22 hA]); exact vl1
  · (try simp only [Vlr_pi_j22 hA]); exact vlr
  · (try simp only [Vsr_pi_j22 hA]); exact vsr
  · (try simp only [Vc_pi_j22 hA]); exact vc
  · (try simp only [Tx_pi_j22 hA]); exact tx

theorem Rl_out {A : Nat → Nat} {h : MH} {v : Option Nat} (R : Rl A h) : Rl A (p_r h (A 39) 1 v) := by
  have R0 := R
  obtain ⟨vk, vcn, v0, v1, v2, vp, vl0, vl1, vlr, vsr, vc, tx⟩ := R0
  have vk0 := vk
  have vcn0 := vcn
  (refine K_el vk0 ?_; intros hA kc0 kc1 kc2 kc3 kc4 kc5 kc6 kc7 kc8 kc9 kc10 kc11 kc12 kc13 kc14 kc15 kc16 kc17 kc18 kc19 kc20 kc21 kc22 kc23 kc24 kc25 kc26 kc27 kc28 kc29 kc30 kc31 kc32 kc33 kc34 kc35 kc36 kc37 kc38 kc39 kz kt kn3 kn4 kn18 kn21 kn23 kn24 kn25 kn26 kn27 kn29 kn30 kr0_0 kr0_1 kr0_2 kr0_3 kr0_4 kr0_5 kr0_7 kr0_8 kr0_9 kr0_10 kr1_0 kr2_0 kr5_0 kr5_1 kr6_0 kr6_1 kr7_0 kr7_1 kr8_0 kr9_0 kr10_0 kr11_0 kr12_0 kr13_0 kr14_0 kr15_0 kr16_0 kr17_0 kr19_0 kr19_1 kr22_0 kr22_1 kr22_2 kr22_3 kr22_4 kr22_5 kr22_7 kr22_8 kr25_0 kr25_1 kr25_2 kr26_0 kr26_1 kr26_2 kr29_0 kr29_1)
  (refine Cn_el vcn0 ?_; intros ki5_2 ki6_2 ki7_2 ki8_1 ki8_2 ki8_3 ki9_1 ki9_2 ki9_3 ki10_1 ki10_2 ki10_3 ki11_1 ki11_2 ki11_3 ki12_1 ki12_2 ki12_3 ki13_1 ki13_2 ki13_3 ki14_1 ki14_2 ki14_3 ki28_0 ki28_1 ki31_0 ki31_1 ki32_0 ki32_1 ki33_0 ki33_1 ki34_0 ki34_1 ki35_0 ki35_1 ki36_0 ki36_1)
  have hAe : ∀ i j, i < 40 → j < 40 → (A i = A j ↔ i = j) := hA
  refine ⟨⟨hA, vk.2.1, vk.2.2.1, vk.2.2.2.1, ?_⟩, vcn, v0, v1, v2, vp, vl0, vl1, vlr, vsr, vc, ?_⟩
  · have ne : ∀ i, i < 39 → ∀ k, g_r (p_r h (A 39) 1 v) (A i) k = g_r h (A i) k := fun i hi k => by
      rw [mr_pr, if_neg (fun z => by have := (hA i 39 (by omega) (by decide)).mp z.1; omega)]
    simp only [Kr1, ne, Nat.reduceLT]
    exact vk.2.2.2.2
  · obtain ⟨w, a1, a5⟩ := tx
    refine ⟨w, ?_, a5⟩
    rw [mr_pr, if_neg (fun z => absurd ((hA_20_39 hA).mp z.1) (by decide))]
    exact a1
/-- the constants of the texts -/
def Cs (h : MH) : Prop := ∃ ve vs, (g_c h (g_a h 11) = 11 ∧ g_i h (g_a h 11) 1 = 0 ∧ g_r h (g_a h 11) 0 = some ve ∧ g_c h ve = 103 ∧ g_n h ve = 0) ∧ (g_c h (g_a h 12) = 11 ∧ g_i h (g_a h 12) 1 = 0 ∧ g_r h (g_a h 12) 0 = some vs ∧ g_c h vs = 103 ∧ g_n h vs = 1) ∧ Dt h ∧ (g_a h 11 < g_z h ∧ g_a h 12 < g_z h ∧ g_a h 13 < g_z h ∧ g_a h 14 < g_z h ∧ ve < g_z h ∧ vs < g_z h) ∧ g_z h ≤ g_t h
theorem Cs_Lw {h m : MH} (c : Cs h) (f : Lw h m) : Cs m := by
  obtain ⟨ve, vs, ⟨a1, a2, a3, a4, a5⟩, ⟨b1, b2, b3, b4, b5⟩, ⟨⟨d1, d2⟩, d3, d4⟩, ⟨z1, z2, z3, z4, z5, z6⟩, z7⟩ := c
  obtain ⟨f1, f2, f3, f4⟩ := f
  obtain ⟨⟨x1, -⟩, x3, -, x5⟩ := f4 _ z1
  obtain ⟨⟨y1, -⟩, y3, -, y5⟩ := f4 _ z2
  obtain ⟨⟨u1, u2⟩, -⟩ := f4 _ z3
  obtain ⟨⟨w1, w2⟩, -⟩ := f4 _ z4
  obtain ⟨⟨p1, p2⟩, -⟩ := f4 _ z5
  obtain ⟨⟨q1, q2⟩, -⟩ := f4 _ z6
  refine ⟨ve, vs, ?_, ?_, ?_, ?_, by omega⟩
  · rw [f3, x1, x3, x5, p1, p2]; exact ⟨a1, a2, a3, a4, a5⟩
  · rw [f3, y1, y3, y5, q1, q2]; exact ⟨b1, b2, b3, b4, b5⟩
  · unfold Dt; rw [f3, f3, u1, u2, w1, w2]; exact ⟨⟨d1, d2⟩, d3, d4⟩
  · rw [f1, f3, f3, f3, f3]; exact ⟨z1, z2, z3, z4, z5, z6⟩
theorem Cs_Fx {sb dg : Nat} {h m : MH} (c : Cs h) (f : Fx sb dg h m) (hs : g_z h ≤ sb) (hd : g_z h ≤ dg) : Cs m := by
  obtain ⟨ve, vs, ⟨a1, a2, a3, a4, a5⟩, ⟨b1, b2, b3, b4, b5⟩, ⟨⟨d1, d2⟩, d3, d4⟩, ⟨z1, z2, z3, z4, z5, z6⟩, z7⟩ := c
  obtain ⟨f1, f2, f3, f4⟩ := f
  obtain ⟨⟨x1, -⟩, x2⟩ := f4 _ (Nat.lt_of_lt_of_le z1 z7)
  obtain ⟨x3, -, x5⟩ := x2 (by omega) (by omega) (by rw [a1]; decide)
  obtain ⟨⟨y1, -⟩, y2⟩ := f4 _ (Nat.lt_of_lt_of_le z2 z7)
  obtain ⟨y3, -, y5⟩ := y2 (by omega) (by omega) (by rw [b1]; decide)
  obtain ⟨⟨u1, u2⟩, -⟩ := f4 _ (Nat.lt_of_lt_of_le z3 z7)
  obtain ⟨⟨w1, w2⟩, -⟩ := f4 _ (Nat.lt_of_lt_of_le z4 z7)
  obtain ⟨⟨p1, p2⟩, -⟩ := f4 _ (Nat.lt_of_lt_of_le z5 z7)
  obtain ⟨⟨q1, q2⟩, -⟩ := f4 _ (Nat.lt_of_lt_of_le z6 z7)
  refine ⟨ve, vs, ?_, ?_, ?_, ?_, by omega⟩
  · rw [f3, x1, x3, x5, p1, p2]; exact ⟨a1, a2, a3, a4, a5⟩
  · rw [f3, y1, y3, y5, q1, q2]; exact ⟨b1, b2, b3, b4, b5⟩
  · unfold Dt; rw [f3, f3, u1, u2, w1, w2]; exact ⟨⟨d1, d2⟩, d3, d4⟩
  · rw [f1, f3, f3, f3, f3]; exact ⟨z1, z2, z3, z4, z5, z6⟩
theorem Cs_St {h : MH} (c : Cs h) : St (g_a h 11) 0 h ∧ St (g_a h 12) 1 h := by
  obtain ⟨ve, vs, ⟨a1, a2, a3, a4, a5⟩, ⟨b1, b2, b3, b4, b5⟩, d, ⟨z1, z2, z3, z4, z5, z6⟩, z7⟩ := c
  exact ⟨⟨a1, by omega, a2, ve, a3, a4, by omega, a5⟩, ⟨b1, by omega, b2, vs, b3, b4, by omega, b5⟩⟩
theorem Cs_Dt {h : MH} (c : Cs h) : Dt h ∧ g_a h 13 < g_t h ∧ g_a h 14 < g_t h := by
  obtain ⟨ve, vs, a, b, d, ⟨z1, z2, z3, z4, z5, z6⟩, z7⟩ := c
  exact ⟨d, by omega, by omega⟩
/-- how long a text of numbers with a sign between is -/
def tq (val : Nat → Int64) : Nat → Nat
  | 0 => 0
  | j + 1 => tq val j + sep (tq val j) + tsz (val j)
theorem tq_le (val : Nat → Int64) (b : Nat) (hb : ∀ j, tsz (val j) ≤ b) : ∀ j, tq val j ≤ (b + 1) * j
  | 0 => Nat.zero_le _
  | j + 1 => by
    have := tq_le val b hb j
    have h1 := hb j
    unfold tq
    have h2 : sep (tq val j) ≤ 1 := by unfold sep; split <;> omega
    rw [Nat.mul_succ]
    omega
theorem tq_z (val : Nat → Int64) (j : Nat) : (tq val j = 0) = (j = 0) := by
  apply propext
  cases j with
  | zero => exact ⟨fun _ => rfl, fun _ => rfl⟩
  | succ j =>
    unfold tq
    have := tsz_pos (val j)
    constructor
    · intro z; omega
    · intro z; cases z

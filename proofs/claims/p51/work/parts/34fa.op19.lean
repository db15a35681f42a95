section
set_option maxRecDepth 16384
/-! TEXTS and the relation -/
theorem Kc_ne {A : Nat → Nat} {h : MH} (k : Kc1 A h) : ∀ i, i < 40 → ¬ g_c h (A i) = 103 := by
  obtain ⟨kc0, kc1, kc2, kc3, kc4, kc5, kc6, kc7, kc8, kc9, kc10, kc11, kc12, kc13, kc14, kc15, kc16, kc17, kc18, kc19, kc20, kc21, kc22, kc23, kc24, kc25, kc26, kc27, kc28, kc29, kc30, kc31, kc32, kc33, kc34, kc35, kc36, kc37, kc38, kc39⟩ := k
  intro i hi z
  match i, hi with
  | 0, _ => rw [kc0] at z; cases z
  | 1, _ => rw [kc1] at z; cases z
  | 2, _ => rw [kc2] at z; cases z
  | 3, _ => rw [kc3] at z; cases z
  | 4, _ => rw [kc4] at z; cases z
  | 5, _ => rw [kc5] at z; cases z
  | 6, _ => rw [kc6] at z; cases z
  | 7, _ => rw [kc7] at z; cases z
  | 8, _ => rw [kc8] at z; cases z
  | 9, _ => rw [kc9] at z; cases z
  | 10, _ => rw [kc10] at z; cases z
  | 11, _ => rw [kc11] at z; cases z
  | 12, _ => rw [kc12] at z; cases z
  | 13, _ => rw [kc13] at z; cases z
  | 14, _ => rw [kc14] at z; cases z
  | 15, _ => rw [kc15] at z; cases z
  | 16, _ => rw [kc16] at z; cases z
  | 17, _ => rw [kc17] at z; cases z
  | 18, _ => rw [kc18] at z; cases z
  | 19, _ => rw [kc19] at z; cases z
  | 20, _ => rw [kc20] at z; cases z
  | 21, _ => rw [kc21] at z; cases z
  | 22, _ => rw [kc22] at z; cases z
  | 23, _ => rw [kc23] at z; cases z
  | 24, _ => rw [kc24] at z; cases z
  | 25, _ => rw [kc25] at z; cases z
  | 26, _ => rw [kc26] at z; cases z
  | 27, _ => rw [kc27] at z; cases z
  | 28, _ => rw [kc28] at z; cases z
  | 29, _ => rw [kc29] at z; cases z
  | 30, _ => rw [kc30] at z; cases z
  | 31, _ => rw [kc31] at z; cases z
  | 32, _ => rw [kc32] at z; cases z
  | 33, _ => rw [kc33] at z; cases z
  | 34, _ => rw [kc34] at z; cases z
  | 35, _ => rw [kc35] at z; cases z
  | 36, _ => rw [kc36] at z; cases z
  | 37, _ => rw [kc37] at z; cases z
  | 38, _ => rw [kc38] at z; cases z
  | 39, _ => rw [kc39] at z; cases z
  | n + 40, hi => exact absurd hi (by omega)
theorem Fx_at {A : Nat → Nat} {h m : MH} {sb dg : Nat} (k : K A h) (f : Fx sb dg h m) {i : Nat} (hi : i < 40) (n1 : ¬ A i = sb) (n2 : ¬ A i = dg) : (∀ j, g_i m (A i) j = g_i h (A i) j) ∧ (∀ j, g_l m (A i) j = g_l h (A i) j) ∧ ∀ j, g_r m (A i) j = g_r h (A i) j :=
  (f.2.2.2 _ (k.2.2.1.2 i hi)).2 n1 n2 (Kc_ne k.2.1 i hi)
theorem Bd_of {A : Nat → Nat} {h : MH} (R : Rl A h) : ∃ n, Bd (A 20) n h := by
  have R0 := R
  obtain ⟨vk, vcn, v0, v1, v2, vp, vl0, vl1, vlr, vsr, vc, tx⟩ := R0
  have vk0 := vk
  have vcn0 := vcn
  (refine K_el vk0 ?_; intros hA kc0 kc1 kc2 kc3 kc4 kc5 kc6 kc7 kc8 kc9 kc10 kc11 kc12 kc13 kc14 kc15 kc16 kc17 kc18 kc19 kc20 kc21 kc22 kc23 kc24 kc25 kc26 kc27 kc28 kc29 kc30 kc31 kc32 kc33 kc34 kc35 kc36 kc37 kc38 kc39 kz kt kn3 kn4 kn18 kn21 kn23 kn24 kn25 kn26 kn27 kn29 kn30 kr0_0 kr0_1 kr0_2 kr0_3 kr0_4 kr0_5 kr0_7 kr0_8 kr0_9 kr0_10 kr1_0 kr2_0 kr5_0 kr5_1 kr6_0 kr6_1 kr7_0 kr7_1 kr8_0 kr9_0 kr10_0 kr11_0 kr12_0 kr13_0 kr14_0 kr15_0 kr16_0 kr17_0 kr19_0 kr19_1 kr22_0 kr22_1 kr22_2 kr22_3 kr22_4 kr22_5 kr22_7 kr22_8 kr25_0 kr25_1 kr25_2 kr26_0 kr26_1 kr26_2 kr29_0 kr29_1)
  (refine Cn_el vcn0 ?_; intros ki5_2 ki6_2 ki7_2 ki8_1 ki8_2 ki8_3 ki9_1 ki9_2 ki9_3 ki10_1 ki10_2 ki10_3 ki11_1 ki11_2 ki11_3 ki12_1 ki12_2 ki12_3 ki13_1 ki13_2 ki13_3 ki14_1 ki14_2 ki14_3 ki28_0 ki28_1 ki31_0 ki31_1 ki32_0 ki32_1 ki33_0 ki33_1 ki34_0 ki34_1 ki35_0 ki35_1 ki36_0 ki36_1)
  have hAe : ∀ i j, i < 40 → j < 40 → (A i = A j ↔ i = j) := hA
  obtain ⟨v, a1, a2, a3, a4, a5, a6, a7, a8, a9⟩ := tx
  refine ⟨(g_i h (A 20) 3).toNatClampNeg, kc20, kz 20 (by decide), kt 20 (by decide), a7, ?_, v, a1, a2, a3, a4, a5, a9⟩
  rw [Int32.lt_iff_toInt_lt] at a8
  have e1 : (0 : Int32).toInt = 0 := rfl
  exact toNat_of (by omega)
theorem Tx_Bd {A : Nat → Nat} {m : MH} {n : Nat} (b : Bd (A 20) n m) : Tx A m := by
  obtain ⟨c1, c2, c3, c4, c5, v, v1, v2, v3, v4, v5, v6⟩ := b
  have hc := capOk_le v5
  refine ⟨v, v1, v2, v3, v4, v5, ?_, c4, ?_, ?_⟩
  · unfold capOk at v5; omega
  · rw [c5, n_z (by omega)]; exact fun z => z
  · rw [c5, n_cl (by omega)]; exact v6
theorem Wo_of {A : Nat → Nat} {h : MH} (R : Rl A h) : Wo (A 19) (A 20) (A 21) h := by
  have R0 := R
  obtain ⟨vk, vcn, v0, v1, v2, vp, vl0, vl1, vlr, vsr, vc, tx⟩ := R0
  have vk0 := vk
  have vcn0 := vcn
  (refine K_el vk0 ?_; intros hA kc0 kc1 kc2 kc3 kc4 kc5 kc6 kc7 kc8 kc9 kc10 kc11 kc12 kc13 kc14 kc15 kc16 kc17 kc18 kc19 kc20 kc21 kc22 kc23 kc24 kc25 kc26 kc27 kc28 kc29 kc30 kc31 kc32 kc33 kc34 kc35 kc36 kc37 kc38 kc39 kz kt kn3 kn4 kn18 kn21 kn23 kn24 kn25 kn26 kn27 kn29 kn30 kr0_0 kr0_1 kr0_2 kr0_3 kr0_4 kr0_5 kr0_7 kr0_8 kr0_9 kr0_10 kr1_0 kr2_0 kr5_0 kr5_1 kr6_0 kr6_1 kr7_0 kr7_1 kr8_0 kr9_0 kr10_0 kr11_0 kr12_0 kr13_0 kr14_0 kr15_0 kr16_0 kr17_0 kr19_0 kr19_1 kr22_0 kr22_1 kr22_2 kr22_3 kr22_4 kr22_5 kr22_7 kr22_8 kr25_0 kr25_1 kr25_2 kr26_0 kr26_1 kr26_2 kr29_0 kr29_1)
  (refine Cn_el vcn0 ?_; intros ki5_2 ki6_2 ki7_2 ki8_1 ki8_2 ki8_3 ki9_1 ki9_2 ki9_3 ki10_1 ki10_2 ki10_3 ki11_1 ki11_2 ki11_3 ki12_1 ki12_2 ki12_3 ki13_1 ki13_2 ki13_3 ki14_1 ki14_2 ki14_3 ki28_0 ki28_1 ki31_0 ki31_1 ki32_0 ki32_1 ki33_0 ki33_1 ki34_0 ki34_1 ki35_0 ki35_1 ki36_0 ki36_1)
  have hAe : ∀ i j, i < 40 → j < 40 → (A i = A j ↔ i = j) := hA
  exact ⟨kc19, kt 19 (by decide), kr19_0, kr19_1, kc21, kz 21 (by decide), kt 21 (by decide), kn21, kc20⟩
theorem Rl_Fx0 {A : Nat → Nat} {h m : MH} {sb dg : Nat} (R : Rl A h) (f : Fx sb dg h m) (hs : sb = A 20) (hd : dg = A 21) (b : Tx A m) : Rl A m := by
  have R0 := R
  obtain ⟨vk, vcn, v0, v1, v2, vp, vl0, vl1, vlr, vsr, vc, tx⟩ := R0
  have vk0 := vk
  have vcn0 := vcn
  (refine K_el vk0 ?_; intros hA kc0 kc1 kc2 kc3 kc4 kc5 kc6 kc7 kc8 kc9 kc10 kc11 kc12 kc13 kc14 kc15 kc16 kc17 kc18 kc19 kc20 kc21 kc22 kc23 kc24 kc25 kc26 kc27 kc28 kc29 kc30 kc31 kc32 kc33 kc34 kc35 kc36 kc37 kc38 kc39 kz kt kn3 kn4 kn18 kn21 kn23 kn24 kn25 kn26 kn27 kn29 kn30 kr0_0 kr0_1 kr0_2 kr0_3 kr0_4 kr0_5 kr0_7 kr0_8 kr0_9 kr0_10 kr1_0 kr2_0 kr5_0 kr5_1 kr6_0 kr6_1 kr7_0 kr7_1 kr8_0 kr9_0 kr10_0 kr11_0 kr12_0 kr13_0 kr14_0 kr15_0 kr16_0 kr17_0 kr19_0 kr19_1 kr22_0 kr22_1 kr22_2 kr22_3 kr22_4 kr22_5 kr22_7 kr22_8 kr25_0 kr25_1 kr25_2 kr26_0 kr26_1 kr26_2 kr29_0 kr29_1)
  (refine Cn_el vcn0 ?_; intros ki5_2 ki6_2 ki7_2 ki8_1 ki8_2 ki8_3 ki9_1 ki9_2 ki9_3 ki10_1 ki10_2 ki10_3 ki11_1 ki11_2 ki11_3 ki12_1 ki12_2 ki12_3 ki13_1 ki13_2 ki13_3 ki14_1 ki14_2 ki14_3 ki28_0 ki28_1 ki31_0 ki31_1 ki32_0 ki32_1 ki33_0 ki33_1 ki34_0 ki34_1 ki35_0 ki35_1 ki36_0 ki36_1)
  have hAe : ∀ i j, i < 40 → j < 40 → (A i = A j ↔ i = j) := hA
  have nn : ∀ i, i < 40 → i ≠ 20 → i ≠ 21 → ¬ A i = sb ∧ ¬ A i = dg := fun i hi n1 n2 => ⟨fun z => n1 ((hA i 20 hi (by decide)).mp (z.trans hs)), fun z => n2 ((hA i 21 hi (by decide)).mp (z.trans hd))⟩
  have fa : ∀ i, (hi : i < 40) → i ≠ 20 → i ≠ 21 → (∀ j, g_i m (A i) j = g_i h (A i) j) ∧ (∀ j, g_l m (A i) j = g_l h (A i) j) ∧ ∀ j, g_r m (A i) j = g_r h (A i) j := fun i hi n1 n2 => Fx_at vk f hi (nn i hi n1 n2).1 (nn i hi n1 n2).2
  obtain ⟨f1, f2, f3, f4⟩ := f
  have e1 : ∀ i, i < 40 → g_c m (A i) = g_c h (A i) := fun i hi => (f4 _ (kt i hi)).1.1
  have e2 : ∀ i, i < 40 → g_n m (A i) = g_n h (A i) := fun i hi => (f4 _ (kt i hi)).1.2
  have i0 := (fa 0 (by decide) (by decide) (by decide)).1
  have l0 := (fa 0 (by decide) (by decide) (by decide)).2.1
  have r0 := (fa 0 (by decide) (by decide) (by decide)).2.2
  have i1 := (fa 1 (by decide) (by decide) (by decide)).1
  have l1 := (fa 1 (by decide) (by decide) (by decide)).2.1
  have r1 := (fa 1 (by decide) (by decide) (by decide)).2.2
  have i2 := (fa 2 (by decide) (by decide) (by decide)).1
  have l2 := (fa 2 (by decide) (by decide) (by decide)).2.1
  have r2 := (fa 2 (by decide) (by decide) (by decide)).2.2
  have i3 := (fa 3 (by decide) (by decide) (by decide)).1
  have l3 := (fa 3 (by decide) (by decide) (by decide)).2.1
  have r3 := (fa 3 (by decide) (by decide) (by decide)).2.2
  have i4 := (fa 4 (by decide) (by decide) (by decide)).1
  have l4 := (fa 4 (by decide) (by decide) (by decide)).2.1
  have r4 := (fa 4 (by decide) (by decide) (by decide)).2.2
  have i5 := (fa 5 (by decide) (by decide) (by decide)).1
  have l5 := (fa 5 (by decide) (by decide) (by decide)).2.1
  have r5 := (fa 5 (by decide) (by decide) (by decide)).2.2
  have i6 := (fa 6 (by decide) (by decide) (by decide)).1
  have l6 := (fa 6 (by decide) (by decide) (by decide)).2.1
  have r6 := (fa 6 (by decide) (by decide) (by decide)).2.2
  have i7 := (fa 7 (by decide) (by decide) (by decide)).1
  have l7 := (fa 7 (by decide) (by decide) (by decide)).2.1
  have r7 := (fa 7 (by decide) (by decide) (by decide)).2.2
  have i8 := (fa 8 (by decide) (by decide) (by decide)).1
  have l8 := (fa 8 (by decide) (by decide) (by decide)).2.1
  have r8 := (fa 8 (by decide) (by decide) (by decide)).2.2
  have i9 := (fa 9 (by decide) (by decide) (by decide)).1
  have l9 := (fa 9 (by decide) (by decide) (by decide)).2.1
  have r9 := (fa 9 (by decide) (by decide) (by decide)).2.2
  have i10 := (fa 10 (by decide) (by decide) (by decide)).1
  have l10 := (fa 10 (by decide) (by decide) (by decide)).2.1
  have r10 := (fa 10 (by decide) (by decide) (by decide)).2.2
  have i11 := (fa 11 (by decide) (by decide) (by decide)).1
  have l11 := (fa 11 (by decide) (by decide) (by decide)).2.1
  have r11 := (fa 11 (by decide) (by decide) (by decide)).2.2
  have i12 := (fa 12 (by decide) (by decide) (by decide)).1
  have l12 := (fa 12 (by decide) (by decide) (by decide)).2.1
  have r12 := (fa 12 (by decide) (by decide) (by decide)).2.2
  have i13 := (fa 13 (by decide) (by decide) (by decide)).1
  have l13 := (fa 13 (by decide) (by decide) (by decide)).2.1
  have r13 := (fa 13 (by decide) (by decide) (by decide)).2.2
  have i14 := (fa 14 (by decide) (by decide) (by decide)).1
  have l14 := (fa 14 (by decide) (by decide) (by decide)).2.1
  have r14 := (fa 14 (by decide) (by decide) (by decide)).2.2
  have i15 := (fa 15 (by decide) (by decide) (by decide)).1
  have l15 := (fa 15 (by decide) (by decide) (by decide)).2.1
  have r15 := (fa 15 (by decide) (by decide) (by decide)).2.2
  have i16 := (fa 16 (by decide) (by decide) (by decide)).1
  have l16 := (fa 16 (by decide) (by decide) (by decide)).2.1
  have r16 := (fa 16 (by decide) (by decide) (by decide)).2.2
  have i17 := (fa 17 (by decide) (by decide) (by decide)).1
  have l17 := (fa 17 (by decide) (by decide) (by decide)).2.1
  have r17 := (fa 17 (by decide) (by decide) (by decide)).2.2
  have i18 := (fa 18 (by decide) (by decide) (by decide)).1
  have l18 := (fa 18 (by decide) (by decide) (by decide)).2.1
  have r18 := (fa 18 (by decide) (by decide) (by decide)).2.2
  have i19 := (fa 19 (by decide) (by decide) (by decide)).1
  have l19 := (fa 19 (by decide) (by decide) (by decide)).2.1
  have r19 := (fa 19 (by decide) (by decide) (by decide)).2.2
  have i22 := (fa 22 (by decide) (by decide) (by decide)).1
  have l22 := (fa 22 (by decide) (by decide) (by decide)).2.1
  have r22 := (fa 22 (by decide) (by decide) (by decide)).2.2
  have i23 := (fa 23 (by decide) (by decide) (by decide)).1
  have l23 := (fa 23 (by decide) (by decide) (by decide)).2.1
  have r23 := (fa 23 (by decide) (by decide) (by decide)).2.2
  have i24 := (fa 24 (by decide) (by decide) (by decide)).1
  have l24 := (fa 24 (by decide) (by decide) (by decide)).2.1
  have r24 := (fa 24 (by decide) (by decide) (by decide)).2.2
  have i25 := (fa 25 (by decide) (by decide) (by decide)).1
  have l25 := (fa 25 (by decide) (by decide) (by decide)).2.1
  have r25 := (fa 25 (by decide) (by decide) (by decide)).2.2
  have i26 := (fa 26 (by decide) (by decide) (by decide)).1
  have l26 := (fa 26 (by decide) (by decide) (by decide)).2.1
  have r26 := (fa 26 (by decide) (by decide) (by decide)).2.2
  have i27 := (fa 27 (by decide) (by decide) (by decide)).1
  have l27 := (fa 27 (by decide) (by decide) (by decide)).2.1
  have r27 := (fa 27 (by decide) (by decide) (by decide)).2.2
  have i28 := (fa 28 (by decide) (by decide) (by decide)).1
  have l28 := (fa 28 (by decide) (by decide) (by decide)).2.1
  have r28 := (fa 28 (by decide) (by decide) (by decide)).2.2
  have i29 := (fa 29 (by decide) (by decide) (by decide)).1
  have l29 := (fa 29 (by decide) (by decide) (by decide)).2.1
  have r29 := (fa 29 (by decide) (by decide) (by decide)).2.2
  have i30 := (fa 30 (by decide) (by decide) (by decide)).1
  have l30 := (fa 30 (by decide) (by decide) (by decide)).2.1
  have r30 := (fa 30 (by decide) (by decide) (by decide)).2.2
  have i31 := (fa 31 (by decide) (by decide) (by decide)).1
  have l31 := (fa 31 (by decide) (by decide) (by decide)).2.1
  have r31 := (fa 31 (by decide) (by decide) (by decide)).2.2
  have i32 := (fa 32 (by decide) (by decide) (by decide)).1
  have l32 := (fa 32 (by decide) (by decide) (by decide)).2.1
  have r32 := (fa 32 (by decide) (by decide) (by decide)).2.2
  have i33 := (fa 33 (by decide) (by decide) (by decide)).1
  have l33 := (fa 33 (by decide) (by decide) (by decide)).2.1
  have r33 := (fa 33 (by decide) (by decide) (by decide)).2.2
  have i34 := (fa 34 (by decide) (by decide) (by decide)).1
  have l34 := (fa 34 (by decide) (by decide) (by decide)).2.1
  have r34 := (fa 34 (by decide) (by decide) (by decide)).2.2
  have i35 := (fa 35 (by decide) (by decide) (by decide)).1
  have l35 := (fa 35 (by decide) (by decide) (by decide)).2.1
  have r35 := (fa 35 (by decide) (by decide) (by decide)).2.2
  have i36 := (fa 36 (by decide) (by decide) (by decide)).1
  have l36 := (fa 36 (by decide) (by decide) (by decide)).2.1
  have r36 := (fa 36 (by decide) (by decide) (by decide)).2.2
  have i37 := (fa 37 (by decide) (by decide) (by decide)).1
  have l37 := (fa 37 (by decide) (by decide) (by decide)).2.1
  have r37 := (fa 37 (by decide) (by decide) (by decide)).2.2
  have i38 := (fa 38 (by decide) (by decide) (by decide)).1
  have l38 := (fa 38 (by decide) (by decide) (by decide)).2.1
  have r38 := (fa 38 (by decide) (by decide) (by decide)).2.2
  have i39 := (fa 39 (by decide) (by decide) (by decide)).1
  have l39 := (fa 39 (by decide) (by decide) (by decide)).2.1
  have r39 := (fa 39 (by decide) (by decide) (by decide)).2.2
  obtain ⟨⟨k1, k2, ⟨k3, k4⟩, k5, k6⟩, q2, q3, q4, q5, q6, q7, q8, q9, q10, q11, q12⟩ := R
  refine ⟨⟨k1, ?_, ⟨fun i hi => by rw [f1]; exact k3 i hi, fun i hi => Nat.lt_of_lt_of_le (k4 i hi) f2⟩, ?_, ?_⟩, ?_, ?_, ?_, ?_, ?_, ?_, ?_, ?_, ?_, ?_, ?_⟩
  · simp only [Kc1, e1, Nat.reduceLT]; exact k2
  · simp only [Kn1, e2, Nat.reduceLT]; exact k5
  · simp only [Kr1, r0, r1, r2, r5, r6, r7, r8, r9, r10, r11, r12, r13, r14, r15, r16, r17, r19, r22, r25, r26, r29]; exact k6
  · simp only [Cn, i5, i6, i7, i8, i9, i10, i11, i12, i13, i14, i28, i31, i32, i33, i34, i35, i36]; exact q2
  · simp only [Vq0, cT, mT, i5, i8, i9, i27, i31, i34]; exact q3
  · simp only [Vq1, cT, mT, i6, i10, i11, i27, i32, i35]; exact q4
  · simp only [Vq2, cT, mT, i7, i12, i13, i27, i33, i36]; exact q5
  · simp only [Vp, i0, i14, i22, i28]; exact q6
  · simp only [Vl0, i15, i37]; exact q7
  · simp only [Vl1, i16, i38]; exact q8
  · simp only [Vlr, l3, l23]; exact q9
  · simp only [Vsr, i24, l4]; exact q10
  · simp only [Vc, i18, i30]; exact q11
  · exact b

theorem Rl_Fn {A : Nat → Nat} {h m : MH} {sb dg : Nat} (R : Rl A h) (f : Fx sb dg h m) (hs : g_t h ≤ sb) (hd : g_t h ≤ dg) : Rl A m := by
  have R0 := R
  obtain ⟨vk, vcn, v0, v1, v2, vp, vl0, vl1, vlr, vsr, vc, tx⟩ := R0
  have vk0 := vk
  have vcn0 := vcn
  (refine K_el vk0 ?_; intros hA kc0 kc1 kc2 kc3 kc4 kc5 kc6 kc7 kc8 kc9 kc10 kc11 kc12 kc13 kc14 kc15 kc16 kc17 kc18 kc19 kc20 kc21 kc22 kc23 kc24 kc25 kc26 kc27 kc28 kc29 kc30 kc31 kc32 kc33 kc34 kc35 kc36 kc37 kc38 kc39 kz kt kn3 kn4 kn18 kn21 kn23 kn24 kn25 kn26 kn27 kn29 kn30 kr0_0 kr0_1 kr0_2 kr0_3 kr0_4 kr0_5 kr0_7 kr0_8 kr0_9 kr0_10 kr1_0 kr2_0 kr5_0 kr5_1 kr6_0 kr6_1 kr7_0 kr7_1 kr8_0 kr9_0 kr10_0 kr11_0 kr12_0 kr13_0 kr14_0 kr15_0 kr16_0 kr17_0 kr19_0 kr19_1 kr22_0 kr22_1 kr22_2 kr22_3 kr22_4 kr22_5 kr22_7 kr22_8 kr25_0 kr25_1 kr25_2 kr26_0 kr26_1 kr26_2 kr29_0 kr29_1)
  (refine Cn_el vcn0 ?_; intros ki5_2 ki6_2 ki7_2 ki8_1 ki8_2 ki8_3 ki9_1 ki9_2 ki9_3 ki10_1 ki10_2 ki10_3 ki11_1 ki11_2 ki11_3 ki12_1 ki12_2 ki12_3 ki13_1 ki13_2 ki13_3 ki14_1 ki14_2 ki14_3 ki28_0 ki28_1 ki31_0 ki31_1 ki32_0 ki32_1 ki33_0 ki33_1 ki34_0 ki34_1 ki35_0 ki35_1 ki36_0 ki36_1)
  have hAe : ∀ i j, i < 40 → j < 40 → (A i = A j ↔ i = j) := hA
  have nn : ∀ i, i < 40 →  ¬ A i = sb ∧ ¬ A i = dg := fun i hi => ⟨fun z => by have := kt i hi; omega, fun z => by have := kt i hi; omega⟩
  have fa : ∀ i, (hi : i < 40) →  (∀ j, g_i m (A i) j = g_i h (A i) j) ∧ (∀ j, g_l m (A i) j = g_l h (A i) j) ∧ ∀ j, g_r m (A i) j = g_r h (A i) j := fun i hi => Fx_at vk f hi (nn i hi).1 (nn i hi).2
  obtain ⟨f1, f2, f3, f4⟩ := f
  have e1 : ∀ i, i < 40 → g_c m (A i) = g_c h (A i) := fun i hi => (f4 _ (kt i hi)).1.1
  have e2 : ∀ i, i < 40 → g_n m (A i) = g_n h (A i) := fun i hi => (f4 _ (kt i hi)).1.2
  have i0 := (fa 0 (by decide)).1
  have l0 := (fa 0 (by decide)).2.1
  have r0 := (fa 0 (by decide)).2.2
  have i1 := (fa 1 (by decide)).1
  have l1 := (fa 1 (by decide)).2.1
  have r1 := (fa 1 (by decide)).2.2
  have i2 := (fa 2 (by decide)).1
  have l2 := (fa 2 (by decide)).2.1
  have r2 := (fa 2 (by decide)).2.2
  have i3 := (fa 3 (by decide)).1
  have l3 := (fa 3 (by decide)).2.1
  have r3 := (fa 3 (by decide)).2.2
  have i4 := (fa 4 (by decide)).1
  have l4 := (fa 4 (by decide)).2.1
  have r4 := (fa 4 (by decide)).2.2
  have i5 := (fa 5 (by decide)).1
  have l5 := (fa 5 (by decide)).2.1
  have r5 := (fa 5 (by decide)).2.2
  have i6 := (fa 6 (by decide)).1
  have l6 := (fa 6 (by decide)).2.1
  have r6 := (fa 6 (by decide)).2.2
  have i7 := (fa 7 (by decide)).1
  have l7 := (fa 7 (by decide)).2.1
  have r7 := (fa 7 (by decide)).2.2
  have i8 := (fa 8 (by decide)).1
  have l8 := (fa 8 (by decide)).2.1
  have r8 := (fa 8 (by decide)).2.2
  have i9 := (fa 9 (by decide)).1
  have l9 := (fa 9 (by decide)).2.1
  have r9 := (fa 9 (by decide)).2.2
  have i10 := (fa 10 (by decide)).1
  have l10 := (fa 10 (by decide)).2.1
  have r10 := (fa 10 (by decide)).2.2
  have i11 := (fa 11 (by decide)).1
  have l11 := (fa 11 (by decide)).2.1
  have r11 := (fa 11 (by decide)).2.2
  have i12 := (fa 12 (by decide)).1
  have l12 := (fa 12 (by decide)).2.1
  have r12 := (fa 12 (by decide)).2.2
  have i13 := (fa 13 (by decide)).1
  have l13 := (fa 13 (by decide)).2.1
  have r13 := (fa 13 (by decide)).2.2
  have i14 := (fa 14 (by decide)).1
  have l14 := (fa 14 (by decide)).2.1
  have r14 := (fa 14 (by decide)).2.2
  have i15 := (fa 15 (by decide)).1
  have l15 := (fa 15 (by decide)).2.1
  have r15 := (fa 15 (by decide)).2.2
  have i16 := (fa 16 (by decide)).1
  have l16 := (fa 16 (by decide)).2.1
  have r16 := (fa 16 (by decide)).2.2
  have i17 := (fa 17 (by decide)).1
  have l17 := (fa 17 (by decide)).2.1
  have r17 := (fa 17 (by decide)).2.2
  have i18 := (fa 18 (by decide)).1
  have l18 := (fa 18 (by decide)).2.1
  have r18 := (fa 18 (by decide)).2.2
  have i19 := (fa 19 (by decide)).1
  have l19 := (fa 19 (by decide)).2.1
  have r19 := (fa 19 (by decide)).2.2
  have i22 := (fa 22 (by decide)).1
  have l22 := (fa 22 (by decide)).2.1
  have r22 := (fa 22 (by decide)).2.2
  have i23 := (fa 23 (by decide)).1
  have l23 := (fa 23 (by decide)).2.1
  have r23 := (fa 23 (by decide)).2.2
  have i24 := (fa 24 (by decide)).1
  have l24 := (fa 24 (by decide)).2.1
  have r24 := (fa 24 (by decide)).2.2
  have i25 := (fa 25 (by decide)).1
  have l25 := (fa 25 (by decide)).2.1
  have r25 := (fa 25 (by decide)).2.2
  have i26 := (fa 26 (by decide)).1
  have l26 := (fa 26 (by decide)).2.1
  have r26 := (fa 26 (by decide)).2.2
  have i27 := (fa 27 (by decide)).1
  have l27 := (fa 27 (by decide)).2.1
  have r27 := (fa 27 (by decide)).2.2
  have i28 := (fa 28 (by decide)).1
  have l28 := (fa 28 (by decide)).2.1
  have r28 := (fa 28 (by decide)).2.2
  have i29 := (fa 29 (by decide)).1
  have l29 := (fa 29 (by decide)).2.1
  have r29 := (fa 29 (by decide)).2.2
  have i30 := (fa 30 (by decide)).1
  have l30 := (fa 30 (by decide)).2.1
  have r30 := (fa 30 (by decide)).2.2
  have i31 := (fa 31 (by decide)).1
  have l31 := (fa 31 (by decide)).2.1
  have r31 := (fa 31 (by decide)).2.2
  have i32 := (fa 32 (by decide)).1
  have l32 := (fa 32 (by decide)).2.1
  have r32 := (fa 32 (by decide)).2.2
  have i33 := (fa 33 (by decide)).1
  have l33 := (fa 33 (by decide)).2.1
  have r33 := (fa 33 (by decide)).2.2
  have i34 := (fa 34 (by decide)).1
  have l34 := (fa 34 (by decide)).2.1
  have r34 := (fa 34 (by decide)).2.2
  have i35 := (fa 35 (by decide)).1
  have l35 := (fa 35 (by decide)).2.1
  have r35 := (fa 35 (by decide)).2.2
  have i36 := (fa 36 (by decide)).1
  have l36 := (fa 36 (by decide)).2.1
  have r36 := (fa 36 (by decide)).2.2
  have i37 := (fa 37 (by decide)).1
  have l37 := (fa 37 (by decide)).2.1
  have r37 := (fa 37 (by decide)).2.2
  have i38 := (fa 38 (by decide)).1
  have l38 := (fa 38 (by decide)).2.1
  have r38 := (fa 38 (by decide)).2.2
  have i39 := (fa 39 (by decide)).1
  have l39 := (fa 39 (by decide)).2.1
  have r39 := (fa 39 (by decide)).2.2
  obtain ⟨⟨k1, k2, ⟨k3, k4⟩, k5, k6⟩, q2, q3, q4, q5, q6, q7, q8, q9, q10, q11, q12⟩ := R
  refine ⟨⟨k1, ?_, ⟨fun i hi => by rw [f1]; exact k3 i hi, fun i hi => Nat.lt_of_lt_of_le (k4 i hi) f2⟩, ?_, ?_⟩, ?_, ?_, ?_, ?_, ?_, ?_, ?_, ?_, ?_, ?_, ?_⟩
  · simp only [Kc1, e1, Nat.reduceLT]; exact k2
  · simp only [Kn1, e2, Nat.reduceLT]; exact k5
  · simp only [Kr1, r0, r1, r2, r5, r6, r7, r8, r9, r10, r11, r12, r13, r14, r15, r16, r17, r19, r22, r25, r26, r29]; exact k6
  · simp only [Cn, i5, i6, i7, i8, i9, i10, i11, i12, i13, i14, i28, i31, i32, i33, i34, i35, i36]; exact q2
  · simp only [Vq0, cT, mT, i5, i8, i9, i27, i31, i34]; exact q3
  · simp only [Vq1, cT, mT, i6, i10, i11, i27, i32, i35]; exact q4
  · simp only [Vq2, cT, mT, i7, i12, i13, i27, i33, i36]; exact q5
  · simp only [Vp, i0, i14, i22, i28]; exact q6
  · simp only [Vl0, i15, i37]; exact q7
  · simp only [Vl1, i16, i38]; exact q8
  · simp only [Vlr, l3, l23]; exact q9
  · simp only [Vsr, i24, l4]; exact q10
  · simp only [Vc, i18, i30]; exact q11
  · obtain ⟨w, a1, a2, a3, a4, a5⟩ := q12
    obtain ⟨⟨g1, g2⟩, -⟩ := f4 w a4
    obtain ⟨j1, -, j3⟩ := fa 20 (by decide)
    simp only [Tx, j1, j3, f1]
    exact ⟨w, a1, g1.trans a2, a3, Nat.lt_of_lt_of_le a4 f2, by rw [g2]; exact a5⟩

theorem Rl_Fx {A : Nat → Nat} {h m : MH} {n : Nat} (R : Rl A h) (f : Fx (A 20) (A 21) h m) (b : Bd (A 20) n m) : Rl A m := Rl_Fx0 R f rfl rfl (Tx_Bd b)
theorem Rl_pT {A : Nat → Nat} {h : MH} {t : Nat} (R : Rl A h) (ht : g_t h ≤ t) : Rl A (p_T h t) := Rl_Fr R (Fr_pT Fr_rfl ht)
theorem Rl_thr {A : Nat → Nat} {h : MH} {v : Int32} (R : Rl A h) : Rl A (p_i h (A 22) 9 v) := by
  have R0 := R
  obtain ⟨vk, vcn, v0, v1, v2, vp, vl0, vl1, vlr, vsr, vc, tx⟩ := R0
  have vk0 := vk
  have vcn0 := vcn
  (refine K_el vk0 ?_; intros hA kc0 kc1 kc2 kc3 kc4 kc5 kc6 kc7 kc8 kc9 kc10 kc11 kc12 kc13 kc14 kc15 kc16 kc17 kc18 kc19 kc20 kc21 kc22 kc23 kc24 kc25 kc26 kc27 kc28 kc29 kc30 kc31 kc32 kc33 kc34 kc35 kc36 kc37 kc38 kc39 kz kt kn3 kn4 kn18 kn21 kn23 kn24 kn25 kn26 kn27 kn29 kn30 kr0_0 kr0_1 kr0_2 kr0_3 kr0_4 kr0_5 kr0_7 kr0_8 kr0_9 kr0_10 kr1_0 kr2_0 kr5_0 kr5_1 kr6_0 kr6_1 kr7_0 kr7_1 kr8_0 kr9_0 kr10_0 kr11_0 kr12_0 kr13_0 kr14_0 kr15_0 kr16_0 kr17_0 kr19_0 kr19_1 kr22_0 kr22_1 kr22_2 kr22_3 kr22_4 kr22_5 kr22_7 kr22_8 kr25_0 kr25_1 kr25_2 kr26_0 kr26_1 kr26_2 kr29_0 kr29_1)
  (refine Cn_el vcn0 ?_; intros ki5_2 ki6_2 ki7_2 ki8_1 ki8_2 ki8_3 ki9_1 ki9_2 ki9_3 ki10_1 ki10_2 ki10_3 ki11_1 ki11_2 ki11_3 ki12_1 ki12_2 ki12_3 ki13_1 ki13_2 ki13_3 ki14_1 ki14_2 ki14_3 ki28_0 ki28_1 ki31_0 ki31_1 ki32_0 ki32_1 ki33_0 ki33_1 ki34_0 ki34_1 ki35_0 ki35_1 ki36_0 ki36_1)
  have hAe : ∀ i j, i < 40 → j < 40 → (A i = A j ↔ i = j) := hA
  refine ⟨vk, ?_, ?_, ?_, ?_, ?_, ?_, ?_, ?_, ?_, ?_, ?_⟩
  · (try simp only [Cn_pi_j22 hA]); exact vcn
  · (try simp only [Vq0_pi_j22 hA]); exact v0
  · (try simp only [Vq1_pi_j22 hA]); exact v1
  · (try simp only [Vq2_pi_j22 hA]); exact v2
  · (try simp only [Vp_thr hA]); exact vp
  · (try simp only [Vl0_pi_j22 hA]); exact vl0
  · (try simp only [Vl1_pi_j22 hA]); exact vl1
  · (try simp only [Vlr_pi_j22 hA]); exact vlr
  · (try simp only [Vsr_pi_j22 hA]); exact vsr
  · (try simp only [Vc_pi_j22 hA]); exact vc
  · (try simp only [Tx_pi_j22 hA]); exact tx

theorem Rl_out {A : Nat → Nat} {h : MH} {v : Option Nat} (R : Rl A h) : Rl A (p_r h (A 39) 1 v) := by
  have R0 := R
  obtain ⟨vk, vcn, v0, v1, v2, vp, vl0, vl1, vlr, vsr, vc, tx⟩ := R0
  have vk0 := vk
  have vcn0 := vcn
  (refine K_el vk0 ?_; intros hA kc0 kc1 kc2 kc3 kc4 kc5 kc6 kc7 kc8 kc9 kc10 kc11 kc12 kc13 kc14 kc15 kc16 kc17 kc18 kc19 kc20 kc21 kc22 kc23 kc24 kc25 kc26 kc27 kc28 kc29 kc30 kc31 kc32 kc33 kc34 kc35 kc36 kc37 kc38 kc39 kz kt kn3 kn4 kn18 kn21 kn23 kn24 kn25 kn26 kn27 kn29 kn30 kr0_0 kr0_1 kr0_2 kr0_3 kr0_4 kr0_5 kr0_7 kr0_8 kr0_9 kr0_10 kr1_0 kr2_0 kr5_0 kr5_1 kr6_0 kr6_1 kr7_0 kr7_1 kr8_0 kr9_0 kr10_0 kr11_0 kr12_0 kr13_0 kr14_0 kr15_0 kr16_0 kr17_0 kr19_0 kr19_1 kr22_0 kr22_1 kr22_2 kr22_3 kr22_4 kr22_5 kr22_7 kr22_8 kr25_0 kr25_1 kr25_2 kr26_0 kr26_1 kr26_2 kr29_0 kr29_1)
  (refine Cn_el vcn0 ?_; intros ki5_2 ki6_2 ki7_2 ki8_1 ki8_2 ki8_3 ki9_1 ki9_2 ki9_3 ki10_1 ki10_2 ki10_3 ki11_1 ki11_2 ki11_3 ki12_1 ki12_2 ki12_3 ki13_1 ki13_2 ki13_3 ki14_1 ki14_2 ki14_3 ki28_0 ki28_1 ki31_0 ki31_1 ki32_0 ki32_1 ki33_0 ki33_1 ki34_0 ki34_1 ki35_0 ki35_1 ki36_0 ki36_1)
  have hAe : ∀ i j, i < 40 → j < 40 → (A i = A j ↔ i = j) := hA
  refine ⟨⟨hA, vk.2.1, vk.2.2.1, vk.2.2.2.1, ?_⟩, vcn, v0, v1, v2, vp, vl0, vl1, vlr, vsr, vc, ?_⟩
  · have ne : ∀ i, i < 39 → ∀ k, g_r (p_r h (A 39) 1 v) (A i) k = g_r h (A i) k := fun i hi k => by
      rw [mr_pr, if_neg (fun z => by have := (hA i 39 (by omega) (by decide)).mp z.1; omega)]
    simp only [Kr1, ne, Nat.reduceLT]
    exact vk.2.2.2.2
  · obtain ⟨w, a1, a5⟩ := tx
    refine ⟨w, ?_, a5⟩
    rw [mr_pr, if_neg (fun z => absurd ((hA_20_39 hA).mp z.1) (by decide))]
    exact a1
/-- the constants of the texts -/
def Cs (h : MH) : Prop := ∃ ve vs, (g_c h (g_a h 11) = 11 ∧ g_i h (g_a h 11) 1 = 0 ∧ g_r h (g_a h 11) 0 = some ve ∧ g_c h ve = 103 ∧ g_n h ve = 0) ∧ (g_c h (g_a h 12) = 11 ∧ g_i h (g_a h 12) 1 = 0 ∧ g_r h (g_a h 12) 0 = some vs ∧ g_c h vs = 103 ∧ g_n h vs = 1) ∧ Dt h ∧ (g_a h 11 < g_z h ∧ g_a h 12 < g_z h ∧ g_a h 13 < g_z h ∧ g_a h 14 < g_z h ∧ ve < g_z h ∧ vs < g_z h) ∧ g_z h ≤ g_t h
theorem Cs_Lw {h m : MH} (c : Cs h) (f : Lw h m) : Cs m := by
  obtain ⟨ve, vs, ⟨a1, a2, a3, a4, a5⟩, ⟨b1, b2, b3, b4, b5⟩, ⟨⟨d1, d2⟩, d3, d4⟩, ⟨z1, z2, z3, z4, z5, z6⟩, z7⟩ := c
  obtain ⟨f1, f2, f3, f4⟩ := f
  obtain ⟨⟨x1, -⟩, x3, -, x5⟩ := f4 _ z1
  obtain ⟨⟨y1, -⟩, y3, -, y5⟩ := f4 _ z2
  obtain ⟨⟨u1, u2⟩, -⟩ := f4 _ z3
  obtain ⟨⟨w1, w2⟩, -⟩ := f4 _ z4
  obtain ⟨⟨p1, p2⟩, -⟩ := f4 _ z5
  obtain ⟨⟨q1, q2⟩, -⟩ := f4 _ z6
  refine ⟨ve, vs, ?_, ?_, ?_, ?_, by omega⟩
  · rw [f3, x1, x3, x5, p1, p2]; exact ⟨a1, a2, a3, a4, a5⟩
  · rw [f3, y1, y3, y5, q1, q2]; exact ⟨b1, b2, b3, b4, b5⟩
  · unfold Dt; rw [f3, f3, u1, u2, w1, w2]; exact ⟨⟨d1, d2⟩, d3, d4⟩
  · rw [f1, f3, f3, f3, f3]; exact ⟨z1, z2, z3, z4, z5, z6⟩
theorem Cs_Fx {sb dg : Nat} {h m : MH} (c : Cs h) (f : Fx sb dg h m) (hs : g_z h ≤ sb) (hd : g_z h ≤ dg) : Cs m := by
  obtain ⟨ve, vs, ⟨a1, a2, a3, a4, a5⟩, ⟨b1, b2, b3, b4, b5⟩, ⟨⟨d1, d2⟩, d3, d4⟩, ⟨z1, z2, z3, z4, z5, z6⟩, z7⟩ := c
  obtain ⟨f1, f2, f3, f4⟩ := f
  obtain ⟨⟨x1, -⟩, x2⟩ := f4 _ (Nat.lt_of_lt_of_le z1 z7)
  obtain ⟨x3, -, x5⟩ := x2 (by omega) (by omega) (by rw [a1]; decide)
  obtain ⟨⟨y1, -⟩, y2⟩ := f4 _ (Nat.lt_of_lt_of_le z2 z7)
  obtain ⟨y3, -, y5⟩ := y2 (by omega) (by omega) (by rw [b1]; decide)
  obtain ⟨⟨u1, u2⟩, -⟩ := f4 _ (Nat.lt_of_lt_of_le z3 z7)
  obtain ⟨⟨w1, w2⟩, -⟩ := f4 _ (Nat.lt_of_lt_of_le z4 z7)
  obtain ⟨⟨p1, p2⟩, -⟩ := f4 _ (Nat.lt_of_lt_of_le z5 z7)
  obtain ⟨⟨q1, q2⟩, -⟩ := f4 _ (Nat.lt_of_lt_of_le z6 z7)
  refine ⟨ve, vs, ?_, ?_, ?_, ?_, by omega⟩
  · rw [f3, x1, x3, x5, p1, p2]; exact ⟨a1, a2, a3, a4, a5⟩
  · rw [f3, y1, y3, y5, q1, q2]; exact ⟨b1, b2, b3, b4, b5⟩
  · unfold Dt; rw [f3, f3, u1, u2, w1, w2]; exact ⟨⟨d1, d2⟩, d3, d4⟩
  · rw [f1, f3, f3, f3, f3]; exact ⟨z1, z2, z3, z4, z5, z6⟩
theorem Cs_St {h : MH} (c : Cs h) : St (g_a h 11) 0 h ∧ St (g_a h 12) 1 h := by
  obtain ⟨ve, vs, ⟨a1, a2, a3, a4, a5⟩, ⟨b1, b2, b3, b4, b5⟩, d, ⟨z1, z2, z3, z4, z5, z6⟩, z7⟩ := c
  exact ⟨⟨a1, by omega, a2, ve, a3, a4, by omega, a5⟩, ⟨b1, by omega, b2, vs, b3, b4, by omega, b5⟩⟩
theorem Cs_Dt {h : MH} (c : Cs h) : Dt h ∧ g_a h 13 < g_t h ∧ g_a h 14 < g_t h := by
  obtain ⟨ve, vs, a, b, d, ⟨z1, z2, z3, z4, z5, z6⟩, z7⟩ := c
  exact ⟨d, by omega, by omega⟩
/-- how long a text of numbers with a sign between is -/
def tq (val : Nat → Int64) : Nat → Nat
  | 0 => 0
  | j + 1 => tq val j + sep (tq val j) + tsz (val j)
theorem tq_le (val : Nat → Int64) (b : Nat) (hb : ∀ j, tsz (val j) ≤ b) : ∀ j, tq val j ≤ (b + 1) * j
  | 0 => Nat.zero_le _
  | j + 1 => by
    have := tq_le val b hb j
    have h1 := hb j
    unfold tq
    have h2 : sep (tq val j) ≤ 1 := by unfold sep; split <;> omega
    rw [Nat.mul_succ]
    omega
theorem tq_z (val : Nat → Int64) (j : Nat) : (tq val j = 0) = (j = 0) := by
  apply propext
  cases j with
  | zero => exact ⟨fun _ => rfl, fun _ => rfl⟩
  | succ j =>
    unfold tq
    have := tsz_pos (val j)
    constructor
    · intro z; omega
    · intro z; cases z
end

section
set_option maxRecDepth 16384
/-! GATHERING, the class -/
set_option maxRecDepth 100000 in
theorem qL6_0 : ∀ t ∈ QS0, (lyF t).toNatClampNeg ≤ 6 ∧ lyF t = Int32.ofNat (lyF t).toNatClampNeg := by decide +kernel
set_option maxRecDepth 100000 in
theorem qL6_1 : ∀ t ∈ QS1, (lyF t).toNatClampNeg ≤ 6 ∧ lyF t = Int32.ofNat (lyF t).toNatClampNeg := by decide +kernel
set_option maxRecDepth 100000 in
theorem qL6_2 : ∀ t ∈ QS2, (lyF t).toNatClampNeg ≤ 6 ∧ lyF t = Int32.ofNat (lyF t).toNatClampNeg := by decide +kernel
theorem nmem {j : Nat} (h : j < 10) : Int32.ofNat j ∈ (List.range 10).map Int32.ofNat := List.mem_map.mpr ⟨j, List.mem_range.mpr h, rfl⟩
/-- what lies there, by how many are ahead -/
def qv0 (A : Nat → Nat) (h : MH) (j : Nat) : Int64 := g_l h (A 3) (1 + ceF (cT h (A 5) (A 8) (A 9)) (Int32.ofNat j)).toNatClampNeg
theorem gq_same0 {A : Nat → Nat} {h m : MH} (R : Rl A h) (f : Fx (A 20) (A 21) h m) : (cT m (A 5) (A 8) (A 9)) = (cT h (A 5) (A 8) (A 9)) ∧ ∀ k, g_l m (A 3) k = g_l h (A 3) k := by
  obtain ⟨vk, -⟩ := R
  have hA := vk.1
  have i5 := (Fx_at vk f (i := 5) (by decide) (fun z => absurd ((hA_5_20 hA).mp z) (by decide)) (fun z => absurd ((hA_5_21 hA).mp z) (by decide)))
  have i8 := (Fx_at vk f (i := 8) (by decide) (fun z => absurd ((hA_8_20 hA).mp z) (by decide)) (fun z => absurd ((hA_8_21 hA).mp z) (by decide)))
  have i9 := (Fx_at vk f (i := 9) (by decide) (fun z => absurd ((hA_9_20 hA).mp z) (by decide)) (fun z => absurd ((hA_9_21 hA).mp z) (by decide)))
  have i3 := (Fx_at vk f (i := 3) (by decide) (fun z => absurd ((hA_3_20 hA).mp z) (by decide)) (fun z => absurd ((hA_3_21 hA).mp z) (by decide)))
  exact ⟨by simp only [cT, i5.1, i8.1, i9.1], i3.2.1⟩
theorem gq_loop0 {A : Nat → Nat} {h : MH} {Q : MR → MH → Prop} {M : Nat} (R : Rl A h) (hM : lyF (cT h (A 5) (A 8) (A 9)) = Int32.ofNat M) (hM6 : M ≤ 6) (hQ : ∀ m, Fx (A 20) (A 21) h m → Bd (A 20) (tq (qv0 A h) M) m → Q (.inl none) m) : ∀ (d j : Nat) (m : MH), j + d = M → Fx (A 20) (A 21) h m → Bd (A 20) (tq (qv0 A h) j) m → Ok 129 14 [.ref (A 0), .ref (A 5), .int (Int32.ofNat M), .int (Int32.ofNat j)] [] m (21 * d) (3150 * d) Q
  | 0, j, m, hj, f, b => by
    have : j = M := by omega
    subst this
    rw [o129_14]
    simp only [o129_15, o129_16, o129_19, o129_20, o129_23, o129_24, o129_25, o129_37, mcs_0, csum_rf, true_and, and_true, not_true_eq_false, not_false_eq_true, false_implies, forall_const, Nat.reduceLeDiff, Nat.reduceAdd, lt_le, n_irr]
    exact hQ m f b
  | d + 1, j, m, hj, f, b => by
    have lp := gq_loop0 R hM hM6 hQ d (j + 1)
    have Rh := R
    have sm := gq_same0 R f
    obtain ⟨hT, hl⟩ := sm
    have qx := (qX_0 _ R.2.2.1.2 _ (nmem (j := j) (by omega))).resolve_left (fun z => z (by rw [hM, n_lt (by omega) (by omega)]; omega))
    obtain ⟨x1, x2, x3⟩ := qx
    replace R := Rl_Fx R f b
    clear hM
    have R0 := R
    obtain ⟨vk, vcn, v0, v1, v2, vp, vl0, vl1, vlr, vsr, vc, tx⟩ := R0
    have vk0 := vk
    have vcn0 := vcn
    (refine K_el vk0 ?_; intros hA kc0 kc1 kc2 kc3 kc4 kc5 kc6 kc7 kc8 kc9 kc10 kc11 kc12 kc13 kc14 kc15 kc16 kc17 kc18 kc19 kc20 kc21 kc22 kc23 kc24 kc25 kc26 kc27 kc28 kc29 kc30 kc31 kc32 kc33 kc34 kc35 kc36 kc37 kc38 kc39 kz kt kn3 kn4 kn18 kn21 kn23 kn24 kn25 kn26 kn27 kn29 kn30 kr0_0 kr0_1 kr0_2 kr0_3 kr0_4 kr0_5 kr0_7 kr0_8 kr0_9 kr0_10 kr1_0 kr2_0 kr5_0 kr5_1 kr6_0 kr6_1 kr7_0 kr7_1 kr8_0 kr9_0 kr10_0 kr11_0 kr12_0 kr13_0 kr14_0 kr15_0 kr16_0 kr17_0 kr19_0 kr19_1 kr22_0 kr22_1 kr22_2 kr22_3 kr22_4 kr22_5 kr22_7 kr22_8 kr25_0 kr25_1 kr25_2 kr26_0 kr26_1 kr26_2 kr29_0 kr29_1)
    (refine Cn_el vcn0 ?_; intros ki5_2 ki6_2 ki7_2 ki8_1 ki8_2 ki8_3 ki9_1 ki9_2 ki9_3 ki10_1 ki10_2 ki10_3 ki11_1 ki11_2 ki11_3 ki12_1 ki12_2 ki12_3 ki13_1 ki13_2 ki13_3 ki14_1 ki14_2 ki14_3 ki28_0 ki28_1 ki31_0 ki31_1 ki32_0 ki32_1 ki33_0 ki33_1 ki34_0 ki34_1 ki35_0 ki35_1 ki36_0 ki36_1)
    have hAe : ∀ i j, i < 40 → j < 40 → (A i = A j ↔ i = j) := hA
    have c1 : (Int32.ofNat j < Int32.ofNat M) = True := by rw [n_lt (by omega) (by omega)]; exact eq_true (by omega)
    have c5 : Int32.ofNat j + 1 = Int32.ofNat (j + 1) := n_add j 1
    have c6 : (21 ≤ 21 * (d + 1)) = True := eq_true (by omega)
    have c7 : (3150 ≤ 3150 * (d + 1)) = True := eq_true (by omega)
    have c8 : 3150 * (d + 1) - 3150 = 3150 * d := by omega
    have c9 : 21 * (d + 1) - 21 = 21 * d := by omega
    have hv : g_l h (A 3) (1 + ceF (cT h (A 5) (A 8) (A 9)) (Int32.ofNat j)).toNatClampNeg = qv0 A h j := rfl
    rw [o129_14]
    simp only [o129_15, o129_16, o129_19, o129_20, o129_23, o129_24, o129_25, o129_28, c_X1_lyingAt (w := A 8) (r := A 9) (rw := A 1) (cs := A 3) (n := 16), mcs_0, mcs_r, Kn_v, mrf_some, true_and, not_true_eq_false, not_false_eq_true, false_implies, forall_const, Nat.reduceLeDiff, Nat.reduceAdd, Nat.zero_le, lt_le, kc0, kc1, kc3, kc5, kc8, kc9, kc19, kn3, kr0_10, kr1_0, kr5_0, kr5_1, kr9_0, ki9_1, ki9_2, hT, hl, hv, c1, x1, x2, x3, c6, c7, c8, c9]
    have t6 := tq_le (qv0 A h) 20 (fun j => tsz_le _) (j + 1)
    unfold tq at t6
    refine c_add (Wo_of R) b (by omega) (fun m2 f2 b2 => ?_)
    simp only [o129_31, o129_34, Kn_0, c5]
    exact lp m2 (by omega) (Fx_tr f f2) b2

theorem c_gQ0 {A : Nat → Nat} {h : MH} {Q : MR → MH → Prop} (R : Rl A h) (hQ : ∀ m, Fx (A 20) (A 21) h m → Bd (A 20) (tq (qv0 A h) (lyF (cT h (A 5) (A 8) (A 9))).toNatClampNeg) m → Q (.inl none) m) : Ok 129 0 [.ref (A 0), .ref (A 5), mk0, mk0] [] h 127 19050 Q := by
  obtain ⟨l6, le⟩ := qL6_0 _ R.2.2.1.2
  obtain ⟨n, b⟩ := Bd_of R
  have lp := gq_loop0 (Q := Q) R le l6 hQ
  generalize hM : (lyF (cT h (A 5) (A 8) (A 9))).toNatClampNeg = M at *
  have Rh := R
  have R0 := R
  obtain ⟨vk, vcn, v0, v1, v2, vp, vl0, vl1, vlr, vsr, vc, tx⟩ := R0
  have vk0 := vk
  have vcn0 := vcn
  (refine K_el vk0 ?_; intros hA kc0 kc1 kc2 kc3 kc4 kc5 kc6 kc7 kc8 kc9 kc10 kc11 kc12 kc13 kc14 kc15 kc16 kc17 kc18 kc19 kc20 kc21 kc22 kc23 kc24 kc25 kc26 kc27 kc28 kc29 kc30 kc31 kc32 kc33 kc34 kc35 kc36 kc37 kc38 kc39 kz kt kn3 kn4 kn18 kn21 kn23 kn24 kn25 kn26 kn27 kn29 kn30 kr0_0 kr0_1 kr0_2 kr0_3 kr0_4 kr0_5 kr0_7 kr0_8 kr0_9 kr0_10 kr1_0 kr2_0 kr5_0 kr5_1 kr6_0 kr6_1 kr7_0 kr7_1 kr8_0 kr9_0 kr10_0 kr11_0 kr12_0 kr13_0 kr14_0 kr15_0 kr16_0 kr17_0 kr19_0 kr19_1 kr22_0 kr22_1 kr22_2 kr22_3 kr22_4 kr22_5 kr22_7 kr22_8 kr25_0 kr25_1 kr25_2 kr26_0 kr26_1 kr26_2 kr29_0 kr29_1)
  (refine Cn_el vcn0 ?_; intros ki5_2 ki6_2 ki7_2 ki8_1 ki8_2 ki8_3 ki9_1 ki9_2 ki9_3 ki10_1 ki10_2 ki10_3 ki11_1 ki11_2 ki11_3 ki12_1 ki12_2 ki12_3 ki13_1 ki13_2 ki13_3 ki14_1 ki14_2 ki14_3 ki28_0 ki28_1 ki31_0 ki31_1 ki32_0 ki32_1 ki33_0 ki33_1 ki34_0 ki34_1 ki35_0 ki35_1 ki36_0 ki36_1)
  have hAe : ∀ i j, i < 40 → j < 40 → (A i = A j ↔ i = j) := hA
  simp only [o129_0, o129_1, o129_4, mcs_0, mrf_some, true_and, Nat.reduceLeDiff, Nat.reduceSub, Nat.zero_le, kc0, kc19, kr0_10]
  refine c_start (Wo_of Rh) b (fun m f b2 => ?_)
  have sm := gq_same0 Rh f
  obtain ⟨hT, hl⟩ := sm
  have R := Rl_Fx Rh f b2
  have R0 := R
  obtain ⟨vk, vcn, v0, v1, v2, vp, vl0, vl1, vlr, vsr, vc, tx⟩ := R0
  have vk0 := vk
  have vcn0 := vcn
  (refine K_el vk0 ?_; intros hA kc0 kc1 kc2 kc3 kc4 kc5 kc6 kc7 kc8 kc9 kc10 kc11 kc12 kc13 kc14 kc15 kc16 kc17 kc18 kc19 kc20 kc21 kc22 kc23 kc24 kc25 kc26 kc27 kc28 kc29 kc30 kc31 kc32 kc33 kc34 kc35 kc36 kc37 kc38 kc39 kz kt kn3 kn4 kn18 kn21 kn23 kn24 kn25 kn26 kn27 kn29 kn30 kr0_0 kr0_1 kr0_2 kr0_3 kr0_4 kr0_5 kr0_7 kr0_8 kr0_9 kr0_10 kr1_0 kr2_0 kr5_0 kr5_1 kr6_0 kr6_1 kr7_0 kr7_1 kr8_0 kr9_0 kr10_0 kr11_0 kr12_0 kr13_0 kr14_0 kr15_0 kr16_0 kr17_0 kr19_0 kr19_1 kr22_0 kr22_1 kr22_2 kr22_3 kr22_4 kr22_5 kr22_7 kr22_8 kr25_0 kr25_1 kr25_2 kr26_0 kr26_1 kr26_2 kr29_0 kr29_1)
  (refine Cn_el vcn0 ?_; intros ki5_2 ki6_2 ki7_2 ki8_1 ki8_2 ki8_3 ki9_1 ki9_2 ki9_3 ki10_1 ki10_2 ki10_3 ki11_1 ki11_2 ki11_3 ki12_1 ki12_2 ki12_3 ki13_1 ki13_2 ki13_3 ki14_1 ki14_2 ki14_3 ki28_0 ki28_1 ki31_0 ki31_1 ki32_0 ki32_1 ki33_0 ki33_1 ki34_0 ki34_1 ki35_0 ki35_1 ki36_0 ki36_1)
  have hAe : ∀ i j, i < 40 → j < 40 → (A i = A j ↔ i = j) := hA
  simp only [o129_7, o129_8, o129_11, o129_12, o129_13, c_X1_lying (w := A 8) (r := A 9), mcs_0, Kn_v, Kn_0, true_and, Nat.zero_le, kc5, kc8, kc9, kr5_0, kr5_1, hT, le]
  exact Ok_le (lp M 0 m (by omega) f b2) _ _ (by omega) (by omega)

/-- what lies there, by how many are ahead -/
def qv1 (A : Nat → Nat) (h : MH) (j : Nat) : Int64 := g_l h (A 3) (6 + ceF (cT h (A 6) (A 10) (A 11)) (Int32.ofNat j)).toNatClampNeg
theorem gq_same1 {A : Nat → Nat} {h m : MH} (R : Rl A h) (f : Fx (A 20) (A 21) h m) : (cT m (A 6) (A 10) (A 11)) = (cT h (A 6) (A 10) (A 11)) ∧ ∀ k, g_l m (A 3) k = g_l h (A 3) k := by
  obtain ⟨vk, -⟩ := R
  have hA := vk.1
  have i6 := (Fx_at vk f (i := 6) (by decide) (fun z => absurd ((hA_6_20 hA).mp z) (by decide)) (fun z => absurd ((hA_6_21 hA).mp z) (by decide)))
  have i10 := (Fx_at vk f (i := 10) (by decide) (fun z => absurd ((hA_10_20 hA).mp z) (by decide)) (fun z => absurd ((hA_10_21 hA).mp z) (by decide)))
  have i11 := (Fx_at vk f (i := 11) (by decide) (fun z => absurd ((hA_11_20 hA).mp z) (by decide)) (fun z => absurd ((hA_11_21 hA).mp z) (by decide)))
  have i3 := (Fx_at vk f (i := 3) (by decide) (fun z => absurd ((hA_3_20 hA).mp z) (by decide)) (fun z => absurd ((hA_3_21 hA).mp z) (by decide)))
  exact ⟨by simp only [cT, i6.1, i10.1, i11.1], i3.2.1⟩
theorem gq_loop1 {A : Nat → Nat} {h : MH} {Q : MR → MH → Prop} {M : Nat} (R : Rl A h) (hM : lyF (cT h (A 6) (A 10) (A 11)) = Int32.ofNat M) (hM6 : M ≤ 6) (hQ : ∀ m, Fx (A 20) (A 21) h m → Bd (A 20) (tq (qv1 A h) M) m → Q (.inl none) m) : ∀ (d j : Nat) (m : MH), j + d = M → Fx (A 20) (A 21) h m → Bd (A 20) (tq (qv1 A h) j) m → Ok 129 14 [.ref (A 0), .ref (A 6), .int (Int32.ofNat M), .int (Int32.ofNat j)] [] m (21 * d) (3150 * d) Q
  | 0, j, m, hj, f, b => by
    have : j = M := by omega
    subst this
    rw [o129_14]
    simp only [o129_15, o129_16, o129_19, o129_20, o129_23, o129_24, o129_25, o129_37, mcs_0, csum_rf, true_and, and_true, not_true_eq_false, not_false_eq_true, false_implies, forall_const, Nat.reduceLeDiff, Nat.reduceAdd, lt_le, n_irr]
    exact hQ m f b
  | d + 1, j, m, hj, f, b => by
    have lp := gq_loop1 R hM hM6 hQ d (j + 1)
    have Rh := R
    have sm := gq_same1 R f
    obtain ⟨hT, hl⟩ := sm
    have qx := (qX_1 _ R.2.2.2.1.2 _ (nmem (j := j) (by omega))).resolve_left (fun z => z (by rw [hM, n_lt (by omega) (by omega)]; omega))
    obtain ⟨x1, x2, x3⟩ := qx
    replace R := Rl_Fx R f b
    clear hM
    have R0 := R
    obtain ⟨vk, vcn, v0, v1, v2, vp, vl0, vl1, vlr, vsr, vc, tx⟩ := R0
    have vk0 := vk
    have vcn0 := vcn
    (refine K_el vk0 ?_; intros hA kc0 kc1 kc2 kc3 kc4 kc5 kc6 kc7 kc8 kc9 kc10 kc11 kc12 kc13 kc14 kc15 kc16 kc17 kc18 kc19 kc20 kc21 kc22 kc23 kc24 kc25 kc26 kc27 kc28 kc29 kc30 kc31 kc32 kc33 kc34 kc35 kc36 kc37 kc38 kc39 kz kt kn3 kn4 kn18 kn21 kn23 kn24 kn25 kn26 kn27 kn29 kn30 kr0_0 kr0_1 kr0_2 kr0_3 kr0_4 kr0_5 kr0_7 kr0_8 kr0_9 kr0_10 kr1_0 kr2_0 kr5_0 kr5_1 kr6_0 kr6_1 kr7_0 kr7_1 kr8_0 kr9_0 kr10_0 kr11_0 kr12_0 kr13_0 kr14_0 kr15_0 kr16_0 kr17_0 kr19_0 kr19_1 kr22_0 kr22_1 kr22_2 kr22_3 kr22_4 kr22_5 kr22_7 kr22_8 kr25_0 kr25_1 kr25_2 kr26_0 kr26_1 kr26_2 kr29_0 kr29_1)
    (refine Cn_el vcn0 ?_; intros ki5_2 ki6_2 ki7_2 ki8_1 ki8_2 ki8_3 ki9_1 ki9_2 ki9_3 ki10_1 ki10_2 ki10_3 ki11_1 ki11_2 ki11_3 ki12_1 ki12_2 ki12_3 ki13_1 ki13_2 ki13_3 ki14_1 ki14_2 ki14_3 ki28_0 ki28_1 ki31_0 ki31_1 ki32_0 ki32_1 ki33_0 ki33_1 ki34_0 ki34_1 ki35_0 ki35_1 ki36_0 ki36_1)
    have hAe : ∀ i j, i < 40 → j < 40 → (A i = A j ↔ i = j) := hA
    have c1 : (Int32.ofNat j < Int32.ofNat M) = True := by rw [n_lt (by omega) (by omega)]; exact eq_true (by omega)
    have c5 : Int32.ofNat j + 1 = Int32.ofNat (j + 1) := n_add j 1
    have c6 : (21 ≤ 21 * (d + 1)) = True := eq_true (by omega)
    have c7 : (3150 ≤ 3150 * (d + 1)) = True := eq_true (by omega)
    have c8 : 3150 * (d + 1) - 3150 = 3150 * d := by omega
    have c9 : 21 * (d + 1) - 21 = 21 * d := by omega
    have hv : g_l h (A 3) (6 + ceF (cT h (A 6) (A 10) (A 11)) (Int32.ofNat j)).toNatClampNeg = qv1 A h j := rfl
    rw [o129_14]
    simp only [o129_15, o129_16, o129_19, o129_20, o129_23, o129_24, o129_25, o129_28, c_X1_lyingAt (w := A 10) (r := A 11) (rw := A 1) (cs := A 3) (n := 16), mcs_0, mcs_r, Kn_v, mrf_some, true_and, not_true_eq_false, not_false_eq_true, false_implies, forall_const, Nat.reduceLeDiff, Nat.reduceAdd, Nat.zero_le, lt_le, kc0, kc1, kc3, kc6, kc10, kc11, kc19, kn3, kr0_10, kr1_0, kr6_0, kr6_1, kr11_0, ki11_1, ki11_2, hT, hl, hv, c1, x1, x2, x3, c6, c7, c8, c9]
    have t6 := tq_le (qv1 A h) 20 (fun j => tsz_le _) (j + 1)
    unfold tq at t6
    refine c_add (Wo_of R) b (by omega) (fun m2 f2 b2 => ?_)
    simp only [o129_31, o129_34, Kn_0, c5]
    exact lp m2 (by omega) (Fx_tr f f2) b2

theorem c_gQ1 {A : Nat → Nat} {h : MH} {Q : MR → MH → Prop} (R : Rl A h) (hQ : ∀ m, Fx (A 20) (A 21) h m → Bd (A 20) (tq (qv1 A h) (lyF (cT h (A 6) (A 10) (A 11))).toNatClampNeg) m → Q (.inl none) m) : Ok 129 0 [.ref (A 0), .ref (A 6), mk0, mk0] [] h 127 19050 Q := by
  obtain ⟨l6, le⟩ := qL6_1 _ R.2.2.2.1.2
  obtain ⟨n, b⟩ := Bd_of R
  have lp := gq_loop1 (Q := Q) R le l6 hQ
  generalize hM : (lyF (cT h (A 6) (A 10) (A 11))).toNatClampNeg = M at *
  have Rh := R
  have R0 := R
  obtain ⟨vk, vcn, v0, v1, v2, vp, vl0, vl1, vlr, vsr, vc, tx⟩ := R0
  have vk0 := vk
  have vcn0 := vcn
  (refine K_el vk0 ?_; intros hA kc0 kc1 kc2 kc3 kc4 kc5 kc6 kc7 kc8 kc9 kc10 kc11 kc12 kc13 kc14 kc15 kc16 kc17 kc18 kc19 kc20 kc21 kc22 kc23 kc24 kc25 kc26 kc27 kc28 kc29 kc30 kc31 kc32 kc33 kc34 kc35 kc36 kc37 kc38 kc39 kz kt kn3 kn4 kn18 kn21 kn23 kn24 kn25 kn26 kn27 kn29 kn30 kr0_0 kr0_1 kr0_2 kr0_3 kr0_4 kr0_5 kr0_7 kr0_8 kr0_9 kr0_10 kr1_0 kr2_0 kr5_0 kr5_1 kr6_0 kr6_1 kr7_0 kr7_1 kr8_0 kr9_0 kr10_0 kr11_0 kr12_0 kr13_0 kr14_0 kr15_0 kr16_0 kr17_0 kr19_0 kr19_1 kr22_0 kr22_1 kr22_2 kr22_3 kr22_4 kr22_5 kr22_7 kr22_8 kr25_0 kr25_1 kr25_2 kr26_0 kr26_1 kr26_2 kr29_0 kr29_1)
  (refine Cn_el vcn0 ?_; intros ki5_2 ki6_2 ki7_2 ki8_1 ki8_2 ki8_3 ki9_1 ki9_2 ki9_3 ki10_1 ki10_2 ki10_3 ki11_1 ki11_2 ki11_3 ki12_1 ki12_2 ki12_3 ki13_1 ki13_2 ki13_3 ki14_1 ki14_2 ki14_3 ki28_0 ki28_1 ki31_0 ki31_1 ki32_0 ki32_1 ki33_0 ki33_1 ki34_0 ki34_1 ki35_0 ki35_1 ki36_0 ki36_1)
  have hAe : ∀ i j, i < 40 → j < 40 → (A i = A j ↔ i = j) := hA
  simp only [o129_0, o129_1, o129_4, mcs_0, mrf_some, true_and, Nat.reduceLeDiff, Nat.reduceSub, Nat.zero_le, kc0, kc19, kr0_10]
  refine c_start (Wo_of Rh) b (fun m f b2 => ?_)
  have sm := gq_same1 Rh f
  obtain ⟨hT, hl⟩ := sm
  have R := Rl_Fx Rh f b2
  have R0 := R
  obtain ⟨vk, vcn, v0, v1, v2, vp, vl0, vl1, vlr, vsr, vc, tx⟩ := R0
  have vk0 := vk
  have vcn0 := vcn
  (refine K_el vk0 ?_; intros hA kc0 kc1 kc2 kc3 kc4 kc5 kc6 kc7 kc8 kc9 kc10 kc11 kc12 kc13 kc14 kc15 kc16 kc17 kc18 kc19 kc20 kc21 kc22 kc23 kc24 kc25 kc26 kc27 kc28 kc29 kc30 kc31 kc32 kc33 kc34 kc35 kc36 kc37 kc38 kc39 kz kt kn3 kn4 kn18 kn21 kn23 kn24 kn25 kn26 kn27 kn29 kn30 kr0_0 kr0_1 kr0_2 kr0_3 kr0_4 kr0_5 kr0_7 kr0_8 kr0_9 kr0_10 kr1_0 kr2_0 kr5_0 kr5_1 kr6_0 kr6_1 kr7_0 kr7_1 kr8_0 kr9_0 kr10_0 kr11_0 kr12_0 kr13_0 kr14_0 kr15_0 kr16_0 kr17_0 kr19_0 kr19_1 kr22_0 kr22_1 kr22_2 kr22_3 kr22_4 kr22_5 kr22_7 kr22_8 kr25_0 kr25_1 kr25_2 kr26_0 kr26_1 kr26_2 kr29_0 kr29_1)
  (refine Cn_el vcn0 ?_; intros ki5_2 ki6_2 ki7_2 ki8_1 ki8_2 ki8_3 ki9_1 ki9_2 ki9_3 ki10_1 ki10_2 ki10_3 ki11_1 ki11_2 ki11_3 ki12_1 ki12_2 ki12_3 ki13_1 ki13_2 ki13_3 ki14_1 ki14_2 ki14_3 ki28_0 ki28_1 ki31_0 ki31_1 ki32_0 ki32_1 ki33_0 ki33_1 ki34_0 ki34_1 ki35_0 ki35_1 ki36_0 ki36_1)
  have hAe : ∀ i j, i < 40 → j < 40 → (A i = A j ↔ i = j) := hA
  simp only [o129_7, o129_8, o129_11, o129_12, o129_13, c_X1_lying (w := A 10) (r := A 11), mcs_0, Kn_v, Kn_0, true_and, Nat.zero_le, kc6, kc10, kc11, kr6_0, kr6_1, hT, le]
  exact Ok_le (lp M 0 m (by omega) f b2) _ _ (by omega) (by omega)

/-- what lies there, by how many are ahead -/
def qv2 (A : Nat → Nat) (h : MH) (j : Nat) : Int64 := g_l h (A 3) (9 + ceF (cT h (A 7) (A 12) (A 13)) (Int32.ofNat j)).toNatClampNeg
theorem gq_same2 {A : Nat → Nat} {h m : MH} (R : Rl A h) (f : Fx (A 20) (A 21) h m) : (cT m (A 7) (A 12) (A 13)) = (cT h (A 7) (A 12) (A 13)) ∧ ∀ k, g_l m (A 3) k = g_l h (A 3) k := by
  obtain ⟨vk, -⟩ := R
  have hA := vk.1
  have i7 := (Fx_at vk f (i := 7) (by decide) (fun z => absurd ((hA_7_20 hA).mp z) (by decide)) (fun z => absurd ((hA_7_21 hA).mp z) (by decide)))
  have i12 := (Fx_at vk f (i := 12) (by decide) (fun z => absurd ((hA_12_20 hA).mp z) (by decide)) (fun z => absurd ((hA_12_21 hA).mp z) (by decide)))
  have i13 := (Fx_at vk f (i := 13) (by decide) (fun z => absurd ((hA_13_20 hA).mp z) (by decide)) (fun z => absurd ((hA_13_21 hA).mp z) (by decide)))
  have i3 := (Fx_at vk f (i := 3) (by decide) (fun z => absurd ((hA_3_20 hA).mp z) (by decide)) (fun z => absurd ((hA_3_21 hA).mp z) (by decide)))
  exact ⟨by simp only [cT, i7.1, i12.1, i13.1], i3.2.1⟩
theorem gq_loop2 {A : Nat → Nat} {h : MH} {Q : MR → MH → Prop} {M : Nat} (R : Rl A h) (hM : lyF (cT h (A 7) (A 12) (A 13)) = Int32.ofNat M) (hM6 : M ≤ 6) (hQ : ∀ m, Fx (A 20) (A 21) h m → Bd (A 20) (tq (qv2 A h) M) m → Q (.inl none) m) : ∀ (d j : Nat) (m : MH), j + d = M → Fx (A 20) (A 21) h m → Bd (A 20) (tq (qv2 A h) j) m → Ok 129 14 [.ref (A 0), .ref (A 7), .int (Int32.ofNat M), .int (Int32.ofNat j)] [] m (21 * d) (3150 * d) Q
  | 0, j, m, hj, f, b => by
    have : j = M := by omega
    subst this
    rw [o129_14]
    simp only [o129_15, o129_16, o129_19, o129_20, o129_23, o129_24, o129_25, o129_37, mcs_0, csum_rf, true_and, and_true, not_true_eq_false, not_false_eq_true, false_implies, forall_const, Nat.reduceLeDiff, Nat.reduceAdd, lt_le, n_irr]
    exact hQ m f b
  | d + 1, j, m, hj, f, b => by
    have lp := gq_loop2 R hM hM6 hQ d (j + 1)
    have Rh := R
    have sm := gq_same2 R f
    obtain ⟨hT, hl⟩ := sm
    have qx := (qX_2 _ R.2.2.2.2.1.2 _ (nmem (j := j) (by omega))).resolve_left (fun z => z (by rw [hM, n_lt (by omega) (by omega)]; omega))
    obtain ⟨x1, x2, x3⟩ := qx
    replace R := Rl_Fx R f b
    clear hM
    have R0 := R
    obtain ⟨vk, vcn, v0, v1, v2, vp, vl0, vl1, vlr, vsr, vc, tx⟩ := R0
    have vk0 := vk
    have vcn0 := vcn
    (refine K_el vk0 ?_; intros hA kc0 kc1 kc2 kc3 kc4 kc5 kc6 kc7 kc8 kc9 kc10 kc11 kc12 kc13 kc14 kc15 kc16 kc17 kc18 kc19 kc20 kc21 kc22 kc23 kc24 kc25 kc26 kc27 kc28 kc29 kc30 kc31 kc32 kc33 kc34 kc35 kc36 kc37 kc38 kc39 kz kt kn3 kn4 kn18 kn21 kn23 kn24 kn25 kn26 kn27 kn29 kn30 kr0_0 kr0_1 kr0_2 kr0_3 kr0_4 kr0_5 kr0_7 kr0_8 kr0_9 kr0_10 kr1_0 kr2_0 kr5_0 kr5_1 kr6_0 kr6_1 kr7_0 kr7_1 kr8_0 kr9_0 kr10_0 kr11_0 kr12_0 kr13_0 kr14_0 kr15_0 kr16_0 kr17_0 kr19_0 kr19_1 kr22_0 kr22_1 kr22_2 kr22_3 kr22_4 kr22_5 kr22_7 kr22_8 kr25_0 kr25_1 kr25_2 kr26_0 kr26_1 kr26_2 kr29_0 kr29_1)
    (refine Cn_el vcn0 ?_; intros ki5_2 ki6_2 ki7_2 ki8_1 ki8_2 ki8_3 ki9_1 ki9_2 ki9_3 ki10_1 ki10_2 ki10_3 ki11_1 ki11_2 ki11_3 ki12_1 ki12_2 ki12_3 ki13_1 ki13_2 ki13_3 ki14_1 ki14_2 ki14_3 ki28_0 ki28_1 ki31_0 ki31_1 ki32_0 ki32_1 ki33_0 ki33_1 ki34_0 ki34_1 ki35_0 ki35_1 ki36_0 ki36_1)
    have hAe : ∀ i j, i < 40 → j < 40 → (A i = A j ↔ i = j) := hA
    have c1 : (Int32.ofNat j < Int32.ofNat M) = True := by rw [n_lt (by omega) (by omega)]; exact eq_true (by omega)
    have c5 : Int32.ofNat j + 1 = Int32.ofNat (j + 1) := n_add j 1
    have c6 : (21 ≤ 21 * (d + 1)) = True := eq_true (by omega)
    have c7 : (3150 ≤ 3150 * (d + 1)) = True := eq_true (by omega)
    have c8 : 3150 * (d + 1) - 3150 = 3150 * d := by omega
    have c9 : 21 * (d + 1) - 21 = 21 * d := by omega
    have hv : g_l h (A 3) (9 + ceF (cT h (A 7) (A 12) (A 13)) (Int32.ofNat j)).toNatClampNeg = qv2 A h j := rfl
    rw [o129_14]
    simp only [o129_15, o129_16, o129_19, o129_20, o129_23, o129_24, o129_25, o129_28, c_X1_lyingAt (w := A 12) (r := A 13) (rw := A 1) (cs := A 3) (n := 16), mcs_0, mcs_r, Kn_v, mrf_some, true_and, not_true_eq_false, not_false_eq_true, false_implies, forall_const, Nat.reduceLeDiff, Nat.reduceAdd, Nat.zero_le, lt_le, kc0, kc1, kc3, kc7, kc12, kc13, kc19, kn3, kr0_10, kr1_0, kr7_0, kr7_1, kr13_0, ki13_1, ki13_2, hT, hl, hv, c1, x1, x2, x3, c6, c7, c8, c9]
    have t6 := tq_le (qv2 A h) 20 (fun j => tsz_le _) (j + 1)
    unfold tq at t6
    refine c_add (Wo_of R) b (by omega) (fun m2 f2 b2 => ?_)
    simp only [o129_31, o129_34, Kn_0, c5]
    exact lp m2 (by omega) (Fx_tr f f2) b2

theorem c_gQ2 {A : Nat → Nat} {h : MH} {Q : MR → MH → Prop} (R : Rl A h) (hQ : ∀ m, Fx (A 20) (A 21) h m → Bd (A 20) (tq (qv2 A h) (lyF (cT h (A 7) (A 12) (A 13))).toNatClampNeg) m → Q (.inl none) m) : Ok 129 0 [.ref (A 0), .ref (A 7), mk0, mk0] [] h 127 19050 Q := by
  obtain ⟨l6, le⟩ := qL6_2 _ R.2.2.2.2.1.2
  obtain ⟨n, b⟩ := Bd_of R
  have lp := gq_loop2 (Q := Q) R le l6 hQ
  generalize hM : (lyF (cT h (A 7) (A 12) (A 13))).toNatClampNeg = M at *
  have Rh := R
  have R0 := R
  obtain ⟨vk, vcn, v0, v1, v2, vp, vl0, vl1, vlr, vsr, vc, tx⟩ := R0
  have vk0 := vk
  have vcn0 := vcn
  (refine K_el vk0 ?_; intros hA kc0 kc1 kc2 kc3 kc4 kc5 kc6 kc7 kc8 kc9 kc10 kc11 kc12 kc13 kc14 kc15 kc16 kc17 kc18 kc19 kc20 kc21 kc22 kc23 kc24 kc25 kc26 kc27 kc28 kc29 kc30 kc31 kc32 kc33 kc34 kc35 kc36 kc37 kc38 kc39 kz kt kn3 kn4 kn18 kn21 kn23 kn24 kn25 kn26 kn27 kn29 kn30 kr0_0 kr0_1 kr0_2 kr0_3 kr0_4 kr0_5 kr0_7 kr0_8 kr0_9 kr0_10 kr1_0 kr2_0 kr5_0 kr5_1 kr6_0 kr6_1 kr7_0 kr7_1 kr8_0 kr9_0 kr10_0 kr11_0 kr12_0 kr13_0 kr14_0 kr15_0 kr16_0 kr17_0 kr19_0 kr19_1 kr22_0 kr22_1 kr22_2 kr22_3 kr22_4 kr22_5 kr22_7 kr22_8 kr25_0 kr25_1 kr25_2 kr26_0 kr26_1 kr26_2 kr29_0 kr29_1)
  (refine Cn_el vcn0 ?_; intros ki5_2 ki6_2 ki7_2 ki8_1 ki8_2 ki8_3 ki9_1 ki9_2 ki9_3 ki10_1 ki10_2 ki10_3 ki11_1 ki11_2 ki11_3 ki12_1 ki12_2 ki12_3 ki13_1 ki13_2 ki13_3 ki14_1 ki14_2 ki14_3 ki28_0 ki28_1 ki31_0 ki31_1 ki32_0 ki32_1 ki33_0 ki33_1 ki34_0 ki34_1 ki35_0 ki35_1 ki36_0 ki36_1)
  have hAe : ∀ i j, i < 40 → j < 40 → (A i = A j ↔ i = j) := hA
  simp only [o129_0, o129_1, o129_4, mcs_0, mrf_some, true_and, Nat.reduceLeDiff, Nat.reduceSub, Nat.zero_le, kc0, kc19, kr0_10]
  refine c_start (Wo_of Rh) b (fun m f b2 => ?_)
  have sm := gq_same2 Rh f
  obtain ⟨hT, hl⟩ := sm
  have R := Rl_Fx Rh f b2
  have R0 := R
  obtain ⟨vk, vcn, v0, v1, v2, vp, vl0, vl1, vlr, vsr, vc, tx⟩ := R0
  have vk0 := vk
  have vcn0 := vcn
  (refine K_el vk0 ?_; intros hA kc0 kc1 kc2 kc3 kc4 kc5 kc6 kc7 kc8 kc9 kc10 kc11 kc12 kc13 kc14 kc15 kc16 kc17 kc18 kc19 kc20 kc21 kc22 kc23 kc24 kc25 kc26 kc27 kc28 kc29 kc30 kc31 kc32 kc33 kc34 kc35 kc36 kc37 kc38 kc39 kz kt kn3 kn4 kn18 kn21 kn23 kn24 kn25 kn26 kn27 kn29 kn30 kr0_0 kr0_1 kr0_2 kr0_3 kr0_4 kr0_5 kr0_7 kr0_8 kr0_9 kr0_10 kr1_0 kr2_0 kr5_0 kr5_1 kr6_0 kr6_1 kr7_0 kr7_1 kr8_0 kr9_0 kr10_0 kr11_0 kr12_0 kr13_0 kr14_0 kr15_0 kr16_0 kr17_0 kr19_0 kr19_1 kr22_0 kr22_1 kr22_2 kr22_3 kr22_4 kr22_5 kr22_7 kr22_8 kr25_0 kr25_1 kr25_2 kr26_0 kr26_1 kr26_2 kr29_0 kr29_1)
  (refine Cn_el vcn0 ?_; intros ki5_2 ki6_2 ki7_2 ki8_1 ki8_2 ki8_3 ki9_1 ki9_2 ki9_3 ki10_1 ki10_2 ki10_3 ki11_1 ki11_2 ki11_3 ki12_1 ki12_2 ki12_3 ki13_1 ki13_2 ki13_3 ki14_1 ki14_2 ki14_3 ki28_0 ki28_1 ki31_0 ki31_1 ki32_0 ki32_1 ki33_0 ki33_1 ki34_0 ki34_1 ki35_0 ki35_1 ki36_0 ki36_1)
  have hAe : ∀ i j, i < 40 → j < 40 → (A i = A j ↔ i = j) := hA
  simp only [o129_7, o129_8, o129_11, o129_12, o129_13, c_X1_lying (w := A 12) (r := A 13), mcs_0, Kn_v, Kn_0, true_and, Nat.zero_le, kc7, kc12, kc13, kr7_0, kr7_1, hT, le]
  exact Ok_le (lp M 0 m (by omega) f b2) _ _ (by omega) (by omega)

/-- what lies in the pipe -/
def pS (A : Nat → Nat) (h : MH) : Nat := if g_i h (A 0) 6 = 0 then 0 else (g_i h (A 14) 4).toNatClampNeg
def pNn (A : Nat → Nat) (h : MH) : Nat := if g_i h (A 0) 6 = 0 then (g_i h (A 14) 4).toNatClampNeg else (g_i h (A 14) 5).toNatClampNeg - (g_i h (A 14) 4).toNatClampNeg
def pv (A : Nat → Nat) (h : MH) (j : Nat) : Int64 := g_l h (A 4) (1 + (pS A h + j))
theorem pSN {A : Nat → Nat} {h : MH} (R : Rl A h) : pS A h + pNn A h ≤ 10 ∧ ((g_i h (A 0) 6 = 0 ∧ pS A h = 0 ∧ g_i h (A 14) 4 = Int32.ofNat (pS A h + pNn A h)) ∨ (g_i h (A 0) 6 = 1 ∧ g_i h (A 14) 4 = Int32.ofNat (pS A h) ∧ g_i h (A 14) 5 = Int32.ofNat (pS A h + pNn A h))) := by
  have R0 := R
  obtain ⟨vk, vcn, v0, v1, v2, vp, vl0, vl1, vlr, vsr, vc, tx⟩ := R0
  have vk0 := vk
  have vcn0 := vcn
  (refine K_el vk0 ?_; intros hA kc0 kc1 kc2 kc3 kc4 kc5 kc6 kc7 kc8 kc9 kc10 kc11 kc12 kc13 kc14 kc15 kc16 kc17 kc18 kc19 kc20 kc21 kc22 kc23 kc24 kc25 kc26 kc27 kc28 kc29 kc30 kc31 kc32 kc33 kc34 kc35 kc36 kc37 kc38 kc39 kz kt kn3 kn4 kn18 kn21 kn23 kn24 kn25 kn26 kn27 kn29 kn30 kr0_0 kr0_1 kr0_2 kr0_3 kr0_4 kr0_5 kr0_7 kr0_8 kr0_9 kr0_10 kr1_0 kr2_0 kr5_0 kr5_1 kr6_0 kr6_1 kr7_0 kr7_1 kr8_0 kr9_0 kr10_0 kr11_0 kr12_0 kr13_0 kr14_0 kr15_0 kr16_0 kr17_0 kr19_0 kr19_1 kr22_0 kr22_1 kr22_2 kr22_3 kr22_4 kr22_5 kr22_7 kr22_8 kr25_0 kr25_1 kr25_2 kr26_0 kr26_1 kr26_2 kr29_0 kr29_1)
  (refine Cn_el vcn0 ?_; intros ki5_2 ki6_2 ki7_2 ki8_1 ki8_2 ki8_3 ki9_1 ki9_2 ki9_3 ki10_1 ki10_2 ki10_3 ki11_1 ki11_2 ki11_3 ki12_1 ki12_2 ki12_3 ki13_1 ki13_2 ki13_3 ki14_1 ki14_2 ki14_3 ki28_0 ki28_1 ki31_0 ki31_1 ki32_0 ki32_1 ki33_0 ki33_1 ki34_0 ki34_1 ki35_0 ki35_1 ki36_0 ki36_1)
  have hAe : ∀ i j, i < 40 → j < 40 → (A i = A j ↔ i = j) := hA
  have hp2 := vp
  obtain ⟨⟨p1, p2, p3, p4⟩, hpm⟩ := hp2
  replace p1 := p1.symm
  replace p2 := p2.symm
  replace p3 := p3.symm
  replace p4 := p4.symm
  rw [p1, p2, p3, p4] at hpm
  obtain ⟨pm, pd⟩ := pA _ hpm
  simp only at pm pd
  rcases pd with pd | pd
  · obtain ⟨e1, e2, e3, -⟩ := pD _ hpm pd
    simp only at e1 e2 e3
    unfold pS pNn
    rw [if_pos pd, if_pos pd, Nat.zero_add]
    exact ⟨e3, Or.inl ⟨pd, rfl, e1⟩⟩
  · obtain ⟨e1, e2, e3, e4, -⟩ := pE _ hpm pd
    simp only at e1 e2 e3 e4
    have n0 : ¬ g_i h (A 0) 6 = 0 := fun z => by rw [pd] at z; exact absurd z (by decide)
    unfold pS pNn
    rw [if_neg n0, if_neg n0]
    have e5 : (g_i h (A 14) 4).toNatClampNeg + ((g_i h (A 14) 5).toNatClampNeg - (g_i h (A 14) 4).toNatClampNeg) = (g_i h (A 14) 5).toNatClampNeg := by omega
    rw [e5]
    exact ⟨e4, Or.inr ⟨pd, e1, e2⟩⟩
theorem pv_sz {A : Nat → Nat} {h : MH} (R : Rl A h) {j : Nat} (hj : j < pNn A h) : tsz (pv A h j) ≤ 6 := by
  have z := (pSN R).1
  have v := R.2.2.2.2.2.2.2.2.2.1 (1 + (pS A h + j)) (by omega)
  unfold pv
  rw [v.1, isz_tsz]
  exact isz_short v.2
theorem tq_lt (val : Nat → Int64) (b M : Nat) (hb : ∀ j, j < M → tsz (val j) ≤ b) : ∀ j, j ≤ M → tq val j ≤ (b + 1) * j
  | 0, _ => Nat.zero_le _
  | j + 1, hj => by
    have := tq_lt val b M hb j (by omega)
    have h1 := hb j (by omega)
    unfold tq
    have h2 : sep (tq val j) ≤ 1 := by unfold sep; split <;> omega
    rw [Nat.mul_succ]
    omega
theorem gp_same {A : Nat → Nat} {h m : MH} (R : Rl A h) (f : Fx (A 20) (A 21) h m) : (∀ k, g_l m (A 4) k = g_l h (A 4) k) ∧ (∀ k, g_i m (A 14) k = g_i h (A 14) k) ∧ ∀ k, g_i m (A 0) k = g_i h (A 0) k := by
  obtain ⟨vk, -⟩ := R
  have hA := vk.1
  have i0 := (Fx_at vk f (i := 0) (by decide) (fun z => absurd ((hA_0_20 hA).mp z) (by decide)) (fun z => absurd ((hA_0_21 hA).mp z) (by decide)))
  have i4 := (Fx_at vk f (i := 4) (by decide) (fun z => absurd ((hA_4_20 hA).mp z) (by decide)) (fun z => absurd ((hA_4_21 hA).mp z) (by decide)))
  have i14 := (Fx_at vk f (i := 14) (by decide) (fun z => absurd ((hA_14_20 hA).mp z) (by decide)) (fun z => absurd ((hA_14_21 hA).mp z) (by decide)))
  exact ⟨i4.2.1, i14.1, i0.1⟩
theorem gp_loop {A : Nat → Nat} {h : MH} {Q : MR → MH → Prop} (R : Rl A h) (hQ : ∀ m, Fx (A 20) (A 21) h m → Bd (A 20) (tq (pv A h) (pNn A h)) m → Q (.inl none) m) : ∀ (d j : Nat) (m : MH), j + d = pNn A h → Fx (A 20) (A 21) h m → Bd (A 20) (tq (pv A h) j) m → Ok 130 17 [.ref (A 0), .int (Int32.ofNat (pS A h + pNn A h)), .int (Int32.ofNat (pS A h + j))] [] m (21 * d) (3150 * d) Q
  | 0, j, m, hj, f, b => by
    have : j = pNn A h := by omega
    subst this
    rw [o130_17]
    simp only [o130_18, o130_19, o130_22, o130_23, o130_26, o130_27, o130_30, o130_43, and_true, not_true_eq_false, not_false_eq_true, false_implies, forall_const, lt_le, n_irr]
    exact hQ m f b
  | d + 1, j, m, hj, f, b => by
    have lp := gp_loop R hQ d (j + 1)
    have Rh := R
    obtain ⟨hl, -, -⟩ := gp_same R f
    have hS := (pSN R).1
    replace R := Rl_Fx R f b
    have R0 := R
    obtain ⟨vk, vcn, v0, v1, v2, vp, vl0, vl1, vlr, vsr, vc, tx⟩ := R0
    have vk0 := vk
    have vcn0 := vcn
    (refine K_el vk0 ?_; intros hA kc0 kc1 kc2 kc3 kc4 kc5 kc6 kc7 kc8 kc9 kc10 kc11 kc12 kc13 kc14 kc15 kc16 kc17 kc18 kc19 kc20 kc21 kc22 kc23 kc24 kc25 kc26 kc27 kc28 kc29 kc30 kc31 kc32 kc33 kc34 kc35 kc36 kc37 kc38 kc39 kz kt kn3 kn4 kn18 kn21 kn23 kn24 kn25 kn26 kn27 kn29 kn30 kr0_0 kr0_1 kr0_2 kr0_3 kr0_4 kr0_5 kr0_7 kr0_8 kr0_9 kr0_10 kr1_0 kr2_0 kr5_0 kr5_1 kr6_0 kr6_1 kr7_0 kr7_1 kr8_0 kr9_0 kr10_0 kr11_0 kr12_0 kr13_0 kr14_0 kr15_0 kr16_0 kr17_0 kr19_0 kr19_1 kr22_0 kr22_1 kr22_2 kr22_3 kr22_4 kr22_5 kr22_7 kr22_8 kr25_0 kr25_1 kr25_2 kr26_0 kr26_1 kr26_2 kr29_0 kr29_1)
    (refine Cn_el vcn0 ?_; intros ki5_2 ki6_2 ki7_2 ki8_1 ki8_2 ki8_3 ki9_1 ki9_2 ki9_3 ki10_1 ki10_2 ki10_3 ki11_1 ki11_2 ki11_3 ki12_1 ki12_2 ki12_3 ki13_1 ki13_2 ki13_3 ki14_1 ki14_2 ki14_3 ki28_0 ki28_1 ki31_0 ki31_1 ki32_0 ki32_1 ki33_0 ki33_1 ki34_0 ki34_1 ki35_0 ki35_1 ki36_0 ki36_1)
    have hAe : ∀ i j, i < 40 → j < 40 → (A i = A j ↔ i = j) := hA
    have c1 : (Int32.ofNat (pS A h + j) < Int32.ofNat (pS A h + pNn A h)) = True := by rw [n_lt (by omega) (by omega)]; exact eq_true (by omega)
    have c2 : (Int32.ofNat (pS A h + j) < 0) = False := n_z (by omega)
    have c3 : (Int32.ofNat (pS A h + j) < 10) = True := by rw [show (10 : Int32) = Int32.ofNat 10 from rfl, n_lt (by omega) (by omega)]; exact eq_true (by omega)
    have c4 : 1 + Int32.ofNat (pS A h + j) = Int32.ofNat (1 + (pS A h + j)) := n_add 1 _
    have c10 : rdy 36 (Int32.ofNat (1 + (pS A h + j))) := n_rdy (by omega) (by omega)
    have c11 : (Int32.ofNat (1 + (pS A h + j))).toNatClampNeg = 1 + (pS A h + j) := n_cl (by omega)
    have c5 : Int32.ofNat (pS A h + j) + 1 = Int32.ofNat (pS A h + (j + 1)) := n_add _ 1
    have c6 : (21 ≤ 21 * (d + 1)) = True := eq_true (by omega)
    have c7 : (3150 ≤ 3150 * (d + 1)) = True := eq_true (by omega)
    have c8 : 3150 * (d + 1) - 3150 = 3150 * d := by omega
    have c9 : 21 * (d + 1) - 21 = 21 * d := by omega
    have hv : g_l h (A 4) (1 + (pS A h + j)) = pv A h j := rfl
    rw [o130_17]
    simp only [o130_18, o130_19, o130_22, o130_23, o130_26, o130_27, o130_30, o130_31, o130_34, c_X3_readAt (rw := A 2) (cs := A 4) (n := 36), mcs_0, mcs_r, Kn_v, mrf_some, true_and, not_true_eq_false, not_false_eq_true, false_implies, forall_const, Nat.reduceLeDiff, Nat.reduceAdd, Nat.zero_le, lt_le, kc0, kc2, kc4, kc14, kc19, kn4, kr0_5, kr0_10, kr2_0, kr14_0, ki14_1, ki14_2, hl, c1, c2, c3, c4, c10, c11, c6, c7, c8, c9, hv]
    have t6 := tq_lt (pv A h) 6 (pNn A h) (fun j hj => pv_sz Rh hj) (j + 1) (by omega)
    unfold tq at t6
    refine c_add (Wo_of R) b (by omega) (fun m2 f2 b2 => ?_)
    simp only [o130_37, o130_40, Kn_0, c5]
    exact lp m2 (by omega) (Fx_tr f f2) b2

theorem c_gP {A : Nat → Nat} {h : MH} {Q : MR → MH → Prop} (R : Rl A h) (hQ : ∀ m, Fx (A 20) (A 21) h m → Bd (A 20) (tq (pv A h) (pNn A h)) m → Q (.inl none) m) : Ok 130 0 [.ref (A 0), mk0, mk0] [] h 211 31650 Q := by
  obtain ⟨n, b⟩ := Bd_of R
  have lp := gp_loop R hQ
  obtain ⟨hS, hst⟩ := pSN R
  have Rh := R
  have R0 := R
  obtain ⟨vk, vcn, v0, v1, v2, vp, vl0, vl1, vlr, vsr, vc, tx⟩ := R0
  have vk0 := vk
  have vcn0 := vcn
  (refine K_el vk0 ?_; intros hA kc0 kc1 kc2 kc3 kc4 kc5 kc6 kc7 kc8 kc9 kc10 kc11 kc12 kc13 kc14 kc15 kc16 kc17 kc18 kc19 kc20 kc21 kc22 kc23 kc24 kc25 kc26 kc27 kc28 kc29 kc30 kc31 kc32 kc33 kc34 kc35 kc36 kc37 kc38 kc39 kz kt kn3 kn4 kn18 kn21 kn23 kn24 kn25 kn26 kn27 kn29 kn30 kr0_0 kr0_1 kr0_2 kr0_3 kr0_4 kr0_5 kr0_7 kr0_8 kr0_9 kr0_10 kr1_0 kr2_0 kr5_0 kr5_1 kr6_0 kr6_1 kr7_0 kr7_1 kr8_0 kr9_0 kr10_0 kr11_0 kr12_0 kr13_0 kr14_0 kr15_0 kr16_0 kr17_0 kr19_0 kr19_1 kr22_0 kr22_1 kr22_2 kr22_3 kr22_4 kr22_5 kr22_7 kr22_8 kr25_0 kr25_1 kr25_2 kr26_0 kr26_1 kr26_2 kr29_0 kr29_1)
  (refine Cn_el vcn0 ?_; intros ki5_2 ki6_2 ki7_2 ki8_1 ki8_2 ki8_3 ki9_1 ki9_2 ki9_3 ki10_1 ki10_2 ki10_3 ki11_1 ki11_2 ki11_3 ki12_1 ki12_2 ki12_3 ki13_1 ki13_2 ki13_3 ki14_1 ki14_2 ki14_3 ki28_0 ki28_1 ki31_0 ki31_1 ki32_0 ki32_1 ki33_0 ki33_1 ki34_0 ki34_1 ki35_0 ki35_1 ki36_0 ki36_1)
  have hAe : ∀ i j, i < 40 → j < 40 → (A i = A j ↔ i = j) := hA
  simp only [o130_0, o130_1, o130_4, mcs_0, mrf_some, true_and, Nat.reduceLeDiff, Nat.reduceSub, Nat.zero_le, kc0, kc19, kr0_10]
  refine c_start (Wo_of Rh) b (fun m f b2 => ?_)
  obtain ⟨hl, h14, h0⟩ := gp_same Rh f
  have R := Rl_Fx Rh f b2
  have R0 := R
  obtain ⟨vk, vcn, v0, v1, v2, vp, vl0, vl1, vlr, vsr, vc, tx⟩ := R0
  have vk0 := vk
  have vcn0 := vcn
  (refine K_el vk0 ?_; intros hA kc0 kc1 kc2 kc3 kc4 kc5 kc6 kc7 kc8 kc9 kc10 kc11 kc12 kc13 kc14 kc15 kc16 kc17 kc18 kc19 kc20 kc21 kc22 kc23 kc24 kc25 kc26 kc27 kc28 kc29 kc30 kc31 kc32 kc33 kc34 kc35 kc36 kc37 kc38 kc39 kz kt kn3 kn4 kn18 kn21 kn23 kn24 kn25 kn26 kn27 kn29 kn30 kr0_0 kr0_1 kr0_2 kr0_3 kr0_4 kr0_5 kr0_7 kr0_8 kr0_9 kr0_10 kr1_0 kr2_0 kr5_0 kr5_1 kr6_0 kr6_1 kr7_0 kr7_1 kr8_0 kr9_0 kr10_0 kr11_0 kr12_0 kr13_0 kr14_0 kr15_0 kr16_0 kr17_0 kr19_0 kr19_1 kr22_0 kr22_1 kr22_2 kr22_3 kr22_4 kr22_5 kr22_7 kr22_8 kr25_0 kr25_1 kr25_2 kr26_0 kr26_1 kr26_2 kr29_0 kr29_1)
  (refine Cn_el vcn0 ?_; intros ki5_2 ki6_2 ki7_2 ki8_1 ki8_2 ki8_3 ki9_1 ki9_2 ki9_3 ki10_1 ki10_2 ki10_3 ki11_1 ki11_2 ki11_3 ki12_1 ki12_2 ki12_3 ki13_1 ki13_2 ki13_3 ki14_1 ki14_2 ki14_3 ki28_0 ki28_1 ki31_0 ki31_1 ki32_0 ki32_1 ki33_0 ki33_1 ki34_0 ki34_1 ki35_0 ki35_1 ki36_0 ki36_1)
  have hAe : ∀ i j, i < 40 → j < 40 → (A i = A j ↔ i = j) := hA
  have lp0 := Ok_le (lp (pNn A h) 0 m (by omega) f b2) 210 31500 (by omega) (by omega)
  rw [Nat.add_zero] at lp0
  rcases hst with ⟨z1, z2, z3⟩ | ⟨z1, z3, z4⟩
  · rw [z2] at lp0 z3
    simp only [o130_7, o130_8, o130_11, o130_12, o130_13, o130_16, o132_0, o132_1, o132_4, o132_7, o132_8, o132_11, o132_14, o132_17, o132_18, o132_21, o132_24, o131_0, o131_1, o131_4, o131_7, o131_8, o131_11, o131_14, o131_17, o131_18, mcs_0, Kn_v, Kn_0, mrf_some, true_and, and_true, not_true_eq_false, false_implies, forall_const, Nat.zero_le, kc0, kc14, kr0_5, h14, h0, z1, z3]
    exact lp0
  · simp only [o130_7, o130_8, o130_11, o130_12, o130_13, o130_16, o132_0, o132_1, o132_4, o132_7, o132_8, o132_11, o132_14, o132_17, o132_18, o132_21, o132_24, o131_0, o131_1, o131_4, o131_7, o131_8, o131_11, o131_14, o131_17, o131_18, mcs_0, Kn_v, Kn_0, mrf_some, true_and, not_false_eq_true, false_implies, forall_const, Nat.zero_le, i10, kc0, kc14, kr0_5, h14, h0, z1, z3, z4]
    exact lp0
end

section
set_option maxRecDepth 16384
/-! TEXTS of the reference -/
theorem nSB {h : MH} (hz : g_z h ≤ g_t h) : Bd (g_t h) 0 (p_i (p_r (p_N (p_N h 10 0) 103 16) (g_t h) 0 (some (g_t h + 1))) (g_t h) 1 0) ∧ Fr h (p_i (p_r (p_N (p_N h 10 0) 103 16) (g_t h) 0 (some (g_t h + 1))) (g_t h) 1 0) := by
  have n1 : (g_t h = g_t h + 1) = False := eq_false (by omega)
  refine ⟨⟨?_, hz, ?_, ?_, ?_, g_t h + 1, ?_, ?_, ?_, ?_, ?_, ?_⟩, Fr_pi (Fr_pr (Fr_pN (Fr_pN Fr_rfl)) (Nat.le_refl _)) (Nat.le_refl _)⟩
  all_goals simp only [mc_pi, mc_pr, mc_pN, mn_pi, mn_pr, mn_pN, mi_pi, mi_pr, mi_pN, mr_pi, mr_pr, mr_pN, mt_pi, mt_pr, mt_pN, mz_pi, mz_pr, mz_pN, and_false, if_true, if_false, and_self, Nat.reduceEqDiff, Nat.zero_le, n1]
  · omega
  · rfl
  · omega
  · omega
  · exact Or.inl rfl
theorem Rl_z {A : Nat → Nat} {h : MH} (R : Rl A h) : g_z h ≤ g_t h := Nat.le_trans (R.1.2.2.1.1 0 (by decide)) (Nat.le_of_lt (R.1.2.2.1.2 0 (by decide)))
theorem Rl_ne {A : Nat → Nat} {h : MH} {sb : Nat} (R : Rl A h) (hs : g_t h ≤ sb) {i : Nat} (hi : i < 40) : ¬ A i = sb := fun z => by
  have := R.1.2.2.1.2 i hi
  omega
theorem Rl_at {A : Nat → Nat} {h m : MH} {sb : Nat} (R : Rl A h) (f : Fx sb sb h m) (hs : g_t h ≤ sb) {i : Nat} (hi : i < 40) : (∀ j, g_i m (A i) j = g_i h (A i) j) ∧ (∀ j, g_l m (A i) j = g_l h (A i) j) ∧ ∀ j, g_r m (A i) j = g_r h (A i) j := Fx_at R.1 f hi (Rl_ne R hs hi) (Rl_ne R hs hi)
theorem mt_same0 {A : Nat → Nat} {h m : MH} {sb : Nat} (R : Rl A h) (f : Fx sb sb h m) (hs : g_t h ≤ sb) : (mT m (A 27) 0 (A 31) (A 34)) = (cT h (A 5) (A 8) (A 9)) ∧ ∀ j, j < (lyF (cT h (A 5) (A 8) (A 9))).toNatClampNeg → g_l m (A 23) (1 + ceF (cT h (A 5) (A 8) (A 9)) (Int32.ofNat j)).toNatClampNeg = qv0 A h j ∧ vp_in (1 + ceF (cT h (A 5) (A 8) (A 9)) (Int32.ofNat j)) 16 := by
  have i27 := (Rl_at R f hs (i := 27) (by decide)).1
  have iW := (Rl_at R f hs (i := 31) (by decide)).1
  have iR := (Rl_at R f hs (i := 34) (by decide)).1
  have l23 := (Rl_at R f hs (i := 23) (by decide)).2.1
  obtain ⟨l6, le⟩ := qL6_0 _ R.2.2.1.2
  refine ⟨?_, fun j hj => ?_⟩
  · rw [R.2.2.1.1]
    simp only [mT, i27, iW, iR]
  · obtain ⟨x1, x2, x3⟩ := (qX_0 _ R.2.2.1.2 _ (nmem (j := j) (by omega))).resolve_left (fun z => z (by rw [le, n_lt (by omega) (by omega)]; exact hj))
    refine ⟨?_, x3.2.2⟩
    rw [l23]
    exact (R.2.2.2.2.2.2.2.2.1 _ (rdy_lt x3)).symm
theorem mt_half0 {A : Nat → Nat} {h m : MH} {sb d j n : Nat} {Q : MR → MH → Prop} (R : Rl A h) (C : Cs h) (hs : g_t h ≤ sb) (f : Fx sb sb h m) (b : Bd sb n m) (hj : j < (lyF (cT h (A 5) (A 8) (A 9))).toNatClampNeg) (hn : n + tsz (qv0 A h j) ≤ 142) (hQ : ∀ q, Fx sb sb h q → Bd sb (n + tsz (qv0 A h j)) q → Ok 204 10 [.ref (A 22), .int 0, .ref sb, .int (Int32.ofNat (j + 1))] [] q (2 * d + 2) (300 * d + 154) Q) : Ok 204 34 [.ref (A 22), .int 0, .ref sb, .int (Int32.ofNat j)] [.ref sb] m (2 * d + 3) (300 * d + 304) Q := by
  have Rm := Rl_Fn R f hs hs
  have Cm := Cs_Fx C f (Nat.le_trans (Rl_z R) hs) (Nat.le_trans (Rl_z R) hs)
  obtain ⟨hT, hv⟩ := mt_same0 R f hs
  obtain ⟨hv1, hv2⟩ := hv j hj
  have R0 := Rm
  obtain ⟨vk, vcn, v0, v1, v2, vp, vl0, vl1, vlr, vsr, vc, tx⟩ := R0
  have vk0 := vk
  have vcn0 := vcn
  (refine K_el vk0 ?_; intros hA kc0 kc1 kc2 kc3 kc4 kc5 kc6 kc7 kc8 kc9 kc10 kc11 kc12 kc13 kc14 kc15 kc16 kc17 kc18 kc19 kc20 kc21 kc22 kc23 kc24 kc25 kc26 kc27 kc28 kc29 kc30 kc31 kc32 kc33 kc34 kc35 kc36 kc37 kc38 kc39 kz kt kn3 kn4 kn18 kn21 kn23 kn24 kn25 kn26 kn27 kn29 kn30 kr0_0 kr0_1 kr0_2 kr0_3 kr0_4 kr0_5 kr0_7 kr0_8 kr0_9 kr0_10 kr1_0 kr2_0 kr5_0 kr5_1 kr6_0 kr6_1 kr7_0 kr7_1 kr8_0 kr9_0 kr10_0 kr11_0 kr12_0 kr13_0 kr14_0 kr15_0 kr16_0 kr17_0 kr19_0 kr19_1 kr22_0 kr22_1 kr22_2 kr22_3 kr22_4 kr22_5 kr22_7 kr22_8 kr25_0 kr25_1 kr25_2 kr26_0 kr26_1 kr26_2 kr29_0 kr29_1)
  (refine Cn_el vcn0 ?_; intros ki5_2 ki6_2 ki7_2 ki8_1 ki8_2 ki8_3 ki9_1 ki9_2 ki9_3 ki10_1 ki10_2 ki10_3 ki11_1 ki11_2 ki11_3 ki12_1 ki12_2 ki12_3 ki13_1 ki13_2 ki13_3 ki14_1 ki14_2 ki14_3 ki28_0 ki28_1 ki31_0 ki31_1 ki32_0 ki32_1 ki33_0 ki33_1 ki34_0 ki34_1 ki35_0 ki35_1 ki36_0 ki36_1)
  have hAe : ∀ i j, i < 40 → j < 40 → (A i = A j ↔ i = j) := hA
  have l6 := (qL6_0 _ R.2.2.1.2).1
  have c5 : Int32.ofNat j + 1 = Int32.ofNat (j + 1) := n_add j 1
  have c6 : (1 ≤ 2 * d + 3) = True := eq_true (by omega)
  have c7 : (150 ≤ 300 * d + 304) = True := eq_true (by omega)
  have c8 : 300 * d + 304 - 150 = 300 * d + 154 := by omega
  have c9 : 2 * d + 3 - 1 = 2 * d + 2 := by omega
  simp only [o204_34, o204_35, o204_38, o204_39, o204_40, o204_41, o204_44, o204_45, c_X8_cellOf (x2 := A 25) (x3 := A 26) (a := A 27) (w := A 31) (r := A 34), mcs_0, mcs_r, Kn_v, mrf_some, true_and, and_self, Nat.reduceLeDiff, Nat.reduceAdd, Nat.zero_le, cl0, kc22, kc23, kc25, kc26, kc27, kc31, kc34, kn23, kn25, kn26, kn27, kr22_0, kr22_2, kr22_3, kr22_4, kr25_0, kr26_0, ki34_0, hT, hv1, hv2, c6, c7, c8, c9, vq3, cl0, b.1]
  refine J_apL4 b (Cs_Dt Cm).1 (Cs_Dt Cm).2 hn (fun q f2 b2 => ?_)
  simp only [o204_48, o204_49, o204_52, Kn_v, c5]
  exact hQ q (Fx_tr f f2) b2

theorem mt_loop0 {A : Nat → Nat} {h : MH} {sb : Nat} {Q : MR → MH → Prop} (R : Rl A h) (C : Cs h) (hs : g_t h ≤ sb) (hQ : ∀ q s, Fx sb sb h q → St s (tq (qv0 A h) (lyF (cT h (A 5) (A 8) (A 9))).toNatClampNeg) q → Q (.inl (some (.ref s))) q) : ∀ (d j : Nat) (m : MH), j + d = (lyF (cT h (A 5) (A 8) (A 9))).toNatClampNeg → Fx sb sb h m → Bd sb (tq (qv0 A h) j) m → Ok 204 10 [.ref (A 22), .int 0, .ref sb, .int (Int32.ofNat j)] [] m (2 * d + 2) (300 * d + 154) Q
  | 0, j, m, hj, f, b => by
    have Rm := Rl_Fn R f hs hs
    obtain ⟨hT, -⟩ := mt_same0 R f hs
    obtain ⟨l6, le⟩ := qL6_0 _ R.2.2.1.2
    have hj2 : j = (lyF (cT h (A 5) (A 8) (A 9))).toNatClampNeg := by omega
    rw [← hj2] at le hQ
    have R0 := Rm
    obtain ⟨vk, vcn, v0, v1, v2, vp, vl0, vl1, vlr, vsr, vc, tx⟩ := R0
    have vk0 := vk
    have vcn0 := vcn
    (refine K_el vk0 ?_; intros hA kc0 kc1 kc2 kc3 kc4 kc5 kc6 kc7 kc8 kc9 kc10 kc11 kc12 kc13 kc14 kc15 kc16 kc17 kc18 kc19 kc20 kc21 kc22 kc23 kc24 kc25 kc26 kc27 kc28 kc29 kc30 kc31 kc32 kc33 kc34 kc35 kc36 kc37 kc38 kc39 kz kt kn3 kn4 kn18 kn21 kn23 kn24 kn25 kn26 kn27 kn29 kn30 kr0_0 kr0_1 kr0_2 kr0_3 kr0_4 kr0_5 kr0_7 kr0_8 kr0_9 kr0_10 kr1_0 kr2_0 kr5_0 kr5_1 kr6_0 kr6_1 kr7_0 kr7_1 kr8_0 kr9_0 kr10_0 kr11_0 kr12_0 kr13_0 kr14_0 kr15_0 kr16_0 kr17_0 kr19_0 kr19_1 kr22_0 kr22_1 kr22_2 kr22_3 kr22_4 kr22_5 kr22_7 kr22_8 kr25_0 kr25_1 kr25_2 kr26_0 kr26_1 kr26_2 kr29_0 kr29_1)
    (refine Cn_el vcn0 ?_; intros ki5_2 ki6_2 ki7_2 ki8_1 ki8_2 ki8_3 ki9_1 ki9_2 ki9_3 ki10_1 ki10_2 ki10_3 ki11_1 ki11_2 ki11_3 ki12_1 ki12_2 ki12_3 ki13_1 ki13_2 ki13_3 ki14_1 ki14_2 ki14_3 ki28_0 ki28_1 ki31_0 ki31_1 ki32_0 ki32_1 ki33_0 ki33_1 ki34_0 ki34_1 ki35_0 ki35_1 ki36_0 ki36_1)
    have hAe : ∀ i j, i < 40 → j < 40 → (A i = A j ↔ i = j) := hA
    rw [o204_10]
    simp only [o204_11, o204_12, o204_13, o204_16, o204_55, o204_56, c_X8_liesOf (x2 := A 25) (x3 := A 26) (a := A 27) (w := A 31) (r := A 34), mcs_0, mcs_i, Kn_v, true_and, and_true, not_true_eq_false, not_false_eq_true, false_implies, forall_const, Nat.reduceLeDiff, Nat.reduceAdd, Nat.zero_le, Nat.le_refl, lt_le, cl0, kc22, kc25, kc26, kc27, kc31, kc34, kn25, kn26, kn27, kr22_2, kr22_3, kr22_4, kr25_0, kr26_0, hT, le, n_irr, vq3, cl0, b.1]
    refine J_str b (fun q s f2 t hs2 => ?_)
    simp only [o204_59, Kn_v]
    exact hQ q s (Fx_tr f (Fx_Fr f2)) t
  | d + 1, j, m, hj, f, b => by
    have lp := mt_loop0 R C hs hQ d (j + 1)
    have Rm := Rl_Fn R f hs hs
    have Cm := Cs_Fx C f (Nat.le_trans (Rl_z R) hs) (Nat.le_trans (Rl_z R) hs)
    obtain ⟨hT, -⟩ := mt_same0 R f hs
    obtain ⟨l6, le⟩ := qL6_0 _ R.2.2.1.2
    have R0 := Rm
    obtain ⟨vk, vcn, v0, v1, v2, vp, vl0, vl1, vlr, vsr, vc, tx⟩ := R0
    have vk0 := vk
    have vcn0 := vcn
    (refine K_el vk0 ?_; intros hA kc0 kc1 kc2 kc3 kc4 kc5 kc6 kc7 kc8 kc9 kc10 kc11 kc12 kc13 kc14 kc15 kc16 kc17 kc18 kc19 kc20 kc21 kc22 kc23 kc24 kc25 kc26 kc27 kc28 kc29 kc30 kc31 kc32 kc33 kc34 kc35 kc36 kc37 kc38 kc39 kz kt kn3 kn4 kn18 kn21 kn23 kn24 kn25 kn26 kn27 kn29 kn30 kr0_0 kr0_1 kr0_2 kr0_3 kr0_4 kr0_5 kr0_7 kr0_8 kr0_9 kr0_10 kr1_0 kr2_0 kr5_0 kr5_1 kr6_0 kr6_1 kr7_0 kr7_1 kr8_0 kr9_0 kr10_0 kr11_0 kr12_0 kr13_0 kr14_0 kr15_0 kr16_0 kr17_0 kr19_0 kr19_1 kr22_0 kr22_1 kr22_2 kr22_3 kr22_4 kr22_5 kr22_7 kr22_8 kr25_0 kr25_1 kr25_2 kr26_0 kr26_1 kr26_2 kr29_0 kr29_1)
    (refine Cn_el vcn0 ?_; intros ki5_2 ki6_2 ki7_2 ki8_1 ki8_2 ki8_3 ki9_1 ki9_2 ki9_3 ki10_1 ki10_2 ki10_3 ki11_1 ki11_2 ki11_3 ki12_1 ki12_2 ki12_3 ki13_1 ki13_2 ki13_3 ki14_1 ki14_2 ki14_3 ki28_0 ki28_1 ki31_0 ki31_1 ki32_0 ki32_1 ki33_0 ki33_1 ki34_0 ki34_1 ki35_0 ki35_1 ki36_0 ki36_1)
    have hAe : ∀ i j, i < 40 → j < 40 → (A i = A j ↔ i = j) := hA
    have c1 : (Int32.ofNat j < lyF (cT h (A 5) (A 8) (A 9))) = True := by rw [le, n_lt (by omega) (by omega)]; exact eq_true (by omega)
    have c6 : (1 ≤ 2 * (d + 1) + 2) = True := eq_true (by omega)
    have c7 : (150 ≤ 300 * (d + 1) + 154) = True := eq_true (by omega)
    have c8 : 300 * (d + 1) + 154 - 150 = 300 * d + 304 := by omega
    have c9 : 2 * (d + 1) + 2 - 1 = 2 * d + 3 := by omega
    have t6 := tq_le (qv0 A h) 20 (fun j => tsz_le _) (j + 1)
    unfold tq at t6
    have sp : sep (tq (qv0 A h) j) = if j = 0 then 0 else 1 := by unfold sep; simp only [tq_z]
    rw [sp] at t6
    rw [o204_10]
    by_cases h0 : j = 0
    · have c2 : (Int32.ofNat j = 0) = True := by rw [h0]; decide
      rw [if_pos h0, Nat.add_zero] at t6
      simp only [o204_11, o204_12, o204_13, o204_16, o204_19, o204_20, o204_21, o204_24, o204_26, o204_29, o204_31, c_X8_liesOf (x2 := A 25) (x3 := A 26) (a := A 27) (w := A 31) (r := A 34), mcs_0, mcs_i, Kn_v, true_and, not_true_eq_false, not_false_eq_true, false_implies, forall_const, Nat.reduceLeDiff, Nat.reduceAdd, Nat.zero_le, lt_le, cl0, kc22, kc25, kc26, kc27, kc31, kc34, kn25, kn26, kn27, kr22_2, kr22_3, kr22_4, kr25_0, kr26_0, hT, c1, c2, c6, c7, c8, c9, vq3, cl0, b.1]
      refine J_apS4 b (Cs_St Cm).1 (by decide) (by omega) (fun q f2 b2 => ?_)
      simp only [Kn_v]
      refine mt_half0 R C hs (Fx_tr f f2) b2 (by omega) (by omega) (fun q2 f3 b3 => lp q2 (by omega) f3 ?_)
      unfold tq
      rw [sp, if_pos h0]
      exact b3
    · have c2 : (Int32.ofNat j = 0) = False := eq_false (fun z => by
        have z2 := congrArg Int32.toNatClampNeg z
        rw [n_cl (by omega)] at z2
        exact h0 z2)
      rw [if_neg h0] at t6
      simp only [o204_11, o204_12, o204_13, o204_16, o204_19, o204_20, o204_21, o204_24, o204_26, o204_29, o204_31, c_X8_liesOf (x2 := A 25) (x3 := A 26) (a := A 27) (w := A 31) (r := A 34), mcs_0, mcs_i, Kn_v, true_and, and_true, not_true_eq_false, not_false_eq_true, false_implies, forall_const, Nat.reduceLeDiff, Nat.reduceAdd, Nat.zero_le, lt_le, cl0, kc22, kc25, kc26, kc27, kc31, kc34, kn25, kn26, kn27, kr22_2, kr22_3, kr22_4, kr25_0, kr26_0, hT, c1, c2, c6, c7, c8, c9, vq3, cl0, b.1]
      refine J_apS4 b (Cs_St Cm).2 (by decide) (by omega) (fun q f2 b2 => ?_)
      simp only [Kn_v]
      refine mt_half0 R C hs (Fx_tr f f2) b2 (by omega) (by omega) (fun q2 f3 b3 => lp q2 (by omega) f3 ?_)
      unfold tq
      rw [sp, if_neg h0]
      exact b3

theorem m_textOf0 {A : Nat → Nat} {h : MH} {Q : MR → MH → Prop} (R : Rl A h) (C : Cs h) (hQ : ∀ m s sb, g_t h ≤ sb → Fx sb sb h m → St s (tq (qv0 A h) (lyF (cT h (A 5) (A 8) (A 9))).toNatClampNeg) m → Q (.inl (some (.ref s))) m) : Ok 204 0 [.ref (A 22), .int 0, mk0, mk0] [] h 16 1974 Q := by
  obtain ⟨b, f⟩ := nSB (Rl_z R)
  have l6 := (qL6_0 _ R.2.2.1.2).1
  have lp := mt_loop0 (sb := g_t h) (Q := Q) R C (Nat.le_refl _) (fun q s f2 t => hQ q s (g_t h) (Nat.le_refl _) f2 t) (lyF (cT h (A 5) (A 8) (A 9))).toNatClampNeg 0 _ (by omega) (Fx_Fr f) b
  have n3 := Rl_z R
  simp only [o204_0, o204_3, o204_4, o204_7, o204_8, o204_9, J_init, mc_pN, mt_pN, mz_pN, mcs_0, mcs_r, Kn_0, true_and, if_true, Nat.reduceLeDiff, Nat.reduceSub, Nat.reduceAdd, n3, Nat.lt_succ_self]
  exact Ok_le lp _ _ (by omega) (by omega)

theorem mt_same1 {A : Nat → Nat} {h m : MH} {sb : Nat} (R : Rl A h) (f : Fx sb sb h m) (hs : g_t h ≤ sb) : (mT m (A 27) 1 (A 32) (A 35)) = (cT h (A 6) (A 10) (A 11)) ∧ ∀ j, j < (lyF (cT h (A 6) (A 10) (A 11))).toNatClampNeg → g_l m (A 23) (6 + ceF (cT h (A 6) (A 10) (A 11)) (Int32.ofNat j)).toNatClampNeg = qv1 A h j ∧ vp_in (6 + ceF (cT h (A 6) (A 10) (A 11)) (Int32.ofNat j)) 16 := by
  have i27 := (Rl_at R f hs (i := 27) (by decide)).1
  have iW := (Rl_at R f hs (i := 32) (by decide)).1
  have iR := (Rl_at R f hs (i := 35) (by decide)).1
  have l23 := (Rl_at R f hs (i := 23) (by decide)).2.1
  obtain ⟨l6, le⟩ := qL6_1 _ R.2.2.2.1.2
  refine ⟨?_, fun j hj => ?_⟩
  · rw [R.2.2.2.1.1]
    simp only [mT, i27, iW, iR]
  · obtain ⟨x1, x2, x3⟩ := (qX_1 _ R.2.2.2.1.2 _ (nmem (j := j) (by omega))).resolve_left (fun z => z (by rw [le, n_lt (by omega) (by omega)]; exact hj))
    refine ⟨?_, x3.2.2⟩
    rw [l23]
    exact (R.2.2.2.2.2.2.2.2.1 _ (rdy_lt x3)).symm
theorem mt_half1 {A : Nat → Nat} {h m : MH} {sb d j n : Nat} {Q : MR → MH → Prop} (R : Rl A h) (C : Cs h) (hs : g_t h ≤ sb) (f : Fx sb sb h m) (b : Bd sb n m) (hj : j < (lyF (cT h (A 6) (A 10) (A 11))).toNatClampNeg) (hn : n + tsz (qv1 A h j) ≤ 142) (hQ : ∀ q, Fx sb sb h q → Bd sb (n + tsz (qv1 A h j)) q → Ok 204 10 [.ref (A 22), .int 1, .ref sb, .int (Int32.ofNat (j + 1))] [] q (2 * d + 2) (300 * d + 154) Q) : Ok 204 34 [.ref (A 22), .int 1, .ref sb, .int (Int32.ofNat j)] [.ref sb] m (2 * d + 3) (300 * d + 304) Q := by
  have Rm := Rl_Fn R f hs hs
  have Cm := Cs_Fx C f (Nat.le_trans (Rl_z R) hs) (Nat.le_trans (Rl_z R) hs)
  obtain ⟨hT, hv⟩ := mt_same1 R f hs
  obtain ⟨hv1, hv2⟩ := hv j hj
  have R0 := Rm
  obtain ⟨vk, vcn, v0, v1, v2, vp, vl0, vl1, vlr, vsr, vc, tx⟩ := R0
  have vk0 := vk
  have vcn0 := vcn
  (refine K_el vk0 ?_; intros hA kc0 kc1 kc2 kc3 kc4 kc5 kc6 kc7 kc8 kc9 kc10 kc11 kc12 kc13 kc14 kc15 kc16 kc17 kc18 kc19 kc20 kc21 kc22 kc23 kc24 kc25 kc26 kc27 kc28 kc29 kc30 kc31 kc32 kc33 kc34 kc35 kc36 kc37 kc38 kc39 kz kt kn3 kn4 kn18 kn21 kn23 kn24 kn25 kn26 kn27 kn29 kn30 kr0_0 kr0_1 kr0_2 kr0_3 kr0_4 kr0_5 kr0_7 kr0_8 kr0_9 kr0_10 kr1_0 kr2_0 kr5_0 kr5_1 kr6_0 kr6_1 kr7_0 kr7_1 kr8_0 kr9_0 kr10_0 kr11_0 kr12_0 kr13_0 kr14_0 kr15_0 kr16_0 kr17_0 kr19_0 kr19_1 kr22_0 kr22_1 kr22_2 kr22_3 kr22_4 kr22_5 kr22_7 kr22_8 kr25_0 kr25_1 kr25_2 kr26_0 kr26_1 kr26_2 kr29_0 kr29_1)
  (refine Cn_el vcn0 ?_; intros ki5_2 ki6_2 ki7_2 ki8_1 ki8_2 ki8_3 ki9_1 ki9_2 ki9_3 ki10_1 ki10_2 ki10_3 ki11_1 ki11_2 ki11_3 ki12_1 ki12_2 ki12_3 ki13_1 ki13_2 ki13_3 ki14_1 ki14_2 ki14_3 ki28_0 ki28_1 ki31_0 ki31_1 ki32_0 ki32_1 ki33_0 ki33_1 ki34_0 ki34_1 ki35_0 ki35_1 ki36_0 ki36_1)
  have hAe : ∀ i j, i < 40 → j < 40 → (A i = A j ↔ i = j) := hA
  have l6 := (qL6_1 _ R.2.2.2.1.2).1
  have c5 : Int32.ofNat j + 1 = Int32.ofNat (j + 1) := n_add j 1
  have c6 : (1 ≤ 2 * d + 3) = True := eq_true (by omega)
  have c7 : (150 ≤ 300 * d + 304) = True := eq_true (by omega)
  have c8 : 300 * d + 304 - 150 = 300 * d + 154 := by omega
  have c9 : 2 * d + 3 - 1 = 2 * d + 2 := by omega
  simp only [o204_34, o204_35, o204_38, o204_39, o204_40, o204_41, o204_44, o204_45, c_X8_cellOf (x2 := A 25) (x3 := A 26) (a := A 27) (w := A 32) (r := A 35), mcs_0, mcs_r, Kn_v, mrf_some, true_and, and_self, Nat.reduceLeDiff, Nat.reduceAdd, Nat.zero_le, cl1, kc22, kc23, kc25, kc26, kc27, kc32, kc35, kn23, kn25, kn26, kn27, kr22_0, kr22_2, kr22_3, kr22_4, kr25_1, kr26_1, ki35_0, hT, hv1, hv2, c6, c7, c8, c9, vq3, cl1, b.1]
  refine J_apL4 b (Cs_Dt Cm).1 (Cs_Dt Cm).2 hn (fun q f2 b2 => ?_)
  simp only [o204_48, o204_49, o204_52, Kn_v, c5]
  exact hQ q (Fx_tr f f2) b2

theorem mt_loop1 {A : Nat → Nat} {h : MH} {sb : Nat} {Q : MR → MH → Prop} (R : Rl A h) (C : Cs h) (hs : g_t h ≤ sb) (hQ : ∀ q s, Fx sb sb h q → St s (tq (qv1 A h) (lyF (cT h (A 6) (A 10) (A 11))).toNatClampNeg) q → Q (.inl (some (.ref s))) q) : ∀ (d j : Nat) (m : MH), j + d = (lyF (cT h (A 6) (A 10) (A 11))).toNatClampNeg → Fx sb sb h m → Bd sb (tq (qv1 A h) j) m → Ok 204 10 [.ref (A 22), .int 1, .ref sb, .int (Int32.ofNat j)] [] m (2 * d + 2) (300 * d + 154) Q
  | 0, j, m, hj, f, b => by
    have Rm := Rl_Fn R f hs hs
    obtain ⟨hT, -⟩ := mt_same1 R f hs
    obtain ⟨l6, le⟩ := qL6_1 _ R.2.2.2.1.2
    have hj2 : j = (lyF (cT h (A 6) (A 10) (A 11))).toNatClampNeg := by omega
    rw [← hj2] at le hQ
    have R0 := Rm
    obtain ⟨vk, vcn, v0, v1, v2, vp, vl0, vl1, vlr, vsr, vc, tx⟩ := R0
    have vk0 := vk
    have vcn0 := vcn
    (refine K_el vk0 ?_; intros hA kc0 kc1 kc2 kc3 kc4 kc5 kc6 kc7 kc8 kc9 kc10 kc11 kc12 kc13 kc14 kc15 kc16 kc17 kc18 kc19 kc20 kc21 kc22 kc23 kc24 kc25 kc26 kc27 kc28 kc29 kc30 kc31 kc32 kc33 kc34 kc35 kc36 kc37 kc38 kc39 kz kt kn3 kn4 kn18 kn21 kn23 kn24 kn25 kn26 kn27 kn29 kn30 kr0_0 kr0_1 kr0_2 kr0_3 kr0_4 kr0_5 kr0_7 kr0_8 kr0_9 kr0_10 kr1_0 kr2_0 kr5_0 kr5_1 kr6_0 kr6_1 kr7_0 kr7_1 kr8_0 kr9_0 kr10_0 kr11_0 kr12_0 kr13_0 kr14_0 kr15_0 kr16_0 kr17_0 kr19_0 kr19_1 kr22_0 kr22_1 kr22_2 kr22_3 kr22_4 kr22_5 kr22_7 kr22_8 kr25_0 kr25_1 kr25_2 kr26_0 kr26_1 kr26_2 kr29_0 kr29_1)
    (refine Cn_el vcn0 ?_; intros ki5_2 ki6_2 ki7_2 ki8_1 ki8_2 ki8_3 ki9_1 ki9_2 ki9_3 ki10_1 ki10_2 ki10_3 ki11_1 ki11_2 ki11_3 ki12_1 ki12_2 ki12_3 ki13_1 ki13_2 ki13_3 ki14_1 ki14_2 ki14_3 ki28_0 ki28_1 ki31_0 ki31_1 ki32_0 ki32_1 ki33_0 ki33_1 ki34_0 ki34_1 ki35_0 ki35_1 ki36_0 ki36_1)
    have hAe : ∀ i j, i < 40 → j < 40 → (A i = A j ↔ i = j) := hA
    rw [o204_10]
    simp only [o204_11, o204_12, o204_13, o204_16, o204_55, o204_56, c_X8_liesOf (x2 := A 25) (x3 := A 26) (a := A 27) (w := A 32) (r := A 35), mcs_0, mcs_i, Kn_v, true_and, and_true, not_true_eq_false, not_false_eq_true, false_implies, forall_const, Nat.reduceLeDiff, Nat.reduceAdd, Nat.zero_le, Nat.le_refl, lt_le, cl1, kc22, kc25, kc26, kc27, kc32, kc35, kn25, kn26, kn27, kr22_2, kr22_3, kr22_4, kr25_1, kr26_1, hT, le, n_irr, vq3, cl1, b.1]
    refine J_str b (fun q s f2 t hs2 => ?_)
    simp only [o204_59, Kn_v]
    exact hQ q s (Fx_tr f (Fx_Fr f2)) t
  | d + 1, j, m, hj, f, b => by
    have lp := mt_loop1 R C hs hQ d (j + 1)
    have Rm := Rl_Fn R f hs hs
    have Cm := Cs_Fx C f (Nat.le_trans (Rl_z R) hs) (Nat.le_trans (Rl_z R) hs)
    obtain ⟨hT, -⟩ := mt_same1 R f hs
    obtain ⟨l6, le⟩ := qL6_1 _ R.2.2.2.1.2
    have R0 := Rm
    obtain ⟨vk, vcn, v0, v1, v2, vp, vl0, vl1, vlr, vsr, vc, tx⟩ := R0
    have vk0 := vk
    have vcn0 := vcn
    (refine K_el vk0 ?_; intros hA kc0 kc1 kc2 kc3 kc4 kc5 kc6 kc7 kc8 kc9 kc10 kc11 kc12 kc13 kc14 kc15 kc16 kc17 kc18 kc19 kc20 kc21 kc22 kc23 kc24 kc25 kc26 kc27 kc28 kc29 kc30 kc31 kc32 kc33 kc34 kc35 kc36 kc37 kc38 kc39 kz kt kn3 kn4 kn18 kn21 kn23 kn24 kn25 kn26 kn27 kn29 kn30 kr0_0 kr0_1 kr0_2 kr0_3 kr0_4 kr0_5 kr0_7 kr0_8 kr0_9 kr0_10 kr1_0 kr2_0 kr5_0 kr5_1 kr6_0 kr6_1 kr7_0 kr7_1 kr8_0 kr9_0 kr10_0 kr11_0 kr12_0 kr13_0 kr14_0 kr15_0 kr16_0 kr17_0 kr19_0 kr19_1 kr22_0 kr22_1 kr22_2 kr22_3 kr22_4 kr22_5 kr22_7 kr22_8 kr25_0 kr25_1 kr25_2 kr26_0 kr26_1 kr26_2 kr29_0 kr29_1)
    (refine Cn_el vcn0 ?_; intros ki5_2 ki6_2 ki7_2 ki8_1 ki8_2 ki8_3 ki9_1 ki9_2 ki9_3 ki10_1 ki10_2 ki10_3 ki11_1 ki11_2 ki11_3 ki12_1 ki12_2 ki12_3 ki13_1 ki13_2 ki13_3 ki14_1 ki14_2 ki14_3 ki28_0 ki28_1 ki31_0 ki31_1 ki32_0 ki32_1 ki33_0 ki33_1 ki34_0 ki34_1 ki35_0 ki35_1 ki36_0 ki36_1)
    have hAe : ∀ i j, i < 40 → j < 40 → (A i = A j ↔ i = j) := hA
    have c1 : (Int32.ofNat j < lyF (cT h (A 6) (A 10) (A 11))) = True := by rw [le, n_lt (by omega) (by omega)]; exact eq_true (by omega)
    have c6 : (1 ≤ 2 * (d + 1) + 2) = True := eq_true (by omega)
    have c7 : (150 ≤ 300 * (d + 1) + 154) = True := eq_true (by omega)
    have c8 : 300 * (d + 1) + 154 - 150 = 300 * d + 304 := by omega
    have c9 : 2 * (d + 1) + 2 - 1 = 2 * d + 3 := by omega
    have t6 := tq_le (qv1 A h) 20 (fun j => tsz_le _) (j + 1)
    unfold tq at t6
    have sp : sep (tq (qv1 A h) j) = if j = 0 then 0 else 1 := by unfold sep; simp only [tq_z]
    rw [sp] at t6
    rw [o204_10]
    by_cases h0 : j = 0
    · have c2 : (Int32.ofNat j = 0) = True := by rw [h0]; decide
      rw [if_pos h0, Nat.add_zero] at t6
      simp only [o204_11, o204_12, o204_13, o204_16, o204_19, o204_20, o204_21, o204_24, o204_26, o204_29, o204_31, c_X8_liesOf (x2 := A 25) (x3 := A 26) (a := A 27) (w := A 32) (r := A 35), mcs_0, mcs_i, Kn_v, true_and, not_true_eq_false, not_false_eq_true, false_implies, forall_const, Nat.reduceLeDiff, Nat.reduceAdd, Nat.zero_le, lt_le, cl1, kc22, kc25, kc26, kc27, kc32, kc35, kn25, kn26, kn27, kr22_2, kr22_3, kr22_4, kr25_1, kr26_1, hT, c1, c2, c6, c7, c8, c9, vq3, cl1, b.1]
      refine J_apS4 b (Cs_St Cm).1 (by decide) (by omega) (fun q f2 b2 => ?_)
      simp only [Kn_v]
      refine mt_half1 R C hs (Fx_tr f f2) b2 (by omega) (by omega) (fun q2 f3 b3 => lp q2 (by omega) f3 ?_)
      unfold tq
      rw [sp, if_pos h0]
      exact b3
    · have c2 : (Int32.ofNat j = 0) = False := eq_false (fun z => by
        have z2 := congrArg Int32.toNatClampNeg z
        rw [n_cl (by omega)] at z2
        exact h0 z2)
      rw [if_neg h0] at t6
      simp only [o204_11, o204_12, o204_13, o204_16, o204_19, o204_20, o204_21, o204_24, o204_26, o204_29, o204_31, c_X8_liesOf (x2 := A 25) (x3 := A 26) (a := A 27) (w := A 32) (r := A 35), mcs_0, mcs_i, Kn_v, true_and, and_true, not_true_eq_false, not_false_eq_true, false_implies, forall_const, Nat.reduceLeDiff, Nat.reduceAdd, Nat.zero_le, lt_le, cl1, kc22, kc25, kc26, kc27, kc32, kc35, kn25, kn26, kn27, kr22_2, kr22_3, kr22_4, kr25_1, kr26_1, hT, c1, c2, c6, c7, c8, c9, vq3, cl1, b.1]
      refine J_apS4 b (Cs_St Cm).2 (by decide) (by omega) (fun q f2 b2 => ?_)
      simp only [Kn_v]
      refine mt_half1 R C hs (Fx_tr f f2) b2 (by omega) (by omega) (fun q2 f3 b3 => lp q2 (by omega) f3 ?_)
      unfold tq
      rw [sp, if_neg h0]
      exact b3

theorem m_textOf1 {A : Nat → Nat} {h : MH} {Q : MR → MH → Prop} (R : Rl A h) (C : Cs h) (hQ : ∀ m s sb, g_t h ≤ sb → Fx sb sb h m → St s (tq (qv1 A h) (lyF (cT h (A 6) (A 10) (A 11))).toNatClampNeg) m → Q (.inl (some (.ref s))) m) : Ok 204 0 [.ref (A 22), .int 1, mk0, mk0] [] h 16 1974 Q := by
  obtain ⟨b, f⟩ := nSB (Rl_z R)
  have l6 := (qL6_1 _ R.2.2.2.1.2).1
  have lp := mt_loop1 (sb := g_t h) (Q := Q) R C (Nat.le_refl _) (fun q s f2 t => hQ q s (g_t h) (Nat.le_refl _) f2 t) (lyF (cT h (A 6) (A 10) (A 11))).toNatClampNeg 0 _ (by omega) (Fx_Fr f) b
  have n3 := Rl_z R
  simp only [o204_0, o204_3, o204_4, o204_7, o204_8, o204_9, J_init, mc_pN, mt_pN, mz_pN, mcs_0, mcs_r, Kn_0, true_and, if_true, Nat.reduceLeDiff, Nat.reduceSub, Nat.reduceAdd, n3, Nat.lt_succ_self]
  exact Ok_le lp _ _ (by omega) (by omega)

theorem mt_same2 {A : Nat → Nat} {h m : MH} {sb : Nat} (R : Rl A h) (f : Fx sb sb h m) (hs : g_t h ≤ sb) : (mT m (A 27) 2 (A 33) (A 36)) = (cT h (A 7) (A 12) (A 13)) ∧ ∀ j, j < (lyF (cT h (A 7) (A 12) (A 13))).toNatClampNeg → g_l m (A 23) (9 + ceF (cT h (A 7) (A 12) (A 13)) (Int32.ofNat j)).toNatClampNeg = qv2 A h j ∧ vp_in (9 + ceF (cT h (A 7) (A 12) (A 13)) (Int32.ofNat j)) 16 := by
  have i27 := (Rl_at R f hs (i := 27) (by decide)).1
  have iW := (Rl_at R f hs (i := 33) (by decide)).1
  have iR := (Rl_at R f hs (i := 36) (by decide)).1
  have l23 := (Rl_at R f hs (i := 23) (by decide)).2.1
  obtain ⟨l6, le⟩ := qL6_2 _ R.2.2.2.2.1.2
  refine ⟨?_, fun j hj => ?_⟩
  · rw [R.2.2.2.2.1.1]
    simp only [mT, i27, iW, iR]
  · obtain ⟨x1, x2, x3⟩ := (qX_2 _ R.2.2.2.2.1.2 _ (nmem (j := j) (by omega))).resolve_left (fun z => z (by rw [le, n_lt (by omega) (by omega)]; exact hj))
    refine ⟨?_, x3.2.2⟩
    rw [l23]
    exact (R.2.2.2.2.2.2.2.2.1 _ (rdy_lt x3)).symm
theorem mt_half2 {A : Nat → Nat} {h m : MH} {sb d j n : Nat} {Q : MR → MH → Prop} (R : Rl A h) (C : Cs h) (hs : g_t h ≤ sb) (f : Fx sb sb h m) (b : Bd sb n m) (hj : j < (lyF (cT h (A 7) (A 12) (A 13))).toNatClampNeg) (hn : n + tsz (qv2 A h j) ≤ 142) (hQ : ∀ q, Fx sb sb h q → Bd sb (n + tsz (qv2 A h j)) q → Ok 204 10 [.ref (A 22), .int 2, .ref sb, .int (Int32.ofNat (j + 1))] [] q (2 * d + 2) (300 * d + 154) Q) : Ok 204 34 [.ref (A 22), .int 2, .ref sb, .int (Int32.ofNat j)] [.ref sb] m (2 * d + 3) (300 * d + 304) Q := by
  have Rm := Rl_Fn R f hs hs
  have Cm := Cs_Fx C f (Nat.le_trans (Rl_z R) hs) (Nat.le_trans (Rl_z R) hs)
  obtain ⟨hT, hv⟩ := mt_same2 R f hs
  obtain ⟨hv1, hv2⟩ := hv j hj
  have R0 := Rm
  obtain ⟨vk, vcn, v0, v1, v2, vp, vl0, vl1, vlr, vsr, vc, tx⟩ := R0
  have vk0 := vk
  have vcn0 := vcn
  (refine K_el vk0 ?_; intros hA kc0 kc1 kc2 kc3 kc4 kc5 kc6 kc7 kc8 kc9 kc10 kc11 kc12 kc13 kc14 kc15 kc16 kc17 kc18 kc19 kc20 kc21 kc22 kc23 kc24 kc25 kc26 kc27 kc28 kc29 kc30 kc31 kc32 kc33 kc34 kc35 kc36 kc37 kc38 kc39 kz kt kn3 kn4 kn18 kn21 kn23 kn24 kn25 kn26 kn27 kn29 kn30 kr0_0 kr0_1 kr0_2 kr0_3 kr0_4 kr0_5 kr0_7 kr0_8 kr0_9 kr0_10 kr1_0 kr2_0 kr5_0 kr5_1 kr6_0 kr6_1 kr7_0 kr7_1 kr8_0 kr9_0 kr10_0 kr11_0 kr12_0 kr13_0 kr14_0 kr15_0 kr16_0 kr17_0 kr19_0 kr19_1 kr22_0 kr22_1 kr22_2 kr22_3 kr22_4 kr22_5 kr22_7 kr22_8 kr25_0 kr25_1 kr25_2 kr26_0 kr26_1 kr26_2 kr29_0 kr29_1)
  (refine Cn_el vcn0 ?_; intros ki5_2 ki6_2 ki7_2 ki8_1 ki8_2 ki8_3 ki9_1 ki9_2 ki9_3 ki10_1 ki10_2 ki10_3 ki11_1 ki11_2 ki11_3 ki12_1 ki12_2 ki12_3 ki13_1 ki13_2 ki13_3 ki14_1 ki14_2 ki14_3 ki28_0 ki28_1 ki31_0 ki31_1 ki32_0 ki32_1 ki33_0 ki33_1 ki34_0 ki34_1 ki35_0 ki35_1 ki36_0 ki36_1)
  have hAe : ∀ i j, i < 40 → j < 40 → (A i = A j ↔ i = j) := hA
  have l6 := (qL6_2 _ R.2.2.2.2.1.2).1
  have c5 : Int32.ofNat j + 1 = Int32.ofNat (j + 1) := n_add j 1
  have c6 : (1 ≤ 2 * d + 3) = True := eq_true (by omega)
  have c7 : (150 ≤ 300 * d + 304) = True := eq_true (by omega)
  have c8 : 300 * d + 304 - 150 = 300 * d + 154 := by omega
  have c9 : 2 * d + 3 - 1 = 2 * d + 2 := by omega
  simp only [o204_34, o204_35, o204_38, o204_39, o204_40, o204_41, o204_44, o204_45, c_X8_cellOf (x2 := A 25) (x3 := A 26) (a := A 27) (w := A 33) (r := A 36), mcs_0, mcs_r, Kn_v, mrf_some, true_and, and_self, Nat.reduceLeDiff, Nat.reduceAdd, Nat.zero_le, cl2, kc22, kc23, kc25, kc26, kc27, kc33, kc36, kn23, kn25, kn26, kn27, kr22_0, kr22_2, kr22_3, kr22_4, kr25_2, kr26_2, ki36_0, hT, hv1, hv2, c6, c7, c8, c9, vq3, cl2, b.1]
  refine J_apL4 b (Cs_Dt Cm).1 (Cs_Dt Cm).2 hn (fun q f2 b2 => ?_)
  simp only [o204_48, o204_49, o204_52, Kn_v, c5]
  exact hQ q (Fx_tr f f2) b2

theorem mt_loop2 {A : Nat → Nat} {h : MH} {sb : Nat} {Q : MR → MH → Prop} (R : Rl A h) (C : Cs h) (hs : g_t h ≤ sb) (hQ : ∀ q s, Fx sb sb h q → St s (tq (qv2 A h) (lyF (cT h (A 7) (A 12) (A 13))).toNatClampNeg) q → Q (.inl (some (.ref s))) q) : ∀ (d j : Nat) (m : MH), j + d = (lyF (cT h (A 7) (A 12) (A 13))).toNatClampNeg → Fx sb sb h m → Bd sb (tq (qv2 A h) j) m → Ok 204 10 [.ref (A 22), .int 2, .ref sb, .int (Int32.ofNat j)] [] m (2 * d + 2) (300 * d + 154) Q
  | 0, j, m, hj, f, b => by
    have Rm := Rl_Fn R f hs hs
    obtain ⟨hT, -⟩ := mt_same2 R f hs
    obtain ⟨l6, le⟩ := qL6_2 _ R.2.2.2.2.1.2
    have hj2 : j = (lyF (cT h (A 7) (A 12) (A 13))).toNatClampNeg := by omega
    rw [← hj2] at le hQ
    have R0 := Rm
    obtain ⟨vk, vcn, v0, v1, v2, vp, vl0, vl1, vlr, vsr, vc, tx⟩ := R0
    have vk0 := vk
    have vcn0 := vcn
    (refine K_el vk0 ?_; intros hA kc0 kc1 kc2 kc3 kc4 kc5 kc6 kc7 kc8 kc9 kc10 kc11 kc12 kc13 kc14 kc15 kc16 kc17 kc18 kc19 kc20 kc21 kc22 kc23 kc24 kc25 kc26 kc27 kc28 kc29 kc30 kc31 kc32 kc33 kc34 kc35 kc36 kc37 kc38 kc39 kz kt kn3 kn4 kn18 kn21 kn23 kn24 kn25 kn26 kn27 kn29 kn30 kr0_0 kr0_1 kr0_2 kr0_3 kr0_4 kr0_5 kr0_7 kr0_8 kr0_9 kr0_10 kr1_0 kr2_0 kr5_0 kr5_1 kr6_0 kr6_1 kr7_0 kr7_1 kr8_0 kr9_0 kr10_0 kr11_0 kr12_0 kr13_0 kr14_0 kr15_0 kr16_0 kr17_0 kr19_0 kr19_1 kr22_0 kr22_1 kr22_2 kr22_3 kr22_4 kr22_5 kr22_7 kr22_8 kr25_0 kr25_1 kr25_2 kr26_0 kr26_1 kr26_2 kr29_0 kr29_1)
    (refine Cn_el vcn0 ?_; intros ki5_2 ki6_2 ki7_2 ki8_1 ki8_2 ki8_3 ki9_1 ki9_2 ki9_3 ki10_1 ki10_2 ki10_3 ki11_1 ki11_2 ki11_3 ki12_1 ki12_2 ki12_3 ki13_1 ki13_2 ki13_3 ki14_1 ki14_2 ki14_3 ki28_0 ki28_1 ki31_0 ki31_1 ki32_0 ki32_1 ki33_0 ki33_1 ki34_0 ki34_1 ki35_0 ki35_1 ki36_0 ki36_1)
    have hAe : ∀ i j, i < 40 → j < 40 → (A i = A j ↔ i = j) := hA
    rw [o204_10]
    simp only [o204_11, o204_12, o204_13, o204_16, o204_55, o204_56, c_X8_liesOf (x2 := A 25) (x3 := A 26) (a := A 27) (w := A 33) (r := A 36), mcs_0, mcs_i, Kn_v, true_and, and_true, not_true_eq_false, not_false_eq_true, false_implies, forall_const, Nat.reduceLeDiff, Nat.reduceAdd, Nat.zero_le, Nat.le_refl, lt_le, cl2, kc22, kc25, kc26, kc27, kc33, kc36, kn25, kn26, kn27, kr22_2, kr22_3, kr22_4, kr25_2, kr26_2, hT, le, n_irr, vq3, cl2, b.1]
    refine J_str b (fun q s f2 t hs2 => ?_)
    simp only [o204_59, Kn_v]
    exact hQ q s (Fx_tr f (Fx_Fr f2)) t
  | d + 1, j, m, hj, f, b => by
    have lp := mt_loop2 R C hs hQ d (j + 1)
    have Rm := Rl_Fn R f hs hs
    have Cm := Cs_Fx C f (Nat.le_trans (Rl_z R) hs) (Nat.le_trans (Rl_z R) hs)
    obtain ⟨hT, -⟩ := mt_same2 R f hs
    obtain ⟨l6, le⟩ := qL6_2 _ R.2.2.2.2.1.2
    have R0 := Rm
    obtain ⟨vk, vcn, v0, v1, v2, vp, vl0, vl1, vlr, vsr, vc, tx⟩ := R0
    have vk0 := vk
    have vcn0 := vcn
    (refine K_el vk0 ?_; intros hA kc0 kc1 kc2 kc3 kc4 kc5 kc6 kc7 kc8 kc9 kc10 kc11 kc12 kc13 kc14 kc15 kc16 kc17 kc18 kc19 kc20 kc21 kc22 kc23 kc24 kc25 kc26 kc27 kc28 kc29 kc30 kc31 kc32 kc33 kc34 kc35 kc36 kc37 kc38 kc39 kz kt kn3 kn4 kn18 kn21 kn23 kn24 kn25 kn26 kn27 kn29 kn30 kr0_0 kr0_1 kr0_2 kr0_3 kr0_4 kr0_5 kr0_7 kr0_8 kr0_9 kr0_10 kr1_0 kr2_0 kr5_0 kr5_1 kr6_0 kr6_1 kr7_0 kr7_1 kr8_0 kr9_0 kr10_0 kr11_0 kr12_0 kr13_0 kr14_0 kr15_0 kr16_0 kr17_0 kr19_0 kr19_1 kr22_0 kr22_1 kr22_2 kr22_3 kr22_4 kr22_5 kr22_7 kr22_8 kr25_0 kr25_1 kr25_2 kr26_0 kr26_1 kr26_2 kr29_0 kr29_1)
    (refine Cn_el vcn0 ?_; intros ki5_2 ki6_2 ki7_2 ki8_1 ki8_2 ki8_3 ki9_1 ki9_2 ki9_3 ki10_1 ki10_2 ki10_3 ki11_1 ki11_2 ki11_3 ki12_1 ki12_2 ki12_3 ki13_1 ki13_2 ki13_3 ki14_1 ki14_2 ki14_3 ki28_0 ki28_1 ki31_0 ki31_1 ki32_0 ki32_1 ki33_0 ki33_1 ki34_0 ki34_1 ki35_0 ki35_1 ki36_0 ki36_1)
    have hAe : ∀ i j, i < 40 → j < 40 → (A i = A j ↔ i = j) := hA
    have c1 : (Int32.ofNat j < lyF (cT h (A 7) (A 12) (A 13))) = True := by rw [le, n_lt (by omega) (by omega)]; exact eq_true (by omega)
    have c6 : (1 ≤ 2 * (d + 1) + 2) = True := eq_true (by omega)
    have c7 : (150 ≤ 300 * (d + 1) + 154) = True := eq_true (by omega)
    have c8 : 300 * (d + 1) + 154 - 150 = 300 * d + 304 := by omega
    have c9 : 2 * (d + 1) + 2 - 1 = 2 * d + 3 := by omega
    have t6 := tq_le (qv2 A h) 20 (fun j => tsz_le _) (j + 1)
    unfold tq at t6
    have sp : sep (tq (qv2 A h) j) = if j = 0 then 0 else 1 := by unfold sep; simp only [tq_z]
    rw [sp] at t6
    rw [o204_10]
    by_cases h0 : j = 0
    · have c2 : (Int32.ofNat j = 0) = True := by rw [h0]; decide
      rw [if_pos h0, Nat.add_zero] at t6
      simp only [o204_11, o204_12, o204_13, o204_16, o204_19, o204_20, o204_21, o204_24, o204_26, o204_29, o204_31, c_X8_liesOf (x2 := A 25) (x3 := A 26) (a := A 27) (w := A 33) (r := A 36), mcs_0, mcs_i, Kn_v, true_and, not_true_eq_false, not_false_eq_true, false_implies, forall_const, Nat.reduceLeDiff, Nat.reduceAdd, Nat.zero_le, lt_le, cl2, kc22, kc25, kc26, kc27, kc33, kc36, kn25, kn26, kn27, kr22_2, kr22_3, kr22_4, kr25_2, kr26_2, hT, c1, c2, c6, c7, c8, c9, vq3, cl2, b.1]
      refine J_apS4 b (Cs_St Cm).1 (by decide) (by omega) (fun q f2 b2 => ?_)
      simp only [Kn_v]
      refine mt_half2 R C hs (Fx_tr f f2) b2 (by omega) (by omega) (fun q2 f3 b3 => lp q2 (by omega) f3 ?_)
      unfold tq
      rw [sp, if_pos h0]
      exact b3
    · have c2 : (Int32.ofNat j = 0) = False := eq_false (fun z => by
        have z2 := congrArg Int32.toNatClampNeg z
        rw [n_cl (by omega)] at z2
        exact h0 z2)
      rw [if_neg h0] at t6
      simp only [o204_11, o204_12, o204_13, o204_16, o204_19, o204_20, o204_21, o204_24, o204_26, o204_29, o204_31, c_X8_liesOf (x2 := A 25) (x3 := A 26) (a := A 27) (w := A 33) (r := A 36), mcs_0, mcs_i, Kn_v, true_and, and_true, not_true_eq_false, not_false_eq_true, false_implies, forall_const, Nat.reduceLeDiff, Nat.reduceAdd, Nat.zero_le, lt_le, cl2, kc22, kc25, kc26, kc27, kc33, kc36, kn25, kn26, kn27, kr22_2, kr22_3, kr22_4, kr25_2, kr26_2, hT, c1, c2, c6, c7, c8, c9, vq3, cl2, b.1]
      refine J_apS4 b (Cs_St Cm).2 (by decide) (by omega) (fun q f2 b2 => ?_)
      simp only [Kn_v]
      refine mt_half2 R C hs (Fx_tr f f2) b2 (by omega) (by omega) (fun q2 f3 b3 => lp q2 (by omega) f3 ?_)
      unfold tq
      rw [sp, if_neg h0]
      exact b3

theorem m_textOf2 {A : Nat → Nat} {h : MH} {Q : MR → MH → Prop} (R : Rl A h) (C : Cs h) (hQ : ∀ m s sb, g_t h ≤ sb → Fx sb sb h m → St s (tq (qv2 A h) (lyF (cT h (A 7) (A 12) (A 13))).toNatClampNeg) m → Q (.inl (some (.ref s))) m) : Ok 204 0 [.ref (A 22), .int 2, mk0, mk0] [] h 16 1974 Q := by
  obtain ⟨b, f⟩ := nSB (Rl_z R)
  have l6 := (qL6_2 _ R.2.2.2.2.1.2).1
  have lp := mt_loop2 (sb := g_t h) (Q := Q) R C (Nat.le_refl _) (fun q s f2 t => hQ q s (g_t h) (Nat.le_refl _) f2 t) (lyF (cT h (A 7) (A 12) (A 13))).toNatClampNeg 0 _ (by omega) (Fx_Fr f) b
  have n3 := Rl_z R
  simp only [o204_0, o204_3, o204_4, o204_7, o204_8, o204_9, J_init, mc_pN, mt_pN, mz_pN, mcs_0, mcs_r, Kn_0, true_and, if_true, Nat.reduceLeDiff, Nat.reduceSub, Nat.reduceAdd, n3, Nat.lt_succ_self]
  exact Ok_le lp _ _ (by omega) (by omega)
end

section
set_option maxRecDepth 16384
theorem mp_same {A : Nat → Nat} {h m : MH} {sb : Nat} (R : Rl A h) (f : Fx sb sb h m) (hs : g_t h ≤ sb) : (∀ j, j < pNn A h → isz (g_i m (A 24) (1 + (pS A h + j))) = tsz (pv A h j)) ∧ ((g_i m (A 22) 6 = 0 ∧ pS A h = 0 ∧ g_i m (A 28) 3 = Int32.ofNat (pS A h + pNn A h)) ∨ (g_i m (A 22) 6 = 1 ∧ g_i m (A 28) 3 = Int32.ofNat (pS A h) ∧ g_i m (A 28) 4 = Int32.ofNat (pS A h + pNn A h))) := by
  obtain ⟨i24, -, -⟩ := Rl_at R f hs (i := 24) (by decide)
  obtain ⟨i22, -, -⟩ := Rl_at R f hs (i := 22) (by decide)
  obtain ⟨i28, -, -⟩ := Rl_at R f hs (i := 28) (by decide)
  obtain ⟨hS, hst⟩ := pSN R
  obtain ⟨⟨p1, p2, p3, p4⟩, -⟩ := R.2.2.2.2.2.1
  refine ⟨fun j hj => ?_, ?_⟩
  · rw [i24, ← isz_tsz]
    congr 1
    exact ((R.2.2.2.2.2.2.2.2.2.1 _ (by omega)).1).symm
  · rw [i22, i28, i28, ← p1, ← p2, ← p4]
    exact hst
theorem mp_loop {A : Nat → Nat} {h : MH} {sb : Nat} {Q : MR → MH → Prop} (R : Rl A h) (C : Cs h) (hs : g_t h ≤ sb) (hQ : ∀ q s, Fx sb sb h q → St s (tq (pv A h) (pNn A h)) q → Q (.inl (some (.ref s))) q) : ∀ (d j : Nat) (m : MH), j + d = pNn A h → Fx sb sb h m → Bd sb (tq (pv A h) j) m → Ok 219 29 [.ref (A 22), .ref sb, .int (Int32.ofNat (pS A h)), .int (Int32.ofNat j)] [] m (2 * d + 2) (300 * d + 154) Q
  | 0, j, m, hj, f, b => by
    have Rm := Rl_Fn R f hs hs
    obtain ⟨-, hst⟩ := mp_same R f hs
    have hS := (pSN R).1
    have hj2 : j = pNn A h := by omega
    rw [← hj2] at hst hQ
    have R0 := Rm
    obtain ⟨vk, vcn, v0, v1, v2, vp, vl0, vl1, vlr, vsr, vc, tx⟩ := R0
    have vk0 := vk
    have vcn0 := vcn
    (refine K_el vk0 ?_; intros hA kc0 kc1 kc2 kc3 kc4 kc5 kc6 kc7 kc8 kc9 kc10 kc11 kc12 kc13 kc14 kc15 kc16 kc17 kc18 kc19 kc20 kc21 kc22 kc23 kc24 kc25 kc26 kc27 kc28 kc29 kc30 kc31 kc32 kc33 kc34 kc35 kc36 kc37 kc38 kc39 kz kt kn3 kn4 kn18 kn21 kn23 kn24 kn25 kn26 kn27 kn29 kn30 kr0_0 kr0_1 kr0_2 kr0_3 kr0_4 kr0_5 kr0_7 kr0_8 kr0_9 kr0_10 kr1_0 kr2_0 kr5_0 kr5_1 kr6_0 kr6_1 kr7_0 kr7_1 kr8_0 kr9_0 kr10_0 kr11_0 kr12_0 kr13_0 kr14_0 kr15_0 kr16_0 kr17_0 kr19_0 kr19_1 kr22_0 kr22_1 kr22_2 kr22_3 kr22_4 kr22_5 kr22_7 kr22_8 kr25_0 kr25_1 kr25_2 kr26_0 kr26_1 kr26_2 kr29_0 kr29_1)
    (refine Cn_el vcn0 ?_; intros ki5_2 ki6_2 ki7_2 ki8_1 ki8_2 ki8_3 ki9_1 ki9_2 ki9_3 ki10_1 ki10_2 ki10_3 ki11_1 ki11_2 ki11_3 ki12_1 ki12_2 ki12_3 ki13_1 ki13_2 ki13_3 ki14_1 ki14_2 ki14_3 ki28_0 ki28_1 ki31_0 ki31_1 ki32_0 ki32_1 ki33_0 ki33_1 ki34_0 ki34_1 ki35_0 ki35_1 ki36_0 ki36_1)
    have hAe : ∀ i j, i < 40 → j < 40 → (A i = A j ↔ i = j) := hA
    have e1 : Int32.ofNat (pS A h + j) - Int32.ofNat (pS A h) = Int32.ofNat j := by
      rw [n_sub (by omega) (by omega)]
      congr 1
      omega
    rw [o219_29]
    have go : Ok 219 72 [.ref (A 22), .ref sb, .int (Int32.ofNat (pS A h)), .int (Int32.ofNat j)] [] m 2 154 Q := by
      simp only [o219_72, o219_73, mcs_0, true_and, Nat.reduceSub, Nat.zero_le, Nat.le_refl, b.1]
      refine J_str b (fun q s f2 t hs2 => ?_)
      simp only [o219_76, Kn_v]
      exact hQ q s (Fx_tr f (Fx_Fr f2)) t
    rcases hst with ⟨z1, z2, z3⟩ | ⟨z1, z3, z4⟩
    · rw [z2, Nat.zero_add] at z3
      simp only [o219_30, o219_31, o219_34, o217_0, o217_1, o217_4, o217_7, o217_8, o217_11, o217_14, o217_17, o217_18, o217_21, o217_24, c_X7_rests, mcs_0, mcs_i, Kn_v, mrf_some, true_and, and_true, not_true_eq_false, not_false_eq_true, false_implies, forall_const, Nat.reduceLeDiff, Nat.reduceAdd, Nat.zero_le, lt_le, Classical.not_not, kc22, kc28, kr22_5, z1, z3, n_irr]
      exact go
    · simp only [o219_30, o219_31, o219_34, o217_0, o217_1, o217_4, o217_7, o217_8, o217_11, o217_14, o217_17, o217_18, o217_21, o217_24, c_X7_rests, mcs_0, mcs_i, Kn_v, mrf_some, true_and, and_true, not_true_eq_false, not_false_eq_true, false_implies, forall_const, Nat.reduceLeDiff, Nat.reduceAdd, Nat.zero_le, i10, lt_le, Classical.not_not, kc22, kc28, kr22_5, z1, z3, z4, e1, n_irr]
      exact go
  | d + 1, j, m, hj, f, b => by
    have lp := mp_loop R C hs hQ d (j + 1)
    have Rm := Rl_Fn R f hs hs
    have Cm := Cs_Fx C f (Nat.le_trans (Rl_z R) hs) (Nat.le_trans (Rl_z R) hs)
    obtain ⟨-, hst⟩ := mp_same R f hs
    have hS := (pSN R).1
    have R0 := Rm
    obtain ⟨vk, vcn, v0, v1, v2, vp, vl0, vl1, vlr, vsr, vc, tx⟩ := R0
    have vk0 := vk
    have vcn0 := vcn
    (refine K_el vk0 ?_; intros hA kc0 kc1 kc2 kc3 kc4 kc5 kc6 kc7 kc8 kc9 kc10 kc11 kc12 kc13 kc14 kc15 kc16 kc17 kc18 kc19 kc20 kc21 kc22 kc23 kc24 kc25 kc26 kc27 kc28 kc29 kc30 kc31 kc32 kc33 kc34 kc35 kc36 kc37 kc38 kc39 kz kt kn3 kn4 kn18 kn21 kn23 kn24 kn25 kn26 kn27 kn29 kn30 kr0_0 kr0_1 kr0_2 kr0_3 kr0_4 kr0_5 kr0_7 kr0_8 kr0_9 kr0_10 kr1_0 kr2_0 kr5_0 kr5_1 kr6_0 kr6_1 kr7_0 kr7_1 kr8_0 kr9_0 kr10_0 kr11_0 kr12_0 kr13_0 kr14_0 kr15_0 kr16_0 kr17_0 kr19_0 kr19_1 kr22_0 kr22_1 kr22_2 kr22_3 kr22_4 kr22_5 kr22_7 kr22_8 kr25_0 kr25_1 kr25_2 kr26_0 kr26_1 kr26_2 kr29_0 kr29_1)
    (refine Cn_el vcn0 ?_; intros ki5_2 ki6_2 ki7_2 ki8_1 ki8_2 ki8_3 ki9_1 ki9_2 ki9_3 ki10_1 ki10_2 ki10_3 ki11_1 ki11_2 ki11_3 ki12_1 ki12_2 ki12_3 ki13_1 ki13_2 ki13_3 ki14_1 ki14_2 ki14_3 ki28_0 ki28_1 ki31_0 ki31_1 ki32_0 ki32_1 ki33_0 ki33_1 ki34_0 ki34_1 ki35_0 ki35_1 ki36_0 ki36_1)
    have hAe : ∀ i j, i < 40 → j < 40 → (A i = A j ↔ i = j) := hA
    have c1 : (Int32.ofNat j < Int32.ofNat (pNn A h)) = True := by rw [n_lt (by omega) (by omega)]; exact eq_true (by omega)
    have e1 : Int32.ofNat (pS A h + pNn A h) - Int32.ofNat (pS A h) = Int32.ofNat (pNn A h) := by
      rw [n_sub (by omega) (by omega)]
      congr 1
      omega
    have c6 : (1 ≤ 2 * (d + 1) + 2) = True := eq_true (by omega)
    have c7 : (150 ≤ 300 * (d + 1) + 154) = True := eq_true (by omega)
    have c8 : 300 * (d + 1) + 154 - 150 = 300 * d + 304 := by omega
    have c9 : 2 * (d + 1) + 2 - 1 = 2 * d + 3 := by omega
    have t6 := tq_lt (pv A h) 6 (pNn A h) (fun j hj => pv_sz R hj) (j + 1) (by omega)
    unfold tq at t6
    have sp : sep (tq (pv A h) j) = if j = 0 then 0 else 1 := by unfold sep; simp only [tq_z]
    rw [sp] at t6
    have half : ∀ (q : MH) (n : Nat), Fx sb sb h q → Bd sb n q → n + tsz (pv A h j) ≤ 142 → (∀ q2, Fx sb sb h q2 → Bd sb (n + tsz (pv A h j)) q2 → Ok 219 29 [.ref (A 22), .ref sb, .int (Int32.ofNat (pS A h)), .int (Int32.ofNat (j + 1))] [] q2 (2 * d + 2) (300 * d + 154) Q) → Ok 219 52 [.ref (A 22), .ref sb, .int (Int32.ofNat (pS A h)), .int (Int32.ofNat j)] [.ref sb] q (2 * d + 3) (300 * d + 304) Q := by
      intro q n f2 b2 hn hQ2
      have Rm := Rl_Fn R f2 hs hs
      have Cm := Cs_Fx C f2 (Nat.le_trans (Rl_z R) hs) (Nat.le_trans (Rl_z R) hs)
      have hv := (mp_same R f2 hs).1 j (by omega)
      have R0 := Rm
      obtain ⟨vk, vcn, v0, v1, v2, vp, vl0, vl1, vlr, vsr, vc, tx⟩ := R0
      have vk0 := vk
      have vcn0 := vcn
      (refine K_el vk0 ?_; intros hA kc0 kc1 kc2 kc3 kc4 kc5 kc6 kc7 kc8 kc9 kc10 kc11 kc12 kc13 kc14 kc15 kc16 kc17 kc18 kc19 kc20 kc21 kc22 kc23 kc24 kc25 kc26 kc27 kc28 kc29 kc30 kc31 kc32 kc33 kc34 kc35 kc36 kc37 kc38 kc39 kz kt kn3 kn4 kn18 kn21 kn23 kn24 kn25 kn26 kn27 kn29 kn30 kr0_0 kr0_1 kr0_2 kr0_3 kr0_4 kr0_5 kr0_7 kr0_8 kr0_9 kr0_10 kr1_0 kr2_0 kr5_0 kr5_1 kr6_0 kr6_1 kr7_0 kr7_1 kr8_0 kr9_0 kr10_0 kr11_0 kr12_0 kr13_0 kr14_0 kr15_0 kr16_0 kr17_0 kr19_0 kr19_1 kr22_0 kr22_1 kr22_2 kr22_3 kr22_4 kr22_5 kr22_7 kr22_8 kr25_0 kr25_1 kr25_2 kr26_0 kr26_1 kr26_2 kr29_0 kr29_1)
      (refine Cn_el vcn0 ?_; intros ki5_2 ki6_2 ki7_2 ki8_1 ki8_2 ki8_3 ki9_1 ki9_2 ki9_3 ki10_1 ki10_2 ki10_3 ki11_1 ki11_2 ki11_3 ki12_1 ki12_2 ki12_3 ki13_1 ki13_2 ki13_3 ki14_1 ki14_2 ki14_3 ki28_0 ki28_1 ki31_0 ki31_1 ki32_0 ki32_1 ki33_0 ki33_1 ki34_0 ki34_1 ki35_0 ki35_1 ki36_0 ki36_1)
      have hAe : ∀ i j, i < 40 → j < 40 → (A i = A j ↔ i = j) := hA
      have c5 : Int32.ofNat j + 1 = Int32.ofNat (j + 1) := n_add j 1
      have c6 : (1 ≤ 2 * d + 3) = True := eq_true (by omega)
      have c7 : (150 ≤ 300 * d + 304) = True := eq_true (by omega)
      have c8 : 300 * d + 304 - 150 = 300 * d + 154 := by omega
      have c9 : 2 * d + 3 - 1 = 2 * d + 2 := by omega
      have c10 : 1 + Int32.ofNat (pS A h) + Int32.ofNat j = Int32.ofNat (1 + (pS A h + j)) := by
        rw [show (1 : Int32) = Int32.ofNat 1 from rfl, n_add, n_add, Nat.add_assoc]
      have c11 : vp_in (Int32.ofNat (1 + (pS A h + j))) 36 := vp_of (by omega) (by omega)
      have c12 : (Int32.ofNat (1 + (pS A h + j))).toNatClampNeg = 1 + (pS A h + j) := n_cl (by omega)
      simp only [o219_52, o219_53, o219_56, o219_57, o219_58, o219_59, o219_60, o219_61, o219_62, mcs_0, mrf_some, true_and, and_self, Nat.zero_le, kc22, kc24, kn24, kr22_1, c10, c11, c12, c6, c7, c8, c9, b2.1]
      refine J_apI4 b2 (Cs_Dt Cm).1 (Cs_Dt Cm).2 (by rw [hv]; exact hn) (fun q3 f3 b3 => ?_)
      simp only [o219_65, o219_66, o219_69, Kn_v, c5]
      rw [hv] at b3
      exact hQ2 q3 (Fx_tr f2 f3) b3
    rw [o219_29]
    by_cases h0 : j = 0
    · have c2 : (Int32.ofNat j = 0) = True := by rw [h0]; decide
      rw [if_pos h0, Nat.add_zero] at t6
      have go : Ok 219 37 [.ref (A 22), .ref sb, .int (Int32.ofNat (pS A h)), .int (Int32.ofNat j)] [] m (2 * (d + 1) + 2) (300 * (d + 1) + 154) Q := by
        simp only [o219_37, o219_38, o219_39, o219_42, o219_44, o219_47, o219_49, mcs_0, true_and, not_true_eq_false, false_implies, forall_const, Nat.zero_le, c2, c6, c7, c8, c9, b.1]
        refine J_apS4 b (Cs_St Cm).1 (by decide) (by omega) (fun q f2 b2 => ?_)
        simp only [Kn_v]
        refine half q _ (Fx_tr f f2) b2 (by omega) (fun q2 f3 b3 => lp q2 (by omega) f3 ?_)
        unfold tq
        rw [sp, if_pos h0]
        exact b3
      rcases hst with ⟨z1, z2, z3⟩ | ⟨z1, z3, z4⟩
      · rw [z2, Nat.zero_add] at z3
        simp only [o219_30, o219_31, o219_34, o217_0, o217_1, o217_4, o217_7, o217_8, o217_11, o217_14, o217_17, o217_18, o217_21, o217_24, c_X7_rests, mcs_0, mcs_i, Kn_v, mrf_some, true_and, and_true, not_true_eq_false, not_false_eq_true, false_implies, forall_const, Nat.reduceLeDiff, Nat.reduceAdd, Nat.zero_le, lt_le, Classical.not_not, kc22, kc28, kr22_5, z1, z3, c1]
        exact go
      · simp only [o219_30, o219_31, o219_34, o217_0, o217_1, o217_4, o217_7, o217_8, o217_11, o217_14, o217_17, o217_18, o217_21, o217_24, c_X7_rests, mcs_0, mcs_i, Kn_v, mrf_some, true_and, not_true_eq_false, not_false_eq_true, false_implies, forall_const, Nat.reduceLeDiff, Nat.reduceAdd, Nat.zero_le, i10, lt_le, Classical.not_not, kc22, kc28, kr22_5, z1, z3, z4, e1, c1]
        exact go
    · have c2 : (Int32.ofNat j = 0) = False := eq_false (fun z => by
        have z2 := congrArg Int32.toNatClampNeg z
        rw [n_cl (by omega)] at z2
        exact h0 z2)
      rw [if_neg h0] at t6
      have go : Ok 219 37 [.ref (A 22), .ref sb, .int (Int32.ofNat (pS A h)), .int (Int32.ofNat j)] [] m (2 * (d + 1) + 2) (300 * (d + 1) + 154) Q := by
        simp only [o219_37, o219_38, o219_39, o219_42, o219_44, o219_47, o219_49, mcs_0, true_and, and_true, not_false_eq_true, false_implies, forall_const, Nat.zero_le, c2, c6, c7, c8, c9, b.1]
        refine J_apS4 b (Cs_St Cm).2 (by decide) (by omega) (fun q f2 b2 => ?_)
        simp only [Kn_v]
        refine half q _ (Fx_tr f f2) b2 (by omega) (fun q2 f3 b3 => lp q2 (by omega) f3 ?_)
        unfold tq
        rw [sp, if_neg h0]
        exact b3
      rcases hst with ⟨z1, z2, z3⟩ | ⟨z1, z3, z4⟩
      · rw [z2, Nat.zero_add] at z3
        simp only [o219_30, o219_31, o219_34, o217_0, o217_1, o217_4, o217_7, o217_8, o217_11, o217_14, o217_17, o217_18, o217_21, o217_24, c_X7_rests, mcs_0, mcs_i, Kn_v, mrf_some, true_and, and_true, not_true_eq_false, not_false_eq_true, false_implies, forall_const, Nat.reduceLeDiff, Nat.reduceAdd, Nat.zero_le, lt_le, Classical.not_not, kc22, kc28, kr22_5, z1, z3, c1]
        exact go
      · simp only [o219_30, o219_31, o219_34, o217_0, o217_1, o217_4, o217_7, o217_8, o217_11, o217_14, o217_17, o217_18, o217_21, o217_24, c_X7_rests, mcs_0, mcs_i, Kn_v, mrf_some, true_and, not_true_eq_false, not_false_eq_true, false_implies, forall_const, Nat.reduceLeDiff, Nat.reduceAdd, Nat.zero_le, i10, lt_le, Classical.not_not, kc22, kc28, kr22_5, z1, z3, z4, e1, c1]
        exact go

theorem m_pipeTextNow {A : Nat → Nat} {h : MH} {Q : MR → MH → Prop} (R : Rl A h) (C : Cs h) (hQ : ∀ m s sb, g_t h ≤ sb → Fx sb sb h m → St s (tq (pv A h) (pNn A h)) m → Q (.inl (some (.ref s))) m) : Ok 219 0 [.ref (A 22), mk0, mk0, mk0] [] h 24 3174 Q := by
  obtain ⟨b, f⟩ := nSB (Rl_z R)
  have hS := (pSN R).1
  have lp := Ok_le (mp_loop (sb := g_t h) (Q := Q) R C (Nat.le_refl _) (fun q s f2 t => hQ q s (g_t h) (Nat.le_refl _) f2 t) (pNn A h) 0 _ (by omega) (Fx_Fr f) b) 22 3154 (by omega) (by omega)
  obtain ⟨-, hst⟩ := mp_same R (Fx_Fr f : Fx (g_t h) (g_t h) h _) (Nat.le_refl _)
  have Rm := Rl_Fr R f
  have n3 := Rl_z R
  have RH := R
  have R0 := R
  obtain ⟨vk, vcn, v0, v1, v2, vp, vl0, vl1, vlr, vsr, vc, tx⟩ := R0
  have vk0 := vk
  have vcn0 := vcn
  (refine K_el vk0 ?_; intros hA kc0 kc1 kc2 kc3 kc4 kc5 kc6 kc7 kc8 kc9 kc10 kc11 kc12 kc13 kc14 kc15 kc16 kc17 kc18 kc19 kc20 kc21 kc22 kc23 kc24 kc25 kc26 kc27 kc28 kc29 kc30 kc31 kc32 kc33 kc34 kc35 kc36 kc37 kc38 kc39 kz kt kn3 kn4 kn18 kn21 kn23 kn24 kn25 kn26 kn27 kn29 kn30 kr0_0 kr0_1 kr0_2 kr0_3 kr0_4 kr0_5 kr0_7 kr0_8 kr0_9 kr0_10 kr1_0 kr2_0 kr5_0 kr5_1 kr6_0 kr6_1 kr7_0 kr7_1 kr8_0 kr9_0 kr10_0 kr11_0 kr12_0 kr13_0 kr14_0 kr15_0 kr16_0 kr17_0 kr19_0 kr19_1 kr22_0 kr22_1 kr22_2 kr22_3 kr22_4 kr22_5 kr22_7 kr22_8 kr25_0 kr25_1 kr25_2 kr26_0 kr26_1 kr26_2 kr29_0 kr29_1)
  (refine Cn_el vcn0 ?_; intros ki5_2 ki6_2 ki7_2 ki8_1 ki8_2 ki8_3 ki9_1 ki9_2 ki9_3 ki10_1 ki10_2 ki10_3 ki11_1 ki11_2 ki11_3 ki12_1 ki12_2 ki12_3 ki13_1 ki13_2 ki13_3 ki14_1 ki14_2 ki14_3 ki28_0 ki28_1 ki31_0 ki31_1 ki32_0 ki32_1 ki33_0 ki33_1 ki34_0 ki34_1 ki35_0 ki35_1 ki36_0 ki36_1)
  have hAe : ∀ i j, i < 40 → j < 40 → (A i = A j ↔ i = j) := hA
  have nt : ∀ i, i < 40 → (A i = g_t h) = False := fun i hi => eq_false (fun z => by have := kt i hi; omega)
  have nt2 : ∀ i, i < 40 → (A i = g_t h + 1) = False := fun i hi => eq_false (fun z => by have := kt i hi; omega)
  simp only [mi_pi, mi_pr, mi_pN, mt_pN, if_false, and_self, Nat.reduceEqDiff, nt, nt2, Nat.reduceLT] at hst
  rcases hst with ⟨z1, z2, z3⟩ | ⟨z1, z3, z4⟩
  · rw [z2] at lp
    simp only [o219_0, o219_3, o219_4, o219_7, o219_8, o219_9, o219_12, o219_15, o219_16, o219_19, o219_22, o219_25, o219_26, o219_27, o219_28, J_init, mc_pi, mc_pr, mc_pN, mi_pi, mi_pr, mi_pN, mr_pi, mr_pr, mr_pN, mt_pN, mz_pN, mcs_0, mcs_r, Kn_0, mrf_some, true_and, and_true, not_true_eq_false, false_implies, forall_const, if_true, if_false, and_self, Nat.reduceEqDiff, Nat.reduceLeDiff, Nat.reduceSub, Nat.reduceAdd, kc22, kc28, kr22_5, n3, Nat.lt_succ_self, nt, nt2, Nat.reduceLT, z1]
    exact lp
  · simp only [o219_0, o219_3, o219_4, o219_7, o219_8, o219_9, o219_12, o219_15, o219_16, o219_19, o219_22, o219_25, o219_26, o219_27, o219_28, J_init, mc_pi, mc_pr, mc_pN, mi_pi, mi_pr, mi_pN, mr_pi, mr_pr, mr_pN, mt_pN, mz_pN, mcs_0, mcs_r, Kn_0, mrf_some, true_and, not_false_eq_true, false_implies, forall_const, if_true, if_false, and_self, Nat.reduceEqDiff, Nat.reduceLeDiff, Nat.reduceSub, Nat.reduceAdd, i10, kc22, kc28, kr22_5, n3, Nat.lt_succ_self, nt, nt2, Nat.reduceLT, z1, z3]
    exact lp
end

section
set_option maxRecDepth 16384
/-! THE OPS of the texts -/
theorem c_textOf {A : Nat → Nat} {h : MH} {v : Int64} {Q : MR → MH → Prop} (R : Rl A h) (hQ : ∀ m s, Rl A m → Q (.inl (some (.ref s))) m) : Ok 128 0 [.ref (A 0), .long v, mk0] [] h 24 3454 Q := by
  obtain ⟨n, b⟩ := Bd_of R
  have R0 := R
  obtain ⟨vk, vcn, v0, v1, v2, vp, vl0, vl1, vlr, vsr, vc, tx⟩ := R0
  have vk0 := vk
  have vcn0 := vcn
  (refine K_el vk0 ?_; intros hA kc0 kc1 kc2 kc3 kc4 kc5 kc6 kc7 kc8 kc9 kc10 kc11 kc12 kc13 kc14 kc15 kc16 kc17 kc18 kc19 kc20 kc21 kc22 kc23 kc24 kc25 kc26 kc27 kc28 kc29 kc30 kc31 kc32 kc33 kc34 kc35 kc36 kc37 kc38 kc39 kz kt kn3 kn4 kn18 kn21 kn23 kn24 kn25 kn26 kn27 kn29 kn30 kr0_0 kr0_1 kr0_2 kr0_3 kr0_4 kr0_5 kr0_7 kr0_8 kr0_9 kr0_10 kr1_0 kr2_0 kr5_0 kr5_1 kr6_0 kr6_1 kr7_0 kr7_1 kr8_0 kr9_0 kr10_0 kr11_0 kr12_0 kr13_0 kr14_0 kr15_0 kr16_0 kr17_0 kr19_0 kr19_1 kr22_0 kr22_1 kr22_2 kr22_3 kr22_4 kr22_5 kr22_7 kr22_8 kr25_0 kr25_1 kr25_2 kr26_0 kr26_1 kr26_2 kr29_0 kr29_1)
  (refine Cn_el vcn0 ?_; intros ki5_2 ki6_2 ki7_2 ki8_1 ki8_2 ki8_3 ki9_1 ki9_2 ki9_3 ki10_1 ki10_2 ki10_3 ki11_1 ki11_2 ki11_3 ki12_1 ki12_2 ki12_3 ki13_1 ki13_2 ki13_3 ki14_1 ki14_2 ki14_3 ki28_0 ki28_1 ki31_0 ki31_1 ki32_0 ki32_1 ki33_0 ki33_1 ki34_0 ki34_1 ki35_0 ki35_1 ki36_0 ki36_1)
  have hAe : ∀ i j, i < 40 → j < 40 → (A i = A j ↔ i = j) := hA
  simp only [o128_0, o128_1, o128_4, mcs_0, mrf_some, true_and, Nat.reduceLeDiff, Nat.reduceSub, Nat.zero_le, kc0, kc19, kr0_10]
  refine c_start (Wo_of R) b (fun m f b2 => ?_)
  have R2 := Rl_Fx R f b2
  have R0 := R2
  obtain ⟨vk, vcn, v0, v1, v2, vp, vl0, vl1, vlr, vsr, vc, tx⟩ := R0
  have vk0 := vk
  have vcn0 := vcn
  (refine K_el vk0 ?_; intros hA kc0 kc1 kc2 kc3 kc4 kc5 kc6 kc7 kc8 kc9 kc10 kc11 kc12 kc13 kc14 kc15 kc16 kc17 kc18 kc19 kc20 kc21 kc22 kc23 kc24 kc25 kc26 kc27 kc28 kc29 kc30 kc31 kc32 kc33 kc34 kc35 kc36 kc37 kc38 kc39 kz kt kn3 kn4 kn18 kn21 kn23 kn24 kn25 kn26 kn27 kn29 kn30 kr0_0 kr0_1 kr0_2 kr0_3 kr0_4 kr0_5 kr0_7 kr0_8 kr0_9 kr0_10 kr1_0 kr2_0 kr5_0 kr5_1 kr6_0 kr6_1 kr7_0 kr7_1 kr8_0 kr9_0 kr10_0 kr11_0 kr12_0 kr13_0 kr14_0 kr15_0 kr16_0 kr17_0 kr19_0 kr19_1 kr22_0 kr22_1 kr22_2 kr22_3 kr22_4 kr22_5 kr22_7 kr22_8 kr25_0 kr25_1 kr25_2 kr26_0 kr26_1 kr26_2 kr29_0 kr29_1)
  (refine Cn_el vcn0 ?_; intros ki5_2 ki6_2 ki7_2 ki8_1 ki8_2 ki8_3 ki9_1 ki9_2 ki9_3 ki10_1 ki10_2 ki10_3 ki11_1 ki11_2 ki11_3 ki12_1 ki12_2 ki12_3 ki13_1 ki13_2 ki13_3 ki14_1 ki14_2 ki14_3 ki28_0 ki28_1 ki31_0 ki31_1 ki32_0 ki32_1 ki33_0 ki33_1 ki34_0 ki34_1 ki35_0 ki35_1 ki36_0 ki36_1)
  have hAe : ∀ i j, i < 40 → j < 40 → (A i = A j ↔ i = j) := hA
  simp only [o128_7, o128_8, o128_11, o128_12, mcs_0, Kn_0, mrf_some, true_and, Nat.reduceLeDiff, Nat.reduceSub, Nat.zero_le, kc0, kc19, kr0_10]
  refine c_add (Wo_of R2) b2 (by have := tsz_le v; unfold sep; split <;> omega) (fun m2 f2 b3 => ?_)
  have R3 := Rl_Fx R2 f2 b3
  have R0 := R3
  obtain ⟨vk, vcn, v0, v1, v2, vp, vl0, vl1, vlr, vsr, vc, tx⟩ := R0
  have vk0 := vk
  have vcn0 := vcn
  (refine K_el vk0 ?_; intros hA kc0 kc1 kc2 kc3 kc4 kc5 kc6 kc7 kc8 kc9 kc10 kc11 kc12 kc13 kc14 kc15 kc16 kc17 kc18 kc19 kc20 kc21 kc22 kc23 kc24 kc25 kc26 kc27 kc28 kc29 kc30 kc31 kc32 kc33 kc34 kc35 kc36 kc37 kc38 kc39 kz kt kn3 kn4 kn18 kn21 kn23 kn24 kn25 kn26 kn27 kn29 kn30 kr0_0 kr0_1 kr0_2 kr0_3 kr0_4 kr0_5 kr0_7 kr0_8 kr0_9 kr0_10 kr1_0 kr2_0 kr5_0 kr5_1 kr6_0 kr6_1 kr7_0 kr7_1 kr8_0 kr9_0 kr10_0 kr11_0 kr12_0 kr13_0 kr14_0 kr15_0 kr16_0 kr17_0 kr19_0 kr19_1 kr22_0 kr22_1 kr22_2 kr22_3 kr22_4 kr22_5 kr22_7 kr22_8 kr25_0 kr25_1 kr25_2 kr26_0 kr26_1 kr26_2 kr29_0 kr29_1)
  (refine Cn_el vcn0 ?_; intros ki5_2 ki6_2 ki7_2 ki8_1 ki8_2 ki8_3 ki9_1 ki9_2 ki9_3 ki10_1 ki10_2 ki10_3 ki11_1 ki11_2 ki11_3 ki12_1 ki12_2 ki12_3 ki13_1 ki13_2 ki13_3 ki14_1 ki14_2 ki14_3 ki28_0 ki28_1 ki31_0 ki31_1 ki32_0 ki32_1 ki33_0 ki33_1 ki34_0 ki34_1 ki35_0 ki35_1 ki36_0 ki36_1)
  have hAe : ∀ i j, i < 40 → j < 40 → (A i = A j ↔ i = j) := hA
  simp only [o128_15, o128_16, o128_19, mcs_0, Kn_0, mrf_some, true_and, Nat.reduceSub, Nat.zero_le, Nat.le_refl, kc0, kc19, kr0_10]
  refine c_joined (Wo_of R3) b3 (fun m3 s f3 t hs => ?_)
  simp only [o128_22, Kn_v]
  exact hQ m3 s (Rl_Fr R3 f3)

theorem hx_294_1 {l rest : List Value} {bc bs : Nat} {Q : MR → MH → Prop} {h : MH} : Kc Ok 294 3 6 l rest bc bs Q (.inr 1) h ↔ ∀ q : Nat, Ok 294 12 l [.ref q] h bc bs Q := Kc_x (by decide +kernel) (by decide +kernel)
theorem x_slotText {A : Nat → Nat} {h : MH} (R : Rl A h) {s : Int32} : Ok 294 0 [.ref (A 0), .int s, .ref (A 39), mk0] [] h 25 3460 (fun r m => ∃ k : Int32, r = .inl (some (.int k)) ∧ Rl A m) := by
  have R0 := R
  obtain ⟨vk, vcn, v0, v1, v2, vp, vl0, vl1, vlr, vsr, vc, tx⟩ := R0
  have vk0 := vk
  have vcn0 := vcn
  (refine K_el vk0 ?_; intros hA kc0 kc1 kc2 kc3 kc4 kc5 kc6 kc7 kc8 kc9 kc10 kc11 kc12 kc13 kc14 kc15 kc16 kc17 kc18 kc19 kc20 kc21 kc22 kc23 kc24 kc25 kc26 kc27 kc28 kc29 kc30 kc31 kc32 kc33 kc34 kc35 kc36 kc37 kc38 kc39 kz kt kn3 kn4 kn18 kn21 kn23 kn24 kn25 kn26 kn27 kn29 kn30 kr0_0 kr0_1 kr0_2 kr0_3 kr0_4 kr0_5 kr0_7 kr0_8 kr0_9 kr0_10 kr1_0 kr2_0 kr5_0 kr5_1 kr6_0 kr6_1 kr7_0 kr7_1 kr8_0 kr9_0 kr10_0 kr11_0 kr12_0 kr13_0 kr14_0 kr15_0 kr16_0 kr17_0 kr19_0 kr19_1 kr22_0 kr22_1 kr22_2 kr22_3 kr22_4 kr22_5 kr22_7 kr22_8 kr25_0 kr25_1 kr25_2 kr26_0 kr26_1 kr26_2 kr29_0 kr29_1)
  (refine Cn_el vcn0 ?_; intros ki5_2 ki6_2 ki7_2 ki8_1 ki8_2 ki8_3 ki9_1 ki9_2 ki9_3 ki10_1 ki10_2 ki10_3 ki11_1 ki11_2 ki11_3 ki12_1 ki12_2 ki12_3 ki13_1 ki13_2 ki13_3 ki14_1 ki14_2 ki14_3 ki28_0 ki28_1 ki31_0 ki31_1 ki32_0 ki32_1 ki33_0 ki33_1 ki34_0 ki34_1 ki35_0 ki35_1 ki36_0 ki36_1)
  have hAe : ∀ i j, i < 40 → j < 40 → (A i = A j ↔ i = j) := hA
  by_cases bs : s < 0 ∨ ¬ s < 6
  · simp only [o294_0, o294_1, o294_2, o294_3, o294_12, o294_13, o294_14, o63_0, o63_1, o63_4, o63_5, o63_6, o63_7, c_X5_checkSlot, mcs_0, mcs_r, Kn_0, Kn_x, true_and, and_true, not_true_eq_false, false_implies, forall_const, Nat.reduceLeDiff, Nat.reduceSub, Nat.reduceAdd, Nat.zero_le, Nat.le_refl, Sum.inl.injEq, Option.some.injEq, Value.int.injEq, exists_eq_left', kc0, bs, hx_294_1]
    intro t ht
    first | exact Rl_pT R ht | exact ⟨_, rfl, Rl_pT R ht⟩
  · have s1 : ¬ s < 0 := fun z => bs (Or.inl z)
    have s2 : s < 6 := Classical.byContradiction fun z => bs (Or.inr z)
    have hs := ix_ok s1 s2
    have hs2 := hs
    obtain ⟨⟨j0, j1, j2, j3⟩, d01, d02, d03, d10, d12, d13, d20, d21, d23, d30, d31, d32⟩ := hs2
    obtain ⟨l0, l1, l2, l3⟩ := ix_lt hs
    have vs0 := (vsr _ l0).1
    have vs1 := (vsr _ l1).1
    have vs2 := (vsr _ l2).1
    have vs3 := (vsr _ l3).1
    have bs2 : (¬ s < 0 ∧ s < 6) = True := eq_true ⟨s1, s2⟩
    simp only [o294_0, o294_1, o294_2, o294_3, o63_0, o63_1, o63_4, o63_5, o63_6, o63_7, o63_10, c_X5_checkSlot, c_X5_numberIn (rw := A 2) (cs := A 4), mcs_0, mcs_r, Kn_v, Kn_0, Kn_x, true_and, or_false, not_true_eq_false, not_false_eq_true, false_implies, forall_const, Nat.reduceLeDiff, Nat.reduceSub, Nat.reduceAdd, Nat.zero_le, Nat.le_refl, kc0, kc2, kc4, kn4, kr0_1, kr2_0, s1, s2, hs, vs0, vs1, vs2, vs3, i64_back, nm_eq]
    refine c_textOf R (fun m s9 R9 => ?_)
    simp only [o63_13, Kn_v, Kc_v]
    have RL9 := R9
    have R0 := R9
    obtain ⟨vk, vcn, v0, v1, v2, vp, vl0, vl1, vlr, vsr, vc, tx⟩ := R0
    have vk0 := vk
    have vcn0 := vcn
    (refine K_el vk0 ?_; intros hA kc0 kc1 kc2 kc3 kc4 kc5 kc6 kc7 kc8 kc9 kc10 kc11 kc12 kc13 kc14 kc15 kc16 kc17 kc18 kc19 kc20 kc21 kc22 kc23 kc24 kc25 kc26 kc27 kc28 kc29 kc30 kc31 kc32 kc33 kc34 kc35 kc36 kc37 kc38 kc39 kz kt kn3 kn4 kn18 kn21 kn23 kn24 kn25 kn26 kn27 kn29 kn30 kr0_0 kr0_1 kr0_2 kr0_3 kr0_4 kr0_5 kr0_7 kr0_8 kr0_9 kr0_10 kr1_0 kr2_0 kr5_0 kr5_1 kr6_0 kr6_1 kr7_0 kr7_1 kr8_0 kr9_0 kr10_0 kr11_0 kr12_0 kr13_0 kr14_0 kr15_0 kr16_0 kr17_0 kr19_0 kr19_1 kr22_0 kr22_1 kr22_2 kr22_3 kr22_4 kr22_5 kr22_7 kr22_8 kr25_0 kr25_1 kr25_2 kr26_0 kr26_1 kr26_2 kr29_0 kr29_1)
    (refine Cn_el vcn0 ?_; intros ki5_2 ki6_2 ki7_2 ki8_1 ki8_2 ki8_3 ki9_1 ki9_2 ki9_3 ki10_1 ki10_2 ki10_3 ki11_1 ki11_2 ki11_3 ki12_1 ki12_2 ki12_3 ki13_1 ki13_2 ki13_3 ki14_1 ki14_2 ki14_3 ki28_0 ki28_1 ki31_0 ki31_1 ki32_0 ki32_1 ki33_0 ki33_1 ki34_0 ki34_1 ki35_0 ki35_1 ki36_0 ki36_1)
    have hAe : ∀ i j, i < 40 → j < 40 → (A i = A j ↔ i = j) := hA
    simp only [o294_6, o294_9, o294_15, o294_16, true_and, and_self, Sum.inl.injEq, Option.some.injEq, Value.int.injEq, exists_eq_left', Nat.reduceLT, kc39, kz]
    first | exact Rl_out RL9 | exact ⟨_, rfl, Rl_out RL9⟩

theorem m_slotText_go {A : Nat → Nat} {h : MH} {Q : MR → MH → Prop} (R : Rl A h) (Cc : Cs h) {s : Int32} (hs : ixOk s) (hQ : ∀ m b, Rl A m → Q (.inl (some (.ref b))) m) : Ok 180 24 [.ref (A 22), .int s] [] h 6 474 Q := by
  obtain ⟨b, f⟩ := nSB (Rl_z R)
  have n3 := Rl_z R
  have R1 := Rl_Fr R f
  have C1 := Cs_Fx (sb := g_t h) (dg := g_t h) Cc (Fx_Fr f) n3 n3
  have n1 : (g_t h = g_t h + 1) = False := eq_false (by omega)
  simp only [o180_24, o180_27, o180_28, o180_31, o180_33, J_init, mc_pi, mc_pr, mc_pN, mt_pN, mz_pN, ma_pi, ma_pr, ma_pN, mcs_0, mcs_r, Kn_0, true_and, if_true, if_false, Nat.reduceLeDiff, Nat.reduceSub, Nat.reduceAdd, Nat.zero_le, n3, n1, Nat.lt_succ_self]
  refine J_apS4 b (Cs_St C1).1 (by decide) (by decide) (fun q f2 b2 => ?_)
  have f3 : Fx (g_t h) (g_t h) h q := Fx_tr (Fx_Fr f) f2
  have R2 := Rl_Fn R f3 (Nat.le_refl _) (Nat.le_refl _)
  have C2 := Cs_Fx Cc f3 n3 n3
  have R0 := R2
  obtain ⟨vk, vcn, v0, v1, v2, vp, vl0, vl1, vlr, vsr, vc, tx⟩ := R0
  have vk0 := vk
  have vcn0 := vcn
  (refine K_el vk0 ?_; intros hA kc0 kc1 kc2 kc3 kc4 kc5 kc6 kc7 kc8 kc9 kc10 kc11 kc12 kc13 kc14 kc15 kc16 kc17 kc18 kc19 kc20 kc21 kc22 kc23 kc24 kc25 kc26 kc27 kc28 kc29 kc30 kc31 kc32 kc33 kc34 kc35 kc36 kc37 kc38 kc39 kz kt kn3 kn4 kn18 kn21 kn23 kn24 kn25 kn26 kn27 kn29 kn30 kr0_0 kr0_1 kr0_2 kr0_3 kr0_4 kr0_5 kr0_7 kr0_8 kr0_9 kr0_10 kr1_0 kr2_0 kr5_0 kr5_1 kr6_0 kr6_1 kr7_0 kr7_1 kr8_0 kr9_0 kr10_0 kr11_0 kr12_0 kr13_0 kr14_0 kr15_0 kr16_0 kr17_0 kr19_0 kr19_1 kr22_0 kr22_1 kr22_2 kr22_3 kr22_4 kr22_5 kr22_7 kr22_8 kr25_0 kr25_1 kr25_2 kr26_0 kr26_1 kr26_2 kr29_0 kr29_1)
  (refine Cn_el vcn0 ?_; intros ki5_2 ki6_2 ki7_2 ki8_1 ki8_2 ki8_3 ki9_1 ki9_2 ki9_3 ki10_1 ki10_2 ki10_3 ki11_1 ki11_2 ki11_3 ki12_1 ki12_2 ki12_3 ki13_1 ki13_2 ki13_3 ki14_1 ki14_2 ki14_3 ki28_0 ki28_1 ki31_0 ki31_1 ki32_0 ki32_1 ki33_0 ki33_1 ki34_0 ki34_1 ki35_0 ki35_1 ki36_0 ki36_1)
  have hAe : ∀ i j, i < 40 → j < 40 → (A i = A j ↔ i = j) := hA
  simp only [o180_36, o180_37, o180_38, o180_41, c_X8_numberOf (sr := A 24), mcs_0, mcs_r, Kn_v, true_and, Nat.reduceLeDiff, Nat.reduceSub, Nat.reduceAdd, Nat.zero_le, kc22, kc24, kn24, kr22_1, hs, b2.1]
  refine J_apL4 b2 (Cs_Dt C2).1 (Cs_Dt C2).2 (Nat.le_trans (Nat.add_le_add_left (tsz_le _) _) (by decide)) (fun q2 f4 b3 => ?_)
  have f5 := Fx_tr f3 f4
  have R3 := Rl_Fn R f5 (Nat.le_refl _) (Nat.le_refl _)
  simp only [o180_44, mcs_0, Kn_v, true_and, Nat.reduceSub, Nat.zero_le, Nat.le_refl, b3.1]
  refine J_str b3 (fun q3 s3 f6 t hs3 => ?_)
  simp only [o180_47, Kn_v]
  exact hQ q3 s3 (Rl_Fr R3 f6)

theorem m_slotText {A : Nat → Nat} {h : MH} (R : Rl A h) (Cc : Cs h) {s : Int32} : Ok 180 0 [.ref (A 22), .int s] [] h 6 474 (fun r m => ∃ b : Nat, r = .inl (some (.ref b)) ∧ Rl A m) := by
  have R0 := R
  obtain ⟨vk, vcn, v0, v1, v2, vp, vl0, vl1, vlr, vsr, vc, tx⟩ := R0
  have vk0 := vk
  have vcn0 := vcn
  (refine K_el vk0 ?_; intros hA kc0 kc1 kc2 kc3 kc4 kc5 kc6 kc7 kc8 kc9 kc10 kc11 kc12 kc13 kc14 kc15 kc16 kc17 kc18 kc19 kc20 kc21 kc22 kc23 kc24 kc25 kc26 kc27 kc28 kc29 kc30 kc31 kc32 kc33 kc34 kc35 kc36 kc37 kc38 kc39 kz kt kn3 kn4 kn18 kn21 kn23 kn24 kn25 kn26 kn27 kn29 kn30 kr0_0 kr0_1 kr0_2 kr0_3 kr0_4 kr0_5 kr0_7 kr0_8 kr0_9 kr0_10 kr1_0 kr2_0 kr5_0 kr5_1 kr6_0 kr6_1 kr7_0 kr7_1 kr8_0 kr9_0 kr10_0 kr11_0 kr12_0 kr13_0 kr14_0 kr15_0 kr16_0 kr17_0 kr19_0 kr19_1 kr22_0 kr22_1 kr22_2 kr22_3 kr22_4 kr22_5 kr22_7 kr22_8 kr25_0 kr25_1 kr25_2 kr26_0 kr26_1 kr26_2 kr29_0 kr29_1)
  (refine Cn_el vcn0 ?_; intros ki5_2 ki6_2 ki7_2 ki8_1 ki8_2 ki8_3 ki9_1 ki9_2 ki9_3 ki10_1 ki10_2 ki10_3 ki11_1 ki11_2 ki11_3 ki12_1 ki12_2 ki12_3 ki13_1 ki13_2 ki13_3 ki14_1 ki14_2 ki14_3 ki28_0 ki28_1 ki31_0 ki31_1 ki32_0 ki32_1 ki33_0 ki33_1 ki34_0 ki34_1 ki35_0 ki35_1 ki36_0 ki36_1)
  have hAe : ∀ i j, i < 40 → j < 40 → (A i = A j ↔ i = j) := hA
  by_cases bs : s < 0 ∨ ¬ s < 6
  · have bs2 : (¬ s < 0 ∧ s < 6) = False := nrng bs
    simp only [o180_0, o180_1, o180_2, o180_5, o180_8, o180_9, o180_12, o180_13, o180_16, o180_19, o180_21, o180_47, c_X8_isSlot, c_X8_isThrown__, ma_pi, mcs_0, mcs_r, Kn_v, true_and, and_true, not_true_eq_false, not_false_eq_true, false_implies, forall_const, if_true, if_false, Nat.reduceLeDiff, Nat.reduceAdd, Nat.zero_le, i10, Sum.inl.injEq, Option.some.injEq, Nat.reduceLT, kc22, kz, bs2]
    first | exact Rl_thr R | exact ⟨_, rfl, Rl_thr R⟩
  · have s1 : ¬ s < 0 := fun z => bs (Or.inl z)
    have s2 : s < 6 := Classical.byContradiction fun z => bs (Or.inr z)
    have hs := ix_ok s1 s2
    have hs2 := hs
    obtain ⟨⟨j0, j1, j2, j3⟩, d01, d02, d03, d10, d12, d13, d20, d21, d23, d30, d31, d32⟩ := hs2
    obtain ⟨l0, l1, l2, l3⟩ := ix_lt hs
    have vs0 := (vsr _ l0).1
    have vs1 := (vsr _ l1).1
    have vs2 := (vsr _ l2).1
    have vs3 := (vsr _ l3).1
    have bs2 : (¬ s < 0 ∧ s < 6) = True := eq_true ⟨s1, s2⟩
    simp only [o180_0, o180_1, o180_2, o180_5, o180_8, o180_9, o180_12, o180_13, o180_16, o180_19, o180_21, c_X8_isSlot, c_X8_isThrown__, ma_pi, mcs_0, mcs_r, Kn_v, true_and, and_true, not_true_eq_false, not_false_eq_true, false_implies, forall_const, if_true, if_false, and_self, Nat.reduceLeDiff, Nat.reduceAdd, Nat.zero_le, i10, Nat.reduceLT, kc22, kz, s1, s2]
    exact m_slotText_go (Rl_thr R) (Cs_Lw Cc (Lw_pi (kz 22 (by decide)))) hs (fun m b Rm => ⟨_, rfl, Rm⟩)

theorem hx_326_1 {l rest : List Value} {bc bs : Nat} {Q : MR → MH → Prop} {h : MH} : Kc Ok 326 3 6 l rest bc bs Q (.inr 1) h ↔ ∀ q : Nat, Ok 326 12 l [.ref q] h bc bs Q := Kc_x (by decide +kernel) (by decide +kernel)
theorem x_cellText {A : Nat → Nat} {h : MH} (R : Rl A h) {s : Int32} : Ok 326 0 [.ref (A 0), .int s, .ref (A 39), mk0] [] h 25 3460 (fun r m => ∃ k : Int32, r = .inl (some (.int k)) ∧ Rl A m) := by
  have R0 := R
  obtain ⟨vk, vcn, v0, v1, v2, vp, vl0, vl1, vlr, vsr, vc, tx⟩ := R0
  have vk0 := vk
  have vcn0 := vcn
  (refine K_el vk0 ?_; intros hA kc0 kc1 kc2 kc3 kc4 kc5 kc6 kc7 kc8 kc9 kc10 kc11 kc12 kc13 kc14 kc15 kc16 kc17 kc18 kc19 kc20 kc21 kc22 kc23 kc24 kc25 kc26 kc27 kc28 kc29 kc30 kc31 kc32 kc33 kc34 kc35 kc36 kc37 kc38 kc39 kz kt kn3 kn4 kn18 kn21 kn23 kn24 kn25 kn26 kn27 kn29 kn30 kr0_0 kr0_1 kr0_2 kr0_3 kr0_4 kr0_5 kr0_7 kr0_8 kr0_9 kr0_10 kr1_0 kr2_0 kr5_0 kr5_1 kr6_0 kr6_1 kr7_0 kr7_1 kr8_0 kr9_0 kr10_0 kr11_0 kr12_0 kr13_0 kr14_0 kr15_0 kr16_0 kr17_0 kr19_0 kr19_1 kr22_0 kr22_1 kr22_2 kr22_3 kr22_4 kr22_5 kr22_7 kr22_8 kr25_0 kr25_1 kr25_2 kr26_0 kr26_1 kr26_2 kr29_0 kr29_1)
  (refine Cn_el vcn0 ?_; intros ki5_2 ki6_2 ki7_2 ki8_1 ki8_2 ki8_3 ki9_1 ki9_2 ki9_3 ki10_1 ki10_2 ki10_3 ki11_1 ki11_2 ki11_3 ki12_1 ki12_2 ki12_3 ki13_1 ki13_2 ki13_3 ki14_1 ki14_2 ki14_3 ki28_0 ki28_1 ki31_0 ki31_1 ki32_0 ki32_1 ki33_0 ki33_1 ki34_0 ki34_1 ki35_0 ki35_1 ki36_0 ki36_1)
  have hAe : ∀ i j, i < 40 → j < 40 → (A i = A j ↔ i = j) := hA
  by_cases b1 : s < 0
  · simp only [o326_0, o326_1, o326_2, o326_3, o326_12, o326_13, o326_14, o103_0, o103_1, o103_4, o103_5, o103_7, o103_10, o103_21, o103_22, o103_23, o103_26, o103_27, mcs_0, mcs_r, mrf_some, true_and, and_true, not_true_eq_false, false_implies, forall_const, Nat.reduceLeDiff, Nat.reduceSub, Nat.reduceAdd, Nat.le_refl, Sum.inl.injEq, Option.some.injEq, Value.int.injEq, exists_eq_left', kc0, kc1, kr0_0, b1, hx_326_1]
    intro t ht
    first | exact Rl_pT R ht | exact ⟨_, rfl, Rl_pT R ht⟩
  by_cases b2 : s < 16
  · have hj : rdy 16 s := by
      rw [Int32.lt_iff_toInt_lt] at b1 b2
      have e1 : (0 : Int32).toInt = 0 := rfl
      have e2 : (16 : Int32).toInt = 16 := rfl
      rw [toNat_of (x := s) (by omega)]
      exact n_rdy (by omega) (by omega)
    have b3 : (s < (16 : Int32)) = True := eq_true b2
    simp only [o326_0, o326_1, o326_2, o326_3, o103_0, o103_1, o103_4, o103_5, o103_7, o103_10, o103_21, o103_22, o103_23, o103_26, o103_27, o103_30, c_X2_read (cs := A 3) (n := 16), mcs_0, mcs_r, Kn_v, mrf_some, true_and, and_true, not_true_eq_false, not_false_eq_true, false_implies, forall_const, Nat.reduceLeDiff, Nat.reduceSub, Nat.reduceAdd, Nat.zero_le, Nat.le_refl, kc0, kc1, kc3, kn3, kr0_0, kr1_0, b1, b3, hj]
    refine c_textOf R (fun m s9 R9 => ?_)
    simp only [o103_33, Kn_v, Kc_v]
    have RL9 := R9
    have R0 := R9
    obtain ⟨vk, vcn, v0, v1, v2, vp, vl0, vl1, vlr, vsr, vc, tx⟩ := R0
    have vk0 := vk
    have vcn0 := vcn
    (refine K_el vk0 ?_; intros hA kc0 kc1 kc2 kc3 kc4 kc5 kc6 kc7 kc8 kc9 kc10 kc11 kc12 kc13 kc14 kc15 kc16 kc17 kc18 kc19 kc20 kc21 kc22 kc23 kc24 kc25 kc26 kc27 kc28 kc29 kc30 kc31 kc32 kc33 kc34 kc35 kc36 kc37 kc38 kc39 kz kt kn3 kn4 kn18 kn21 kn23 kn24 kn25 kn26 kn27 kn29 kn30 kr0_0 kr0_1 kr0_2 kr0_3 kr0_4 kr0_5 kr0_7 kr0_8 kr0_9 kr0_10 kr1_0 kr2_0 kr5_0 kr5_1 kr6_0 kr6_1 kr7_0 kr7_1 kr8_0 kr9_0 kr10_0 kr11_0 kr12_0 kr13_0 kr14_0 kr15_0 kr16_0 kr17_0 kr19_0 kr19_1 kr22_0 kr22_1 kr22_2 kr22_3 kr22_4 kr22_5 kr22_7 kr22_8 kr25_0 kr25_1 kr25_2 kr26_0 kr26_1 kr26_2 kr29_0 kr29_1)
    (refine Cn_el vcn0 ?_; intros ki5_2 ki6_2 ki7_2 ki8_1 ki8_2 ki8_3 ki9_1 ki9_2 ki9_3 ki10_1 ki10_2 ki10_3 ki11_1 ki11_2 ki11_3 ki12_1 ki12_2 ki12_3 ki13_1 ki13_2 ki13_3 ki14_1 ki14_2 ki14_3 ki28_0 ki28_1 ki31_0 ki31_1 ki32_0 ki32_1 ki33_0 ki33_1 ki34_0 ki34_1 ki35_0 ki35_1 ki36_0 ki36_1)
    have hAe : ∀ i j, i < 40 → j < 40 → (A i = A j ↔ i = j) := hA
    simp only [o326_6, o326_9, o326_15, o326_16, true_and, and_self, Sum.inl.injEq, Option.some.injEq, Value.int.injEq, exists_eq_left', Nat.reduceLT, kc39, kz]
    first | exact Rl_out RL9 | exact ⟨_, rfl, Rl_out RL9⟩
  · have b3 : (s < (16 : Int32)) = False := eq_false b2
    simp only [o326_0, o326_1, o326_2, o326_3, o326_12, o326_13, o326_14, o103_0, o103_1, o103_4, o103_5, o103_7, o103_10, o103_21, o103_22, o103_23, o103_26, o103_27, mcs_0, mcs_r, mrf_some, true_and, not_false_eq_true, false_implies, forall_const, Nat.reduceLeDiff, Nat.reduceSub, Nat.reduceAdd, Nat.le_refl, Sum.inl.injEq, Option.some.injEq, Value.int.injEq, exists_eq_left', kc0, kc1, kr0_0, b1, b3, hx_326_1]
    intro t ht
    first | exact Rl_pT R ht | exact ⟨_, rfl, Rl_pT R ht⟩

theorem m_cellText_go {A : Nat → Nat} {h : MH} {Q : MR → MH → Prop} (R : Rl A h) (Cc : Cs h) {s : Int32} (hj : vp_in s 16) (hQ : ∀ m b, Rl A m → Q (.inl (some (.ref b))) m) : Ok 237 27 [.ref (A 22), .int s] [] h 6 474 Q := by
  obtain ⟨b, f⟩ := nSB (Rl_z R)
  have n3 := Rl_z R
  have R1 := Rl_Fr R f
  have C1 := Cs_Fx (sb := g_t h) (dg := g_t h) Cc (Fx_Fr f) n3 n3
  have n1 : (g_t h = g_t h + 1) = False := eq_false (by omega)
  simp only [o237_27, o237_30, o237_31, o237_34, o237_36, J_init, mc_pi, mc_pr, mc_pN, mt_pN, mz_pN, ma_pi, ma_pr, ma_pN, mcs_0, mcs_r, Kn_0, true_and, if_true, if_false, Nat.reduceLeDiff, Nat.reduceSub, Nat.reduceAdd, Nat.zero_le, n3, n1, Nat.lt_succ_self]
  refine J_apS4 b (Cs_St C1).1 (by decide) (by decide) (fun q f2 b2 => ?_)
  have f3 : Fx (g_t h) (g_t h) h q := Fx_tr (Fx_Fr f) f2
  have R2 := Rl_Fn R f3 (Nat.le_refl _) (Nat.le_refl _)
  have C2 := Cs_Fx Cc f3 n3 n3
  have R0 := R2
  obtain ⟨vk, vcn, v0, v1, v2, vp, vl0, vl1, vlr, vsr, vc, tx⟩ := R0
  have vk0 := vk
  have vcn0 := vcn
  (refine K_el vk0 ?_; intros hA kc0 kc1 kc2 kc3 kc4 kc5 kc6 kc7 kc8 kc9 kc10 kc11 kc12 kc13 kc14 kc15 kc16 kc17 kc18 kc19 kc20 kc21 kc22 kc23 kc24 kc25 kc26 kc27 kc28 kc29 kc30 kc31 kc32 kc33 kc34 kc35 kc36 kc37 kc38 kc39 kz kt kn3 kn4 kn18 kn21 kn23 kn24 kn25 kn26 kn27 kn29 kn30 kr0_0 kr0_1 kr0_2 kr0_3 kr0_4 kr0_5 kr0_7 kr0_8 kr0_9 kr0_10 kr1_0 kr2_0 kr5_0 kr5_1 kr6_0 kr6_1 kr7_0 kr7_1 kr8_0 kr9_0 kr10_0 kr11_0 kr12_0 kr13_0 kr14_0 kr15_0 kr16_0 kr17_0 kr19_0 kr19_1 kr22_0 kr22_1 kr22_2 kr22_3 kr22_4 kr22_5 kr22_7 kr22_8 kr25_0 kr25_1 kr25_2 kr26_0 kr26_1 kr26_2 kr29_0 kr29_1)
  (refine Cn_el vcn0 ?_; intros ki5_2 ki6_2 ki7_2 ki8_1 ki8_2 ki8_3 ki9_1 ki9_2 ki9_3 ki10_1 ki10_2 ki10_3 ki11_1 ki11_2 ki11_3 ki12_1 ki12_2 ki12_3 ki13_1 ki13_2 ki13_3 ki14_1 ki14_2 ki14_3 ki28_0 ki28_1 ki31_0 ki31_1 ki32_0 ki32_1 ki33_0 ki33_1 ki34_0 ki34_1 ki35_0 ki35_1 ki36_0 ki36_1)
  have hAe : ∀ i j, i < 40 → j < 40 → (A i = A j ↔ i = j) := hA
  simp only [o237_39, o237_40, o237_43, o237_44, o237_45, mcs_0, Kn_v, mrf_some, true_and, and_self, Nat.reduceLeDiff, Nat.reduceSub, Nat.zero_le, kc22, kc23, kn23, kr22_0, hj, b2.1]
  refine J_apL4 b2 (Cs_Dt C2).1 (Cs_Dt C2).2 (Nat.le_trans (Nat.add_le_add_left (tsz_le _) _) (by decide)) (fun q2 f4 b3 => ?_)
  have f5 := Fx_tr f3 f4
  have R3 := Rl_Fn R f5 (Nat.le_refl _) (Nat.le_refl _)
  simp only [o237_48, mcs_0, Kn_v, true_and, Nat.reduceSub, Nat.zero_le, Nat.le_refl, b3.1]
  refine J_str b3 (fun q3 s3 f6 t hs3 => ?_)
  simp only [o237_51, Kn_v]
  exact hQ q3 s3 (Rl_Fr R3 f6)

theorem m_cellText {A : Nat → Nat} {h : MH} (R : Rl A h) (Cc : Cs h) {s : Int32} : Ok 237 0 [.ref (A 22), .int s] [] h 6 474 (fun r m => ∃ b : Nat, r = .inl (some (.ref b)) ∧ Rl A m) := by
  have R0 := R
  obtain ⟨vk, vcn, v0, v1, v2, vp, vl0, vl1, vlr, vsr, vc, tx⟩ := R0
  have vk0 := vk
  have vcn0 := vcn
  (refine K_el vk0 ?_; intros hA kc0 kc1 kc2 kc3 kc4 kc5 kc6 kc7 kc8 kc9 kc10 kc11 kc12 kc13 kc14 kc15 kc16 kc17 kc18 kc19 kc20 kc21 kc22 kc23 kc24 kc25 kc26 kc27 kc28 kc29 kc30 kc31 kc32 kc33 kc34 kc35 kc36 kc37 kc38 kc39 kz kt kn3 kn4 kn18 kn21 kn23 kn24 kn25 kn26 kn27 kn29 kn30 kr0_0 kr0_1 kr0_2 kr0_3 kr0_4 kr0_5 kr0_7 kr0_8 kr0_9 kr0_10 kr1_0 kr2_0 kr5_0 kr5_1 kr6_0 kr6_1 kr7_0 kr7_1 kr8_0 kr9_0 kr10_0 kr11_0 kr12_0 kr13_0 kr14_0 kr15_0 kr16_0 kr17_0 kr19_0 kr19_1 kr22_0 kr22_1 kr22_2 kr22_3 kr22_4 kr22_5 kr22_7 kr22_8 kr25_0 kr25_1 kr25_2 kr26_0 kr26_1 kr26_2 kr29_0 kr29_1)
  (refine Cn_el vcn0 ?_; intros ki5_2 ki6_2 ki7_2 ki8_1 ki8_2 ki8_3 ki9_1 ki9_2 ki9_3 ki10_1 ki10_2 ki10_3 ki11_1 ki11_2 ki11_3 ki12_1 ki12_2 ki12_3 ki13_1 ki13_2 ki13_3 ki14_1 ki14_2 ki14_3 ki28_0 ki28_1 ki31_0 ki31_1 ki32_0 ki32_1 ki33_0 ki33_1 ki34_0 ki34_1 ki35_0 ki35_1 ki36_0 ki36_1)
  have hAe : ∀ i j, i < 40 → j < 40 → (A i = A j ↔ i = j) := hA
  by_cases b1 : s < 0
  · simp only [o237_0, o237_1, o237_2, o237_5, o237_6, o237_8, o237_11, o237_12, o237_15, o237_16, o237_19, o237_22, o237_24, o237_51, c_X8_isThrown__, ma_pi, mcs_0, Kn_v, true_and, and_true, not_true_eq_false, not_false_eq_true, false_implies, forall_const, if_true, if_false, Nat.zero_le, i10, lt_le, Classical.not_not, Sum.inl.injEq, Option.some.injEq, Nat.reduceLT, kc22, kz, b1]
    first | exact Rl_thr R | exact ⟨_, rfl, Rl_thr R⟩
  by_cases b2 : 15 < s
  · have b3 : ((15 : Int32) < s) = True := eq_true b2
    simp only [o237_0, o237_1, o237_2, o237_5, o237_6, o237_8, o237_11, o237_12, o237_15, o237_16, o237_19, o237_22, o237_24, o237_51, c_X8_isThrown__, ma_pi, mcs_0, Kn_v, true_and, and_true, not_true_eq_false, not_false_eq_true, false_implies, forall_const, if_true, if_false, Nat.zero_le, i10, lt_le, Sum.inl.injEq, Option.some.injEq, Nat.reduceLT, kc22, kz, b1, b3]
    first | exact Rl_thr R | exact ⟨_, rfl, Rl_thr R⟩
  · have b3 : ((15 : Int32) < s) = False := eq_false b2
    have hj : vp_in s 16 := by
      rw [Int32.lt_iff_toInt_lt] at b1 b2
      have e1 : (0 : Int32).toInt = 0 := rfl
      have e2 : (15 : Int32).toInt = 15 := rfl
      rw [toNat_of (x := s) (by omega)]
      exact vp_of (by omega) (by omega)
    simp only [o237_0, o237_1, o237_2, o237_5, o237_6, o237_8, o237_11, o237_12, o237_15, o237_16, o237_19, o237_22, o237_24, c_X8_isThrown__, ma_pi, mcs_0, Kn_v, true_and, and_true, not_true_eq_false, not_false_eq_true, false_implies, forall_const, if_true, if_false, Nat.zero_le, i10, lt_le, Nat.reduceLT, kc22, kz, b1, b3]
    exact m_cellText_go (Rl_thr R) (Cs_Lw Cc (Lw_pi (kz 22 (by decide)))) hj (fun m b Rm => ⟨_, rfl, Rm⟩)
end

section
set_option maxRecDepth 16384
theorem hx_310_1 {l rest : List Value} {bc bs : Nat} {Q : MR → MH → Prop} {h : MH} : Kc Ok 310 3 6 l rest bc bs Q (.inr 1) h ↔ ∀ q : Nat, Ok 310 12 l [.ref q] h bc bs Q := Kc_x (by decide +kernel) (by decide +kernel)
theorem x_queueText {A : Nat → Nat} {h : MH} (R : Rl A h) {q : Int32} : Ok 310 0 [.ref (A 0), .int q, .ref (A 39), mk0] [] h 130 19210 (fun r m => ∃ k : Int32, r = .inl (some (.int k)) ∧ Rl A m) := by
  have R0 := R
  obtain ⟨vk, vcn, v0, v1, v2, vp, vl0, vl1, vlr, vsr, vc, tx⟩ := R0
  have vk0 := vk
  have vcn0 := vcn
  (refine K_el vk0 ?_; intros hA kc0 kc1 kc2 kc3 kc4 kc5 kc6 kc7 kc8 kc9 kc10 kc11 kc12 kc13 kc14 kc15 kc16 kc17 kc18 kc19 kc20 kc21 kc22 kc23 kc24 kc25 kc26 kc27 kc28 kc29 kc30 kc31 kc32 kc33 kc34 kc35 kc36 kc37 kc38 kc39 kz kt kn3 kn4 kn18 kn21 kn23 kn24 kn25 kn26 kn27 kn29 kn30 kr0_0 kr0_1 kr0_2 kr0_3 kr0_4 kr0_5 kr0_7 kr0_8 kr0_9 kr0_10 kr1_0 kr2_0 kr5_0 kr5_1 kr6_0 kr6_1 kr7_0 kr7_1 kr8_0 kr9_0 kr10_0 kr11_0 kr12_0 kr13_0 kr14_0 kr15_0 kr16_0 kr17_0 kr19_0 kr19_1 kr22_0 kr22_1 kr22_2 kr22_3 kr22_4 kr22_5 kr22_7 kr22_8 kr25_0 kr25_1 kr25_2 kr26_0 kr26_1 kr26_2 kr29_0 kr29_1)
  (refine Cn_el vcn0 ?_; intros ki5_2 ki6_2 ki7_2 ki8_1 ki8_2 ki8_3 ki9_1 ki9_2 ki9_3 ki10_1 ki10_2 ki10_3 ki11_1 ki11_2 ki11_3 ki12_1 ki12_2 ki12_3 ki13_1 ki13_2 ki13_3 ki14_1 ki14_2 ki14_3 ki28_0 ki28_1 ki31_0 ki31_1 ki32_0 ki32_1 ki33_0 ki33_1 ki34_0 ki34_1 ki35_0 ki35_1 ki36_0 ki36_1)
  have hAe : ∀ i j, i < 40 → j < 40 → (A i = A j ↔ i = j) := hA
  by_cases bq : q < 0 ∨ ¬ q < 3
  · simp only [o310_0, o310_1, o310_2, o310_3, o310_12, o310_13, o310_14, o80_0, o80_1, o80_2, o80_3, c_queueOf_bad, mcs_0, mcs_r, Kn_x, true_and, forall_const, Nat.reduceLeDiff, Nat.reduceSub, Nat.reduceAdd, Nat.le_refl, Sum.inl.injEq, Option.some.injEq, Value.int.injEq, exists_eq_left', kc0, bq, hx_310_1]
    intro t ht
    first | exact Rl_pT R ht | exact ⟨_, rfl, Rl_pT R ht⟩
  · have y1 : ¬ q < 0 := fun z => bq (Or.inl z)
    have y2 : q < 3 := Classical.byContradiction fun z => bq (Or.inr z)
    have bq2 : (¬ q < 0 ∧ q < 3) = True := eq_true ⟨y1, y2⟩
    rcases q_cases y1 y2 with rfl | rfl | rfl
    · simp only [o310_0, o310_1, o310_2, o310_3, o80_0, o80_1, o80_2, o80_3, o80_6, c_queueOf_0, mcs_0, mcs_r, Kn_v, true_and, Nat.reduceLeDiff, Nat.reduceSub, Nat.reduceAdd, Nat.zero_le, Nat.le_refl, Option.some.injEq, kc0, kr0_2]
      refine c_gQ0 R (fun m f b => ?_)
      have R8 := Rl_Fx R f b
      have R0 := R8
      obtain ⟨vk, vcn, v0, v1, v2, vp, vl0, vl1, vlr, vsr, vc, tx⟩ := R0
      have vk0 := vk
      have vcn0 := vcn
      (refine K_el vk0 ?_; intros hA kc0 kc1 kc2 kc3 kc4 kc5 kc6 kc7 kc8 kc9 kc10 kc11 kc12 kc13 kc14 kc15 kc16 kc17 kc18 kc19 kc20 kc21 kc22 kc23 kc24 kc25 kc26 kc27 kc28 kc29 kc30 kc31 kc32 kc33 kc34 kc35 kc36 kc37 kc38 kc39 kz kt kn3 kn4 kn18 kn21 kn23 kn24 kn25 kn26 kn27 kn29 kn30 kr0_0 kr0_1 kr0_2 kr0_3 kr0_4 kr0_5 kr0_7 kr0_8 kr0_9 kr0_10 kr1_0 kr2_0 kr5_0 kr5_1 kr6_0 kr6_1 kr7_0 kr7_1 kr8_0 kr9_0 kr10_0 kr11_0 kr12_0 kr13_0 kr14_0 kr15_0 kr16_0 kr17_0 kr19_0 kr19_1 kr22_0 kr22_1 kr22_2 kr22_3 kr22_4 kr22_5 kr22_7 kr22_8 kr25_0 kr25_1 kr25_2 kr26_0 kr26_1 kr26_2 kr29_0 kr29_1)
      (refine Cn_el vcn0 ?_; intros ki5_2 ki6_2 ki7_2 ki8_1 ki8_2 ki8_3 ki9_1 ki9_2 ki9_3 ki10_1 ki10_2 ki10_3 ki11_1 ki11_2 ki11_3 ki12_1 ki12_2 ki12_3 ki13_1 ki13_2 ki13_3 ki14_1 ki14_2 ki14_3 ki28_0 ki28_1 ki31_0 ki31_1 ki32_0 ki32_1 ki33_0 ki33_1 ki34_0 ki34_1 ki35_0 ki35_1 ki36_0 ki36_1)
      have hAe : ∀ i j, i < 40 → j < 40 → (A i = A j ↔ i = j) := hA
      simp only [o80_9, o80_10, o80_13, mcs_0, Kn_0, mrf_some, true_and, Nat.reduceSub, Nat.zero_le, Nat.le_refl, kc0, kc19, kr0_10]
      refine c_joined (Wo_of R8) b (fun m3 s9 f3 t hs => ?_)
      have R9 := Rl_Fr R8 f3
      simp only [o80_16, Kn_v, Kc_v]
      have RL9 := R9
      have R0 := R9
      obtain ⟨vk, vcn, v0, v1, v2, vp, vl0, vl1, vlr, vsr, vc, tx⟩ := R0
      have vk0 := vk
      have vcn0 := vcn
      (refine K_el vk0 ?_; intros hA kc0 kc1 kc2 kc3 kc4 kc5 kc6 kc7 kc8 kc9 kc10 kc11 kc12 kc13 kc14 kc15 kc16 kc17 kc18 kc19 kc20 kc21 kc22 kc23 kc24 kc25 kc26 kc27 kc28 kc29 kc30 kc31 kc32 kc33 kc34 kc35 kc36 kc37 kc38 kc39 kz kt kn3 kn4 kn18 kn21 kn23 kn24 kn25 kn26 kn27 kn29 kn30 kr0_0 kr0_1 kr0_2 kr0_3 kr0_4 kr0_5 kr0_7 kr0_8 kr0_9 kr0_10 kr1_0 kr2_0 kr5_0 kr5_1 kr6_0 kr6_1 kr7_0 kr7_1 kr8_0 kr9_0 kr10_0 kr11_0 kr12_0 kr13_0 kr14_0 kr15_0 kr16_0 kr17_0 kr19_0 kr19_1 kr22_0 kr22_1 kr22_2 kr22_3 kr22_4 kr22_5 kr22_7 kr22_8 kr25_0 kr25_1 kr25_2 kr26_0 kr26_1 kr26_2 kr29_0 kr29_1)
      (refine Cn_el vcn0 ?_; intros ki5_2 ki6_2 ki7_2 ki8_1 ki8_2 ki8_3 ki9_1 ki9_2 ki9_3 ki10_1 ki10_2 ki10_3 ki11_1 ki11_2 ki11_3 ki12_1 ki12_2 ki12_3 ki13_1 ki13_2 ki13_3 ki14_1 ki14_2 ki14_3 ki28_0 ki28_1 ki31_0 ki31_1 ki32_0 ki32_1 ki33_0 ki33_1 ki34_0 ki34_1 ki35_0 ki35_1 ki36_0 ki36_1)
      have hAe : ∀ i j, i < 40 → j < 40 → (A i = A j ↔ i = j) := hA
      simp only [o310_6, o310_9, o310_15, o310_16, true_and, and_self, Sum.inl.injEq, Option.some.injEq, Value.int.injEq, exists_eq_left', Nat.reduceLT, kc39, kz]
      first | exact Rl_out RL9 | exact ⟨_, rfl, Rl_out RL9⟩
    · simp only [o310_0, o310_1, o310_2, o310_3, o80_0, o80_1, o80_2, o80_3, o80_6, c_queueOf_1, mcs_0, mcs_r, Kn_v, true_and, Nat.reduceLeDiff, Nat.reduceSub, Nat.reduceAdd, Nat.zero_le, Nat.le_refl, Option.some.injEq, kc0, kr0_3]
      refine c_gQ1 R (fun m f b => ?_)
      have R8 := Rl_Fx R f b
      have R0 := R8
      obtain ⟨vk, vcn, v0, v1, v2, vp, vl0, vl1, vlr, vsr, vc, tx⟩ := R0
      have vk0 := vk
      have vcn0 := vcn
      (refine K_el vk0 ?_; intros hA kc0 kc1 kc2 kc3 kc4 kc5 kc6 kc7 kc8 kc9 kc10 kc11 kc12 kc13 kc14 kc15 kc16 kc17 kc18 kc19 kc20 kc21 kc22 kc23 kc24 kc25 kc26 kc27 kc28 kc29 kc30 kc31 kc32 kc33 kc34 kc35 kc36 kc37 kc38 kc39 kz kt kn3 kn4 kn18 kn21 kn23 kn24 kn25 kn26 kn27 kn29 kn30 kr0_0 kr0_1 kr0_2 kr0_3 kr0_4 kr0_5 kr0_7 kr0_8 kr0_9 kr0_10 kr1_0 kr2_0 kr5_0 kr5_1 kr6_0 kr6_1 kr7_0 kr7_1 kr8_0 kr9_0 kr10_0 kr11_0 kr12_0 kr13_0 kr14_0 kr15_0 kr16_0 kr17_0 kr19_0 kr19_1 kr22_0 kr22_1 kr22_2 kr22_3 kr22_4 kr22_5 kr22_7 kr22_8 kr25_0 kr25_1 kr25_2 kr26_0 kr26_1 kr26_2 kr29_0 kr29_1)
      (refine Cn_el vcn0 ?_; intros ki5_2 ki6_2 ki7_2 ki8_1 ki8_2 ki8_3 ki9_1 ki9_2 ki9_3 ki10_1 ki10_2 ki10_3 ki11_1 ki11_2 ki11_3 ki12_1 ki12_2 ki12_3 ki13_1 ki13_2 ki13_3 ki14_1 ki14_2 ki14_3 ki28_0 ki28_1 ki31_0 ki31_1 ki32_0 ki32_1 ki33_0 ki33_1 ki34_0 ki34_1 ki35_0 ki35_1 ki36_0 ki36_1)
      have hAe : ∀ i j, i < 40 → j < 40 → (A i = A j ↔ i = j) := hA
      simp only [o80_9, o80_10, o80_13, mcs_0, Kn_0, mrf_some, true_and, Nat.reduceSub, Nat.zero_le, Nat.le_refl, kc0, kc19, kr0_10]
      refine c_joined (Wo_of R8) b (fun m3 s9 f3 t hs => ?_)
      have R9 := Rl_Fr R8 f3
      simp only [o80_16, Kn_v, Kc_v]
      have RL9 := R9
      have R0 := R9
      obtain ⟨vk, vcn, v0, v1, v2, vp, vl0, vl1, vlr, vsr, vc, tx⟩ := R0
      have vk0 := vk
      have vcn0 := vcn
      (refine K_el vk0 ?_; intros hA kc0 kc1 kc2 kc3 kc4 kc5 kc6 kc7 kc8 kc9 kc10 kc11 kc12 kc13 kc14 kc15 kc16 kc17 kc18 kc19 kc20 kc21 kc22 kc23 kc24 kc25 kc26 kc27 kc28 kc29 kc30 kc31 kc32 kc33 kc34 kc35 kc36 kc37 kc38 kc39 kz kt kn3 kn4 kn18 kn21 kn23 kn24 kn25 kn26 kn27 kn29 kn30 kr0_0 kr0_1 kr0_2 kr0_3 kr0_4 kr0_5 kr0_7 kr0_8 kr0_9 kr0_10 kr1_0 kr2_0 kr5_0 kr5_1 kr6_0 kr6_1 kr7_0 kr7_1 kr8_0 kr9_0 kr10_0 kr11_0 kr12_0 kr13_0 kr14_0 kr15_0 kr16_0 kr17_0 kr19_0 kr19_1 kr22_0 kr22_1 kr22_2 kr22_3 kr22_4 kr22_5 kr22_7 kr22_8 kr25_0 kr25_1 kr25_2 kr26_0 kr26_1 kr26_2 kr29_0 kr29_1)
      (refine Cn_el vcn0 ?_; intros ki5_2 ki6_2 ki7_2 ki8_1 ki8_2 ki8_3 ki9_1 ki9_2 ki9_3 ki10_1 ki10_2 ki10_3 ki11_1 ki11_2 ki11_3 ki12_1 ki12_2 ki12_3 ki13_1 ki13_2 ki13_3 ki14_1 ki14_2 ki14_3 ki28_0 ki28_1 ki31_0 ki31_1 ki32_0 ki32_1 ki33_0 ki33_1 ki34_0 ki34_1 ki35_0 ki35_1 ki36_0 ki36_1)
      have hAe : ∀ i j, i < 40 → j < 40 → (A i = A j ↔ i = j) := hA
      simp only [o310_6, o310_9, o310_15, o310_16, true_and, and_self, Sum.inl.injEq, Option.some.injEq, Value.int.injEq, exists_eq_left', Nat.reduceLT, kc39, kz]
      first | exact Rl_out RL9 | exact ⟨_, rfl, Rl_out RL9⟩
    · simp only [o310_0, o310_1, o310_2, o310_3, o80_0, o80_1, o80_2, o80_3, o80_6, c_queueOf_2, mcs_0, mcs_r, Kn_v, true_and, Nat.reduceLeDiff, Nat.reduceSub, Nat.reduceAdd, Nat.zero_le, Nat.le_refl, Option.some.injEq, kc0, kr0_4]
      refine c_gQ2 R (fun m f b => ?_)
      have R8 := Rl_Fx R f b
      have R0 := R8
      obtain ⟨vk, vcn, v0, v1, v2, vp, vl0, vl1, vlr, vsr, vc, tx⟩ := R0
      have vk0 := vk
      have vcn0 := vcn
      (refine K_el vk0 ?_; intros hA kc0 kc1 kc2 kc3 kc4 kc5 kc6 kc7 kc8 kc9 kc10 kc11 kc12 kc13 kc14 kc15 kc16 kc17 kc18 kc19 kc20 kc21 kc22 kc23 kc24 kc25 kc26 kc27 kc28 kc29 kc30 kc31 kc32 kc33 kc34 kc35 kc36 kc37 kc38 kc39 kz kt kn3 kn4 kn18 kn21 kn23 kn24 kn25 kn26 kn27 kn29 kn30 kr0_0 kr0_1 kr0_2 kr0_3 kr0_4 kr0_5 kr0_7 kr0_8 kr0_9 kr0_10 kr1_0 kr2_0 kr5_0 kr5_1 kr6_0 kr6_1 kr7_0 kr7_1 kr8_0 kr9_0 kr10_0 kr11_0 kr12_0 kr13_0 kr14_0 kr15_0 kr16_0 kr17_0 kr19_0 kr19_1 kr22_0 kr22_1 kr22_2 kr22_3 kr22_4 kr22_5 kr22_7 kr22_8 kr25_0 kr25_1 kr25_2 kr26_0 kr26_1 kr26_2 kr29_0 kr29_1)
      (refine Cn_el vcn0 ?_; intros ki5_2 ki6_2 ki7_2 ki8_1 ki8_2 ki8_3 ki9_1 ki9_2 ki9_3 ki10_1 ki10_2 ki10_3 ki11_1 ki11_2 ki11_3 ki12_1 ki12_2 ki12_3 ki13_1 ki13_2 ki13_3 ki14_1 ki14_2 ki14_3 ki28_0 ki28_1 ki31_0 ki31_1 ki32_0 ki32_1 ki33_0 ki33_1 ki34_0 ki34_1 ki35_0 ki35_1 ki36_0 ki36_1)
      have hAe : ∀ i j, i < 40 → j < 40 → (A i = A j ↔ i = j) := hA
      simp only [o80_9, o80_10, o80_13, mcs_0, Kn_0, mrf_some, true_and, Nat.reduceSub, Nat.zero_le, Nat.le_refl, kc0, kc19, kr0_10]
      refine c_joined (Wo_of R8) b (fun m3 s9 f3 t hs => ?_)
      have R9 := Rl_Fr R8 f3
      simp only [o80_16, Kn_v, Kc_v]
      have RL9 := R9
      have R0 := R9
      obtain ⟨vk, vcn, v0, v1, v2, vp, vl0, vl1, vlr, vsr, vc, tx⟩ := R0
      have vk0 := vk
      have vcn0 := vcn
      (refine K_el vk0 ?_; intros hA kc0 kc1 kc2 kc3 kc4 kc5 kc6 kc7 kc8 kc9 kc10 kc11 kc12 kc13 kc14 kc15 kc16 kc17 kc18 kc19 kc20 kc21 kc22 kc23 kc24 kc25 kc26 kc27 kc28 kc29 kc30 kc31 kc32 kc33 kc34 kc35 kc36 kc37 kc38 kc39 kz kt kn3 kn4 kn18 kn21 kn23 kn24 kn25 kn26 kn27 kn29 kn30 kr0_0 kr0_1 kr0_2 kr0_3 kr0_4 kr0_5 kr0_7 kr0_8 kr0_9 kr0_10 kr1_0 kr2_0 kr5_0 kr5_1 kr6_0 kr6_1 kr7_0 kr7_1 kr8_0 kr9_0 kr10_0 kr11_0 kr12_0 kr13_0 kr14_0 kr15_0 kr16_0 kr17_0 kr19_0 kr19_1 kr22_0 kr22_1 kr22_2 kr22_3 kr22_4 kr22_5 kr22_7 kr22_8 kr25_0 kr25_1 kr25_2 kr26_0 kr26_1 kr26_2 kr29_0 kr29_1)
      (refine Cn_el vcn0 ?_; intros ki5_2 ki6_2 ki7_2 ki8_1 ki8_2 ki8_3 ki9_1 ki9_2 ki9_3 ki10_1 ki10_2 ki10_3 ki11_1 ki11_2 ki11_3 ki12_1 ki12_2 ki12_3 ki13_1 ki13_2 ki13_3 ki14_1 ki14_2 ki14_3 ki28_0 ki28_1 ki31_0 ki31_1 ki32_0 ki32_1 ki33_0 ki33_1 ki34_0 ki34_1 ki35_0 ki35_1 ki36_0 ki36_1)
      have hAe : ∀ i j, i < 40 → j < 40 → (A i = A j ↔ i = j) := hA
      simp only [o310_6, o310_9, o310_15, o310_16, true_and, and_self, Sum.inl.injEq, Option.some.injEq, Value.int.injEq, exists_eq_left', Nat.reduceLT, kc39, kz]
      first | exact Rl_out RL9 | exact ⟨_, rfl, Rl_out RL9⟩

theorem m_queueText {A : Nat → Nat} {h : MH} (R : Rl A h) (Cc : Cs h) {q : Int32} : Ok 205 0 [.ref (A 22), .int q] [] h 16 1974 (fun r m => ∃ b : Nat, r = .inl (some (.ref b)) ∧ Rl A m) := by
  have R0 := R
  obtain ⟨vk, vcn, v0, v1, v2, vp, vl0, vl1, vlr, vsr, vc, tx⟩ := R0
  have vk0 := vk
  have vcn0 := vcn
  (refine K_el vk0 ?_; intros hA kc0 kc1 kc2 kc3 kc4 kc5 kc6 kc7 kc8 kc9 kc10 kc11 kc12 kc13 kc14 kc15 kc16 kc17 kc18 kc19 kc20 kc21 kc22 kc23 kc24 kc25 kc26 kc27 kc28 kc29 kc30 kc31 kc32 kc33 kc34 kc35 kc36 kc37 kc38 kc39 kz kt kn3 kn4 kn18 kn21 kn23 kn24 kn25 kn26 kn27 kn29 kn30 kr0_0 kr0_1 kr0_2 kr0_3 kr0_4 kr0_5 kr0_7 kr0_8 kr0_9 kr0_10 kr1_0 kr2_0 kr5_0 kr5_1 kr6_0 kr6_1 kr7_0 kr7_1 kr8_0 kr9_0 kr10_0 kr11_0 kr12_0 kr13_0 kr14_0 kr15_0 kr16_0 kr17_0 kr19_0 kr19_1 kr22_0 kr22_1 kr22_2 kr22_3 kr22_4 kr22_5 kr22_7 kr22_8 kr25_0 kr25_1 kr25_2 kr26_0 kr26_1 kr26_2 kr29_0 kr29_1)
  (refine Cn_el vcn0 ?_; intros ki5_2 ki6_2 ki7_2 ki8_1 ki8_2 ki8_3 ki9_1 ki9_2 ki9_3 ki10_1 ki10_2 ki10_3 ki11_1 ki11_2 ki11_3 ki12_1 ki12_2 ki12_3 ki13_1 ki13_2 ki13_3 ki14_1 ki14_2 ki14_3 ki28_0 ki28_1 ki31_0 ki31_1 ki32_0 ki32_1 ki33_0 ki33_1 ki34_0 ki34_1 ki35_0 ki35_1 ki36_0 ki36_1)
  have hAe : ∀ i j, i < 40 → j < 40 → (A i = A j ↔ i = j) := hA
  by_cases bq : q < 0 ∨ ¬ q < 3
  · have bq2 : (¬ q < 0 ∧ q < 3) = False := nrng bq
    simp only [o205_0, o205_1, o205_2, o205_5, o205_8, o205_9, o205_12, o205_13, o205_16, o205_19, o205_21, o205_24, o205_25, o205_26, o205_29, c_X8_isQueue, c_X8_isThrown__, mc_pi, ma_pi, mcs_0, mcs_r, Kn_v, true_and, and_true, not_true_eq_false, not_false_eq_true, false_implies, forall_const, if_true, if_false, Nat.reduceLeDiff, Nat.reduceSub, Nat.reduceAdd, Nat.zero_le, Nat.le_refl, i10, Sum.inl.injEq, Option.some.injEq, Nat.reduceLT, kc22, kz, bq2]
    first | exact Rl_thr R | exact ⟨_, rfl, Rl_thr R⟩
  · have y1 : ¬ q < 0 := fun z => bq (Or.inl z)
    have y2 : q < 3 := Classical.byContradiction fun z => bq (Or.inr z)
    have bq2 : (¬ q < 0 ∧ q < 3) = True := eq_true ⟨y1, y2⟩
    have Rt : Rl A (p_i h (A 22) 9 0) := Rl_thr R
    have Ct : Cs (p_i h (A 22) 9 0) := Cs_Lw Cc (Lw_pi (kz 22 (by decide)))
    rcases q_cases y1 y2 with rfl | rfl | rfl
    · simp only [o205_0, o205_1, o205_2, o205_5, o205_8, o205_9, o205_12, o205_13, o205_16, o205_19, o205_21, o205_24, o205_25, o205_26, c_X8_isQueue, c_X8_isThrown__, mc_pi, ma_pi, mcs_0, mcs_r, Kn_v, true_and, and_true, not_true_eq_false, not_false_eq_true, false_implies, forall_const, if_true, if_false, and_self, Nat.reduceLeDiff, Nat.reduceSub, Nat.reduceAdd, Nat.zero_le, Nat.le_refl, i10, Int32.reduceLT, Nat.reduceLT, kc22, kz]
      refine m_textOf0 Rt Ct (fun m s9 sb hsb f t => ?_)
      have R9 := Rl_Fn Rt f hsb hsb
      simp only [o205_29, Kn_v, Sum.inl.injEq, Option.some.injEq]
      first | exact R9 | exact ⟨_, rfl, R9⟩
    · simp only [o205_0, o205_1, o205_2, o205_5, o205_8, o205_9, o205_12, o205_13, o205_16, o205_19, o205_21, o205_24, o205_25, o205_26, c_X8_isQueue, c_X8_isThrown__, mc_pi, ma_pi, mcs_0, mcs_r, Kn_v, true_and, and_true, not_true_eq_false, not_false_eq_true, false_implies, forall_const, if_true, if_false, and_self, Nat.reduceLeDiff, Nat.reduceSub, Nat.reduceAdd, Nat.zero_le, Nat.le_refl, i10, Int32.reduceLT, Nat.reduceLT, kc22, kz]
      refine m_textOf1 Rt Ct (fun m s9 sb hsb f t => ?_)
      have R9 := Rl_Fn Rt f hsb hsb
      simp only [o205_29, Kn_v, Sum.inl.injEq, Option.some.injEq]
      first | exact R9 | exact ⟨_, rfl, R9⟩
    · simp only [o205_0, o205_1, o205_2, o205_5, o205_8, o205_9, o205_12, o205_13, o205_16, o205_19, o205_21, o205_24, o205_25, o205_26, c_X8_isQueue, c_X8_isThrown__, mc_pi, ma_pi, mcs_0, mcs_r, Kn_v, true_and, and_true, not_true_eq_false, not_false_eq_true, false_implies, forall_const, if_true, if_false, and_self, Nat.reduceLeDiff, Nat.reduceSub, Nat.reduceAdd, Nat.zero_le, Nat.le_refl, i10, Int32.reduceLT, Nat.reduceLT, kc22, kz]
      refine m_textOf2 Rt Ct (fun m s9 sb hsb f t => ?_)
      have R9 := Rl_Fn Rt f hsb hsb
      simp only [o205_29, Kn_v, Sum.inl.injEq, Option.some.injEq]
      first | exact R9 | exact ⟨_, rfl, R9⟩

theorem x_pipeText {A : Nat → Nat} {h : MH} (R : Rl A h) : Ok 90 0 [.ref (A 0)] [] h 213 31804 (fun r m => ∃ b : Nat, r = .inl (some (.ref b)) ∧ Rl A m) := by
  have R0 := R
  obtain ⟨vk, vcn, v0, v1, v2, vp, vl0, vl1, vlr, vsr, vc, tx⟩ := R0
  have vk0 := vk
  have vcn0 := vcn
  (refine K_el vk0 ?_; intros hA kc0 kc1 kc2 kc3 kc4 kc5 kc6 kc7 kc8 kc9 kc10 kc11 kc12 kc13 kc14 kc15 kc16 kc17 kc18 kc19 kc20 kc21 kc22 kc23 kc24 kc25 kc26 kc27 kc28 kc29 kc30 kc31 kc32 kc33 kc34 kc35 kc36 kc37 kc38 kc39 kz kt kn3 kn4 kn18 kn21 kn23 kn24 kn25 kn26 kn27 kn29 kn30 kr0_0 kr0_1 kr0_2 kr0_3 kr0_4 kr0_5 kr0_7 kr0_8 kr0_9 kr0_10 kr1_0 kr2_0 kr5_0 kr5_1 kr6_0 kr6_1 kr7_0 kr7_1 kr8_0 kr9_0 kr10_0 kr11_0 kr12_0 kr13_0 kr14_0 kr15_0 kr16_0 kr17_0 kr19_0 kr19_1 kr22_0 kr22_1 kr22_2 kr22_3 kr22_4 kr22_5 kr22_7 kr22_8 kr25_0 kr25_1 kr25_2 kr26_0 kr26_1 kr26_2 kr29_0 kr29_1)
  (refine Cn_el vcn0 ?_; intros ki5_2 ki6_2 ki7_2 ki8_1 ki8_2 ki8_3 ki9_1 ki9_2 ki9_3 ki10_1 ki10_2 ki10_3 ki11_1 ki11_2 ki11_3 ki12_1 ki12_2 ki12_3 ki13_1 ki13_2 ki13_3 ki14_1 ki14_2 ki14_3 ki28_0 ki28_1 ki31_0 ki31_1 ki32_0 ki32_1 ki33_0 ki33_1 ki34_0 ki34_1 ki35_0 ki35_1 ki36_0 ki36_1)
  have hAe : ∀ i j, i < 40 → j < 40 → (A i = A j ↔ i = j) := hA
  simp only [o90_0, o90_1, mcs_0, true_and, Nat.reduceLeDiff, Nat.reduceSub, Nat.zero_le, kc0]
  refine c_gP R (fun m f b => ?_)
  have R8 := Rl_Fx R f b
  have R0 := R8
  obtain ⟨vk, vcn, v0, v1, v2, vp, vl0, vl1, vlr, vsr, vc, tx⟩ := R0
  have vk0 := vk
  have vcn0 := vcn
  (refine K_el vk0 ?_; intros hA kc0 kc1 kc2 kc3 kc4 kc5 kc6 kc7 kc8 kc9 kc10 kc11 kc12 kc13 kc14 kc15 kc16 kc17 kc18 kc19 kc20 kc21 kc22 kc23 kc24 kc25 kc26 kc27 kc28 kc29 kc30 kc31 kc32 kc33 kc34 kc35 kc36 kc37 kc38 kc39 kz kt kn3 kn4 kn18 kn21 kn23 kn24 kn25 kn26 kn27 kn29 kn30 kr0_0 kr0_1 kr0_2 kr0_3 kr0_4 kr0_5 kr0_7 kr0_8 kr0_9 kr0_10 kr1_0 kr2_0 kr5_0 kr5_1 kr6_0 kr6_1 kr7_0 kr7_1 kr8_0 kr9_0 kr10_0 kr11_0 kr12_0 kr13_0 kr14_0 kr15_0 kr16_0 kr17_0 kr19_0 kr19_1 kr22_0 kr22_1 kr22_2 kr22_3 kr22_4 kr22_5 kr22_7 kr22_8 kr25_0 kr25_1 kr25_2 kr26_0 kr26_1 kr26_2 kr29_0 kr29_1)
  (refine Cn_el vcn0 ?_; intros ki5_2 ki6_2 ki7_2 ki8_1 ki8_2 ki8_3 ki9_1 ki9_2 ki9_3 ki10_1 ki10_2 ki10_3 ki11_1 ki11_2 ki11_3 ki12_1 ki12_2 ki12_3 ki13_1 ki13_2 ki13_3 ki14_1 ki14_2 ki14_3 ki28_0 ki28_1 ki31_0 ki31_1 ki32_0 ki32_1 ki33_0 ki33_1 ki34_0 ki34_1 ki35_0 ki35_1 ki36_0 ki36_1)
  have hAe : ∀ i j, i < 40 → j < 40 → (A i = A j ↔ i = j) := hA
  simp only [o90_4, o90_5, o90_8, mcs_0, Kn_0, mrf_some, true_and, Nat.reduceSub, Nat.zero_le, Nat.le_refl, kc0, kc19, kr0_10]
  refine c_joined (Wo_of R8) b (fun m3 s9 f3 t hs => ?_)
  have R9 := Rl_Fr R8 f3
  simp only [o90_11, Kn_v, Sum.inl.injEq, Option.some.injEq]
  first | exact R9 | exact ⟨_, rfl, R9⟩

theorem m_pipeText {A : Nat → Nat} {h : MH} (R : Rl A h) (Cc : Cs h) : Ok 220 0 [.ref (A 22)] [] h 24 3174 (fun r m => ∃ b : Nat, r = .inl (some (.ref b)) ∧ Rl A m) := by
  have R0 := R
  obtain ⟨vk, vcn, v0, v1, v2, vp, vl0, vl1, vlr, vsr, vc, tx⟩ := R0
  have vk0 := vk
  have vcn0 := vcn
  (refine K_el vk0 ?_; intros hA kc0 kc1 kc2 kc3 kc4 kc5 kc6 kc7 kc8 kc9 kc10 kc11 kc12 kc13 kc14 kc15 kc16 kc17 kc18 kc19 kc20 kc21 kc22 kc23 kc24 kc25 kc26 kc27 kc28 kc29 kc30 kc31 kc32 kc33 kc34 kc35 kc36 kc37 kc38 kc39 kz kt kn3 kn4 kn18 kn21 kn23 kn24 kn25 kn26 kn27 kn29 kn30 kr0_0 kr0_1 kr0_2 kr0_3 kr0_4 kr0_5 kr0_7 kr0_8 kr0_9 kr0_10 kr1_0 kr2_0 kr5_0 kr5_1 kr6_0 kr6_1 kr7_0 kr7_1 kr8_0 kr9_0 kr10_0 kr11_0 kr12_0 kr13_0 kr14_0 kr15_0 kr16_0 kr17_0 kr19_0 kr19_1 kr22_0 kr22_1 kr22_2 kr22_3 kr22_4 kr22_5 kr22_7 kr22_8 kr25_0 kr25_1 kr25_2 kr26_0 kr26_1 kr26_2 kr29_0 kr29_1)
  (refine Cn_el vcn0 ?_; intros ki5_2 ki6_2 ki7_2 ki8_1 ki8_2 ki8_3 ki9_1 ki9_2 ki9_3 ki10_1 ki10_2 ki10_3 ki11_1 ki11_2 ki11_3 ki12_1 ki12_2 ki12_3 ki13_1 ki13_2 ki13_3 ki14_1 ki14_2 ki14_3 ki28_0 ki28_1 ki31_0 ki31_1 ki32_0 ki32_1 ki33_0 ki33_1 ki34_0 ki34_1 ki35_0 ki35_1 ki36_0 ki36_1)
  have hAe : ∀ i j, i < 40 → j < 40 → (A i = A j ↔ i = j) := hA
  have Rt : Rl A (p_i h (A 22) 9 0) := Rl_thr R
  have Ct : Cs (p_i h (A 22) 9 0) := Cs_Lw Cc (Lw_pi (kz 22 (by decide)))
  simp only [o220_0, o220_1, o220_2, o220_5, o220_6, mc_pi, mcs_0, kok_0, true_and, and_self, Nat.reduceSub, Nat.zero_le, Nat.le_refl, Nat.reduceLT, kc22, kz]
  refine m_pipeTextNow Rt Ct (fun m s9 sb hsb f t => ?_)
  have R9 := Rl_Fn Rt f hsb hsb
  simp only [o220_9, Kn_v, Sum.inl.injEq, Option.some.injEq]
  first | exact R9 | exact ⟨_, rfl, R9⟩
end

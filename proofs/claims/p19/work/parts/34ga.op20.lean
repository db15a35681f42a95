set_option maxRecDepth 16384
/-! GATHERING, the class -/
set_option maxRecDepth 100000 in
theorem qL6_0 : ∀ t ∈ QS0, (lyF t).toNatClampNeg ≤ 6 ∧ lyF t = Int32.ofNat (lyF t).toNatClampNeg := by decide +kernel
set_option maxRecDepth 100000 in
theorem qL6_1 : ∀ t ∈ QS1, (lyF t).toNatClampNeg ≤ 6 ∧ lyF t = Int32.ofNat (lyF t).toNatClampNeg := by decide +kernel
set_option maxRecDepth 100000 in
theorem qL6_2 : ∀ t ∈ QS2, (lyF t).toNatClampNeg ≤ 6 ∧ lyF t = Int32.ofNat (lyF t).toNatClampNeg := by decide +kernel
theorem nmem {j : Nat} (h : j < 10) : Int32.ofNat j ∈ (List.range 10).map Int32.ofNat := List.mem_map.mpr ⟨j, List.mem_range.mpr h, rfl⟩
/-- what lies there, by how many are ahead -/
def qv0 (A : Nat → Nat) (h : MH) (j : Nat) : Int64 := g_l h (A 3) (1 + ceF (cT h (A 5) (A 8) (A 9)) (Int32.ofNat j)).toNatClampNeg
theorem gq_same0 {A : Nat → Nat} {h m : MH} (R : Rl A h) (f : Fx (A 20) (A 21) h m) : (cT m (A 5) (A 8) (A 9)) = (cT h (A 5) (A 8) (A 9)) ∧ ∀ k, g_l m (A 3) k = g_l h (A 3) k := by
  obtain ⟨vk, -⟩ := R
  have hA := vk.1
  have i5 := (Fx_at vk f (i := 5) (by decide) (fun z => absurd ((hA_5_20 hA).mp z) (by decide)) (fun z => absurd ((hA_5_21 hA).mp z) (by decide)))
  have i8 := (Fx_at vk f (i := 8) (by decide) (fun z => absurd ((hA_8_20 hA).mp z) (by decide)) (fun z => absurd ((hA_8_21 hA).mp z) (by decide)))
  have i9 := (Fx_at vk f (i := 9) (by decide) (fun z => absurd ((hA_9_20 hA).mp z) (by decide)) (fun z => absurd ((hA_9_21 hA).mp z) (by decide)))
  have i3 := (Fx_at vk f (i := 3) (by decide) (fun z => absurd ((hA_3_20 hA).mp z) (by decide)) (fun z => absurd ((hA_3_21 hA).mp z) (by decide)))
  exact ⟨by simp only [cT, i5.1, i8.1, i9.1], i3.2.1⟩
theorem gq_loop0 {A : Nat → Nat} {h : MH} {Q : MR → MH → Prop} {M : Nat} (R : Rl A h) (hM : lyF (cT h (A 5) (A 8) (A 9)) = Int32.ofNat M) (hM6 : M ≤ 6) (hQ : ∀ m, Fx (A 20) (A 21) h m → Bd (A 20) (tq (qv0 A h) M) m → Q (.inl none) m) : ∀ (d j : Nat) (m : MH), j + d = M → Fx (A 20) (A 21) h m → Bd (A 20) (tq (qv0 A h) j) m → Ok 129 14 [.ref (A 0), .ref (A 5), .int (Int32.ofNat M), .int (Int32.ofNat j)] [] m (21 * d) (3150 * d) Q
  | 0, j, m, hj, f, b => by
    have : j = M := by omega
    subst this
    rw [o129_14]
    simp only [o129_15, o129_16, o129_19, o129_20, o129_23, o129_24, o129_25, o129_37, mcs_0, csum_rf, true_and, and_true, not_true_eq_false, not_false_eq_true, false_implies, forall_const, Nat.reduceLeDiff, Nat.reduceAdd, lt_le, n_irr]
    exact hQ m f b
  | d + 1, j, m, hj, f, b => by
    have lp := gq_loop0 R hM hM6 hQ d (j + 1)
    have Rh := R
    have sm := gq_same0 R f
    obtain ⟨hT, hl⟩ := sm
    have qx := (qX_0 _ R.2.2.1.2 _ (nmem (j := j) (by omega))).resolve_left (fun z => z (by rw [hM, n_lt (by omega) (by omega)]; omega))
    obtain ⟨x1, x2, x3⟩ := qx
    replace R := Rl_Fx R f b
    clear hM
    have R0 := R
    obtain ⟨vk, vcn, v0, v1, v2, vp, vl0, vl1, vlr, vsr, vc, tx⟩ := R0
    have vk0 := vk
    have vcn0 := vcn
    (refine K_el vk0 ?_; intros hA kc0 kc1 kc2 kc3 kc4 kc5 kc6 kc7 kc8 kc9 kc10 kc11 kc12 kc13 kc14 kc15 kc16 kc17 kc18 kc19 kc20 kc21 kc22 kc23 kc24 kc25 kc26 kc27 kc28 kc29 kc30 kc31 kc32 kc33 kc34 kc35 kc36 kc37 kc38 kc39 kz kt kn3 kn4 kn18 kn21 kn23 kn24 kn25 kn26 kn27 kn29 kn30 kr0_0 kr0_1 kr0_2 kr0_3 kr0_4 kr0_5 kr0_7 kr0_8 kr0_9 kr0_10 kr1_0 kr2_0 kr5_0 kr5_1 kr6_0 kr6_1 kr7_0 kr7_1 kr8_0 kr9_0 kr10_0 kr11_0 kr12_0 kr13_0 kr14_0 kr15_0 kr16_0 kr17_0 kr19_0 kr19_1 kr22_0 kr22_1 kr22_2 kr22_3 kr22_4 kr22_5 kr22_7 kr22_8 kr25_0 kr25_1 kr25_2 kr26_0 kr26_1 kr26_2 kr29_0 kr29_1)
    (refine Cn_el vcn0 ?_; intros ki5_2 ki6_2 ki7_2 ki8_1 ki8_2 ki8_3 ki9_1 ki9_2 ki9_3 ki10_1 ki10_2 ki10_3 ki11_1 ki11_2 ki11_3 ki12_1 ki12_2 ki12_3 ki13_1 ki13_2 ki13_3 ki14_1 ki14_2 ki14_3 ki28_0 ki28_1 ki31_0 ki31_1 ki32_0 ki32_1 ki33_0 ki33_1 ki34_0 ki34_1 ki35_0 ki35_1 ki36_0 ki36_1)
    have hAe : ∀ i j, i < 40 → j < 40 → (A i = A j ↔ i = j) := hA
    have c1 : (Int32.ofNat j < Int32.ofNat M) = True := by rw [n_lt (by omega) (by omega)]; exact eq_true (by omega)
    have c5 : Int32.ofNat j + 1 = Int32.ofNat (j + 1) := n_add j 1
    have c6 : (21 ≤ 21 * (d + 1)) = True := eq_true (by omega)
    have c7 : (3150 ≤ 3150 * (d + 1)) = True := eq_true (by omega)
    have c8 : 3150 * (d + 1) - 3150 = 3150 * d := by omega
    have c9 : 21 * (d + 1) - 21 = 21 * d := by omega
    have hv : g_l h (A 3) (1 + ceF (cT h (A 5) (A 8) (A 9)) (Int32.ofNat j)).toNatClampNeg = qv0 A h j := rfl
    rw [o129_14]
    simp only [o129_15, o129_16, o129_19, o129_20, o129_23, o129_24, o129_25, o129_28, c_X1_lyingAt (w := A 8) (r := A 9) (rw := A 1) (cs := A 3) (n := 16), mcs_0, mcs_r, Kn_v, mrf_some, true_and, not_true_eq_false, not_false_eq_true, false_implies, forall_const, Nat.reduceLeDiff, Nat.reduceAdd, Nat.zero_le, lt_le, kc0, kc1, kc3, kc5, kc8, kc9, kc19, kn3, kr0_10, kr1_0, kr5_0, kr5_1, kr9_0, ki9_1, ki9_2, hT, hl, hv, c1, x1, x2, x3, c6, c7, c8, c9]
    have t6 := tq_le (qv0 A h) 20 (fun j => tsz_le _) (j + 1)
    unfold tq at t6
    refine c_add (Wo_of R) b (by omega) (fun m2 f2 b2 => ?_)
    simp only [o129_31, o129_34, Kn_0, c5]
    exact lp m2 (by omega) (Fx_tr f f2) b2

theorem c_gQ0 {A : Nat → Nat} {h : MH} {Q : MR → MH → Prop} (R : Rl A h) (hQ : ∀ m, Fx (A 20) (A 21) h m → Bd (A 20) (tq (qv0 A h) (lyF (cT h (A 5) (A 8) (A 9))).toNatClampNeg) m → Q (.inl none) m) : Ok 129 0 [.ref (A 0), .ref (A 5), mk0, mk0] [] h 127 19050 Q := by
  obtain ⟨l6, le⟩ := qL6_0 _ R.2.2.1.2
  obtain ⟨n, b⟩ := Bd_of R
  have lp := gq_loop0 (Q := Q) R le l6 hQ
  generalize hM : (lyF (cT h (A 5) (A 8) (A 9))).toNatClampNeg = M at *
  have Rh := R
  have R0 := R
  obtain ⟨vk, vcn, v0, v1, v2, vp, vl0, vl1, vlr, vsr, vc, tx⟩ := R0
  have vk0 := vk
  have vcn0 := vcn
  (refine K_el vk0 ?_; intros hA kc0 kc1 kc2 kc3 kc4 kc5 kc6 kc7 kc8 kc9 kc10 kc11 kc12 kc13 kc14 kc15 kc16 kc17 kc18 kc19 kc20 kc21 kc22 kc23 kc24 kc25 kc26 kc27 kc28 kc29 kc30 kc31 kc32 kc33 kc34 kc35 kc36 kc37 kc38 kc39 kz kt kn3 kn4 kn18 kn21 kn23 kn24 kn25 kn26 kn27 kn29 kn30 kr0_0 kr0_1 kr0_2 kr0_3 kr0_4 kr0_5 kr0_7 kr0_8 kr0_9 kr0_10 kr1_0 kr2_0 kr5_0 kr5_1 kr6_0 kr6_1 kr7_0 kr7_1 kr8_0 kr9_0 kr10_0 kr11_0 kr12_0 kr13_0 kr14_0 kr15_0 kr16_0 kr17_0 kr19_0 kr19_1 kr22_0 kr22_1 kr22_2 kr22_3 kr22_4 kr22_5 kr22_7 kr22_8 kr25_0 kr25_1 kr25_2 kr26_0 kr26_1 kr26_2 kr29_0 kr29_1)
  (refine Cn_el vcn0 ?_; intros ki5_2 ki6_2 ki7_2 ki8_1 ki8_2 ki8_3 ki9_1 ki9_2 ki9_3 ki10_1 ki10_2 ki10_3 ki11_1 ki11_2 ki11_3 ki12_1 ki12_2 ki12_3 ki13_1 ki13_2 ki13_3 ki14_1 ki14_2 ki14_3 ki28_0 ki28_1 ki31_0 ki31_1 ki32_0 ki32_1 ki33_0 ki33_1 ki34_0 ki34_1 ki35_0 ki35_1 ki36_0 ki36_1)
  have hAe : ∀ i j, i < 40 → j < 40 → (A i = A j ↔ i = j) := hA
  simp only [o129_0, o129_1, o129_4, mcs_0, mrf_some, true_and, Nat.reduceLeDiff, Nat.reduceSub, Nat.zero_le, kc0, kc19, kr0_10]
  refine c_start (Wo_of Rh) b (fun m f b2 => ?_)
  have sm := gq_same0 Rh f
  obtain ⟨hT, hl⟩ := sm
  have R := Rl_Fx Rh f b2
  have R0 := R
  obtain ⟨vk, vcn, v0, v1, v2, vp, vl0, vl1, vlr, vsr, vc, tx⟩ := R0
  have vk0 := vk
  have vcn0 := vcn
  (refine K_el vk0 ?_; intros hA kc0 kc1 kc2 kc3 kc4 kc5 kc6 kc7 kc8 kc9 kc10 kc11 kc12 kc13 kc14 kc15 kc16 kc17 kc18 kc19 kc20 kc21 kc22 kc23 kc24 kc25 kc26 kc27 kc28 kc29 kc30 kc31 kc32 kc33 kc34 kc35 kc36 kc37 kc38 kc39 kz kt kn3 kn4 kn18 kn21 kn23 kn24 kn25 kn26 kn27 kn29 kn30 kr0_0 kr0_1 kr0_2 kr0_3 kr0_4 kr0_5 kr0_7 kr0_8 kr0_9 kr0_10 kr1_0 kr2_0 kr5_0 kr5_1 kr6_0 kr6_1 kr7_0 kr7_1 kr8_0 kr9_0 kr10_0 kr11_0 kr12_0 kr13_0 kr14_0 kr15_0 kr16_0 kr17_0 kr19_0 kr19_1 kr22_0 kr22_1 kr22_2 kr22_3 kr22_4 kr22_5 kr22_7 kr22_8 kr25_0 kr25_1 kr25_2 kr26_0 kr26_1 kr26_2 kr29_0 kr29_1)
  (refine Cn_el vcn0 ?_; intros ki5_2 ki6_2 ki7_2 ki8_1 ki8_2 ki8_3 ki9_1 ki9_2 ki9_3 ki10_1 ki10_2 ki10_3 ki11_1 ki11_2 ki11_3 ki12_1 ki12_2 ki12_3 ki13_1 ki13_2 ki13_3 ki14_1 ki14_2 ki14_3 ki28_0 ki28_1 ki31_0 ki31_1 ki32_0 ki32_1 ki33_0 ki33_1 ki34_0 ki34_1 ki35_0 ki35_1 ki36_0 ki36_1)
  have hAe : ∀ i j, i < 40 → j < 40 → (A i = A j ↔ i = j) := hA
  simp only [o129_7, o129_8, o129_11, o129_12, o129_13, c_X1_lying (w := A 8) (r := A 9), mcs_0, Kn_v, Kn_0, true_and, Nat.zero_le, kc5, kc8, kc9, kr5_0, kr5_1, hT, le]
  exact Ok_le (lp M 0 m (by omega) f b2) _ _ (by omega) (by omega)

/-- what lies there, by how many are ahead -/
def qv1 (A : Nat → Nat) (h : MH) (j : Nat) : Int64 := g_l h (A 3) (6 + ceF (cT h (A 6) (A 10) (A 11)) (Int32.ofNat j)).toNatClampNeg
theorem gq_same1 {A : Nat → Nat} {h m : MH} (R : Rl A h) (f : Fx (A 20) (A 21) h m) : (cT m (A 6) (A 10) (A 11)) = (cT h (A 6) (A 10) (A 11)) ∧ ∀ k, g_l m (A 3) k = g_l h (A 3) k := by
  obtain ⟨vk, -⟩ := R
  have hA := vk.1
  have i6 := (Fx_at vk f (i := 6) (by decide) (fun z => absurd ((hA_6_20 hA).mp z) (by decide)) (fun z => absurd ((hA_6_21 hA).mp z) (by decide)))
  have i10 := (Fx_at vk f (i := 10) (by decide) (fun z => absurd ((hA_10_20 hA).mp z) (by decide)) (fun z => absurd ((hA_10_21 hA).mp z) (by decide)))
  have i11 := (Fx_at vk f (i := 11) (by decide) (fun z => absurd ((hA_11_20 hA).mp z) (by decide)) (fun z => absurd ((hA_11_21 hA).mp z) (by decide)))
  have i3 := (Fx_at vk f (i := 3) (by decide) (fun z => absurd ((hA_3_20 hA).mp z) (by decide)) (fun z => absurd ((hA_3_21 hA).mp z) (by decide)))
  exact ⟨by simp only [cT, i6.1, i10.1, i11.1], i3.2.1⟩
theorem gq_loop1 {A : Nat → Nat} {h : MH} {Q : MR → MH → Prop} {M : Nat} (R : Rl A h) (hM : lyF (cT h (A 6) (A 10) (A 11)) = Int32.ofNat M) (hM6 : M ≤ 6) (hQ : ∀ m, Fx (A 20) (A 21) h m → Bd (A 20) (tq (qv1 A h) M) m → Q (.inl none) m) : ∀ (d j : Nat) (m : MH), j + d = M → Fx (A 20) (A 21) h m → Bd (A 20) (tq (qv1 A h) j) m → Ok 129 14 [.ref (A 0), .ref (A 6), .int (Int32.ofNat M), .int (Int32.ofNat j)] [] m (21 * d) (3150 * d) Q
  | 0, j, m, hj, f, b => by
    have : j = M := by omega
    subst this
    rw [o129_14]
    simp only [o129_15, o129_16, o129_19, o129_20, o129_23, o129_24, o129_25, o129_37, mcs_0, csum_rf, true_and, and_true, not_true_eq_false, not_false_eq_true, false_implies, forall_const, Nat.reduceLeDiff, Nat.reduceAdd, lt_le, n_irr]
    exact hQ m f b
  | d + 1, j, m, hj, f, b => by
    have lp := gq_loop1 R hM hM6 hQ d (j + 1)
    have Rh := R
    have sm := gq_same1 R f
    obtain ⟨hT, hl⟩ := sm
    have qx := (qX_1 _ R.2.2.2.1.2 _ (nmem (j := j) (by omega))).resolve_left (fun z => z (by rw [hM, n_lt (by omega) (by omega)]; omega))
    obtain ⟨x1, x2, x3⟩ := qx
    replace R := Rl_Fx R f b
    clear hM
    have R0 := R
    obtain ⟨vk, vcn, v0, v1, v2, vp, vl0, vl1, vlr, vsr, vc, tx⟩ := R0
    have vk0 := vk
    have vcn0 := vcn
    (refine K_el vk0 ?_; intros hA kc0 kc1 kc2 kc3 kc4 kc5 kc6 kc7 kc8 kc9 kc10 kc11 kc12 kc13 kc14 kc15 kc16 kc17 kc18 kc19 kc20 kc21 kc22 kc23 kc24 kc25 kc26 kc27 kc28 kc29 kc30 kc31 kc32 kc33 kc34 kc35 kc36 kc37 kc38 kc39 kz kt kn3 kn4 kn18 kn21 kn23 kn24 kn25 kn26 kn27 kn29 kn30 kr0_0 kr0_1 kr0_2 kr0_3 kr0_4 kr0_5 kr0_7 kr0_8 kr0_9 kr0_10 kr1_0 kr2_0 kr5_0 kr5_1 kr6_0 kr6_1 kr7_0 kr7_1 kr8_0 kr9_0 kr10_0 kr11_0 kr12_0 kr13_0 kr14_0 kr15_0 kr16_0 kr17_0 kr19_0 kr19_1 kr22_0 kr22_1 kr22_2 kr22_3 kr22_4 kr22_5 kr22_7 kr22_8 kr25_0 kr25_1 kr25_2 kr26_0 kr26_1 kr26_2 kr29_0 kr29_1)
    (refine Cn_el vcn0 ?_; intros ki5_2 ki6_2 ki7_2 ki8_1 ki8_2 ki8_3 ki9_1 ki9_2 ki9_3 ki10_1 ki10_2 ki10_3 ki11_1 ki11_2 ki11_3 ki12_1 ki12_2 ki12_3 ki13_1 ki13_2 ki13_3 ki14_1 ki14_2 ki14_3 ki28_0 ki28_1 ki31_0 ki31_1 ki32_0 ki32_1 ki33_0 ki33_1 ki34_0 ki34_1 ki35_0 ki35_1 ki36_0 ki36_1)
    have hAe : ∀ i j, i < 40 → j < 40 → (A i = A j ↔ i = j) := hA
    have c1 : (Int32.ofNat j < Int32.ofNat M) = True := by rw [n_lt (by omega) (by omega)]; exact eq_true (by omega)
    have c5 : Int32.ofNat j + 1 = Int32.ofNat (j + 1) := n_add j 1
    have c6 : (21 ≤ 21 * (d + 1)) = True := eq_true (by omega)
    have c7 : (3150 ≤ 3150 * (d + 1)) = True := eq_true (by omega)
    have c8 : 3150 * (d + 1) - 3150 = 3150 * d := by omega
    have c9 : 21 * (d + 1) - 21 = 21 * d := by omega
    have hv : g_l h (A 3) (6 + ceF (cT h (A 6) (A 10) (A 11)) (Int32.ofNat j)).toNatClampNeg = qv1 A h j := rfl
    rw [o129_14]
    simp only [o129_15, o129_16, o129_19, o129_20, o129_23, o129_24, o129_25, o129_28, c_X1_lyingAt (w := A 10) (r := A 11) (rw := A 1) (cs := A 3) (n := 16), mcs_0, mcs_r, Kn_v, mrf_some, true_and, not_true_eq_false, not_false_eq_true, false_implies, forall_const, Nat.reduceLeDiff, Nat.reduceAdd, Nat.zero_le, lt_le, kc0, kc1, kc3, kc6, kc10, kc11, kc19, kn3, kr0_10, kr1_0, kr6_0, kr6_1, kr11_0, ki11_1, ki11_2, hT, hl, hv, c1, x1, x2, x3, c6, c7, c8, c9]
    have t6 := tq_le (qv1 A h) 20 (fun j => tsz_le _) (j + 1)
    unfold tq at t6
    refine c_add (Wo_of R) b (by omega) (fun m2 f2 b2 => ?_)
    simp only [o129_31, o129_34, Kn_0, c5]
    exact lp m2 (by omega) (Fx_tr f f2) b2

theorem c_gQ1 {A : Nat → Nat} {h : MH} {Q : MR → MH → Prop} (R : Rl A h) (hQ : ∀ m, Fx (A 20) (A 21) h m → Bd (A 20) (tq (qv1 A h) (lyF (cT h (A 6) (A 10) (A 11))).toNatClampNeg) m → Q (.inl none) m) : Ok 129 0 [.ref (A 0), .ref (A 6), mk0, mk0] [] h 127 19050 Q := by
  obtain ⟨l6, le⟩ := qL6_1 _ R.2.2.2.1.2
  obtain ⟨n, b⟩ := Bd_of R
  have lp := gq_loop1 (Q := Q) R le l6 hQ
  generalize hM : (lyF (cT h (A 6) (A 10) (A 11))).toNatClampNeg = M at *
  have Rh := R
  have R0 := R
  obtain ⟨vk, vcn, v0, v1, v2, vp, vl0, vl1, vlr, vsr, vc, tx⟩ := R0
  have vk0 := vk
  have vcn0 := vcn
  (refine K_el vk0 ?_; intros hA kc0 kc1 kc2 kc3 kc4 kc5 kc6 kc7 kc8 kc9 kc10 kc11 kc12 kc13 kc14 kc15 kc16 kc17 kc18 kc19 kc20 kc21 kc22 kc23 kc24 kc25 kc26 kc27 kc28 kc29 kc30 kc31 kc32 kc33 kc34 kc35 kc36 kc37 kc38 kc39 kz kt kn3 kn4 kn18 kn21 kn23 kn24 kn25 kn26 kn27 kn29 kn30 kr0_0 kr0_1 kr0_2 kr0_3 kr0_4 kr0_5 kr0_7 kr0_8 kr0_9 kr0_10 kr1_0 kr2_0 kr5_0 kr5_1 kr6_0 kr6_1 kr7_0 kr7_1 kr8_0 kr9_0 kr10_0 kr11_0 kr12_0 kr13_0 kr14_0 kr15_0 kr16_0 kr17_0 kr19_0 kr19_1 kr22_0 kr22_1 kr22_2 kr22_3 kr22_4 kr22_5 kr22_7 kr22_8 kr25_0 kr25_1 kr25_2 kr26_0 kr26_1 kr26_2 kr29_0 kr29_1)
  (refine Cn_el vcn0 ?_; intros ki5_2 ki6_2 ki7_2 ki8_1 ki8_2 ki8_3 ki9_1 ki9_2 ki9_3 ki10_1 ki10_2 ki10_3 ki11_1 ki11_2 ki11_3 ki12_1 ki12_2 ki12_3 ki13_1 ki13_2 ki13_3 ki14_1 ki14_2 ki14_3 ki28_0 ki28_1 ki31_0 ki31_1 ki32_0 ki32_1 ki33_0 ki33_1 ki34_0 ki34_1 ki35_0 ki35_1 ki36_0 ki36_1)
  have hAe : ∀ i j, i < 40 → j < 40 → (A i = A j ↔ i = j) := hA
  simp only [o129_0, o129_1, o129_4, mcs_0, mrf_some, true_and, Nat.reduceLeDiff, Nat.reduceSub, Nat.zero_le, kc0, kc19, kr0_10]
  refine c_start (Wo_of Rh) b (fun m f b2 => ?_)
  have sm := gq_same1 Rh f
  obtain ⟨hT, hl⟩ := sm
  have R := Rl_Fx Rh f b2
  have R0 := R
  obtain ⟨vk, vcn, v0, v1, v2, vp, vl0, vl1, vlr, vsr, vc, tx⟩ := R0
  have vk0 := vk
  have vcn0 := vcn
  (refine K_el vk0 ?_; intros hA kc0 kc1 kc2 kc3 kc4 kc5 kc6 kc7 kc8 kc9 kc10 kc11 kc12 kc13 kc14 kc15 kc16 kc17 kc18 kc19 kc20 kc21 kc22 kc23 kc24 kc25 kc26 kc27 kc28 kc29 kc30 kc31 kc32 kc33 kc34 kc35 kc36 kc37 kc38 kc39 kz kt kn3 kn4 kn18 kn21 kn23 kn24 kn25 kn26 kn27 kn29 kn30 kr0_0 kr0_1 kr0_2 kr0_3 kr0_4 kr0_5 kr0_7 kr0_8 kr0_9 kr0_10 kr1_0 kr2_0 kr5_0 kr5_1 kr6_0 kr6_1 kr7_0 kr7_1 kr8_0 kr9_0 kr10_0 kr11_0 kr12_0 kr13_0 kr14_0 kr15_0 kr16_0 kr17_0 kr19_0 kr19_1 kr22_0 kr22_1 kr22_2 kr22_3 kr22_4 kr22_5 kr22_7 kr22_8 kr25_0 kr25_1 kr25_2 kr26_0 kr26_1 kr26_2 kr29_0 kr29_1)
  (refine Cn_el vcn0 ?_; intros ki5_2 ki6_2 ki7_2 ki8_1 ki8_2 ki8_3 ki9_1 ki9_2 ki9_3 ki10_1 ki10_2 ki10_3 ki11_1 ki11_2 ki11_3 ki12_1 ki12_2 ki12_3 ki13_1 ki13_2 ki13_3 ki14_1 ki14_2 ki14_3 ki28_0 ki28_1 ki31_0 ki31_1 ki32_0 ki32_1 ki33_0 ki33_1 ki34_0 ki34_1 ki35_0 ki35_1 ki36_0 ki36_1)
  have hAe : ∀ i j, i < 40 → j < 40 → (A i = A j ↔ i = j) := hA
  simp only [o129_7, o129_8, o129_11, o129_12, o129_13, c_X1_lying (w := A 10) (r := A 11), mcs_0, Kn_v, Kn_0, true_and, Nat.zero_le, kc6, kc10, kc11, kr6_0, kr6_1, hT, le]
  exact Ok_le (lp M 0 m (by omega) f b2) _ _ (by omega) (by omega)

/-- what lies there, by how many are ahead -/
def qv2 (A : Nat → Nat) (h : MH) (j : Nat) : Int64 := g_l h (A 3) (9 + ceF (cT h (A 7) (A 12) (A 13)) (Int32.ofNat j)).toNatClampNeg
theorem gq_same2 {A : Nat → Nat} {h m : MH} (R : Rl A h) (f : Fx (A 20) (A 21) h m) : (cT m (A 7) (A 12) (A 13)) = (cT h (A 7) (A 12) (A 13)) ∧ ∀ k, g_l m (A 3) k = g_l h (A 3) k := by
  obtain ⟨vk, -⟩ := R
  have hA := vk.1
  have i7 := (Fx_at vk f (i := 7) (by decide) (fun z => absurd ((hA_7_20 hA).mp z) (by decide)) (fun z => absurd ((hA_7_21 hA).mp z) (by decide)))
  have i12 := (Fx_at vk f (i := 12) (by decide) (fun z => absurd ((hA_12_20 hA).mp z) (by decide)) (fun z => absurd ((hA_12_21 hA).mp z) (by decide)))
  have i13 := (Fx_at vk f (i := 13) (by decide) (fun z => absurd ((hA_13_20 hA).mp z) (by decide)) (fun z => absurd ((hA_13_21 hA).mp z) (by decide)))
  have i3 := (Fx_at vk f (i := 3) (by decide) (fun z => absurd ((hA_3_20 hA).mp z) (by decide)) (fun z => absurd ((hA_3_21 hA).mp z) (by decide)))
  exact ⟨by simp only [cT, i7.1, i12.1, i13.1], i3.2.1⟩
theorem gq_loop2 {A : Nat → Nat} {h : MH} {Q : MR → MH → Prop} {M : Nat} (R : Rl A h) (hM : lyF (cT h (A 7) (A 12) (A 13)) = Int32.ofNat M) (hM6 : M ≤ 6) (hQ : ∀ m, Fx (A 20) (A 21) h m → Bd (A 20) (tq (qv2 A h) M) m → Q (.inl none) m) : ∀ (d j : Nat) (m : MH), j + d = M → Fx (A 20) (A 21) h m → Bd (A 20) (tq (qv2 A h) j) m → Ok 129 14 [.ref (A 0), .ref (A 7), .int (Int32.ofNat M), .int (Int32.ofNat j)] [] m (21 * d) (3150 * d) Q
  | 0, j, m, hj, f, b => by
    have : j = M := by omega
    subst this
    rw [o129_14]
    simp only [o129_15, o129_16, o129_19, o129_20, o129_23, o129_24, o129_25, o129_37, mcs_0, csum_rf, true_and, and_true, not_true_eq_false, not_false_eq_true, false_implies, forall_const, Nat.reduceLeDiff, Nat.reduceAdd, lt_le, n_irr]
    exact hQ m f b
  | d + 1, j, m, hj, f, b => by
    have lp := gq_loop2 R hM hM6 hQ d (j + 1)
    have Rh := R
    have sm := gq_same2 R f
    obtain ⟨hT, hl⟩ := sm
    have qx := (qX_2 _ R.2.2.2.2.1.2 _ (nmem (j := j) (by omega))).resolve_left (fun z => z (by rw [hM, n_lt (by omega) (by omega)]; omega))
    obtain ⟨x1, x2, x3⟩ := qx
    replace R := Rl_Fx R f b
    clear hM
    have R0 := R
    obtain ⟨vk, vcn, v0, v1, v2, vp, vl0, vl1, vlr, vsr, vc, tx⟩ := R0
    have vk0 := vk
    have vcn0 := vcn
    (refine K_el vk0 ?_; intros hA kc0 kc1 kc2 kc3 kc4 kc5 kc6 kc7 kc8 kc9 kc10 kc11 kc12 kc13 kc14 kc15 kc16 kc17 kc18 kc19 kc20 kc21 kc22 kc23 kc24 kc25 kc26 kc27 kc28 kc29 kc30 kc31 kc32 kc33 kc34 kc35 kc36 kc37 kc38 kc39 kz kt kn3 kn4 kn18 kn21 kn23 kn24 kn25 kn26 kn27 kn29 kn30 kr0_0 kr0_1 kr0_2 kr0_3 kr0_4 kr0_5 kr0_7 kr0_8 kr0_9 kr0_10 kr1_0 kr2_0 kr5_0 kr5_1 kr6_0 kr6_1 kr7_0 kr7_1 kr8_0 kr9_0 kr10_0 kr11_0 kr12_0 kr13_0 kr14_0 kr15_0 kr16_0 kr17_0 kr19_0 kr19_1 kr22_0 kr22_1 kr22_2 kr22_3 kr22_4 kr22_5 kr22_7 kr22_8 kr25_0 kr25_1 kr25_2 kr26_0 kr26_1 kr26_2 kr29_0 kr29_1)
    (refine Cn_el vcn0 ?_; intros ki5_2 ki6_2 ki7_2 ki8_1 ki8_2 ki8_3 ki9_1 ki9_2 ki9_3 ki10_1 ki10_2 ki10_3 ki11_1 ki11_2 ki11_3 ki12_1 ki12_2 ki12_3 ki13_1 ki13_2 ki13_3 ki14_1 ki14_2 ki14_3 ki28_0 ki28_1 ki31_0 ki31_1 ki32_0 ki32_1 ki33_0 ki33_1 ki34_0 ki34_1 ki35_0 ki35_1 ki36_0 ki36_1)
    have hAe : ∀ i j, i < 40 → j < 40 → (A i = A j ↔ i = j) := hA
    have c1 : (Int32.ofNat j < Int32.ofNat M) = True := by rw [n_lt (by omega) (by omega)]; exact eq_true (by omega)
    have c5 : Int32.ofNat j + 1 = Int32.ofNat (j + 1) := n_add j 1
    have c6 : (21 ≤ 21 * (d + 1)) = True := eq_true (by omega)
    have c7 : (3150 ≤ 3150 * (d + 1)) = True := eq_true (by omega)
    have c8 : 3150 * (d + 1) - 3150 = 3150 * d := by omega
    have c9 : 21 * (d + 1) - 21 = 21 * d := by omega
    have hv : g_l h (A 3) (9 + ceF (cT h (A 7) (A 12) (A 13)) (Int32.ofNat j)).toNatClampNeg = qv2 A h j := rfl
    rw [o129_14]
    simp only [o129_15, o129_16, o129_19, o129_20, o129_23, o129_24, o129_25, o129_28, c_X1_lyingAt (w := A 12) (r := A 13) (rw := A 1) (cs := A 3) (n := 16), mcs_0, mcs_r, Kn_v, mrf_some, true_and, not_true_eq_false, not_false_eq_true, false_implies, forall_const, Nat.reduceLeDiff, Nat.reduceAdd, Nat.zero_le, lt_le, kc0, kc1, kc3, kc7, kc12, kc13, kc19, kn3, kr0_10, kr1_0, kr7_0, kr7_1, kr13_0, ki13_1, ki13_2, hT, hl, hv, c1, x1, x2, x3, c6, c7, c8, c9]
    have t6 := tq_le (qv2 A h) 20 (fun j => tsz_le _) (j + 1)
    unfold tq at t6
    refine c_add (Wo_of R) b (by omega) (fun m2 f2 b2 => ?_)
    simp only [o129_31, o129_34, Kn_0, c5]
    exact lp m2 (by omega) (Fx_tr f f2) b2

theorem c_gQ2 {A : Nat → Nat} {h : MH} {Q : MR → MH → Prop} (R : Rl A h) (hQ : ∀ m, Fx (A 20) (A 21) h m → Bd (A 20) (tq (qv2 A h) (lyF (cT h (A 7) (A 12) (A 13))).toNatClampNeg) m → Q (.inl none) m) : Ok 129 0 [.ref (A 0), .ref (A 7), mk0, mk0] [] h 127 19050 Q := by
  obtain ⟨l6, le⟩ := qL6_2 _ R.2.2.2.2.1.2
  obtain ⟨n, b⟩ := Bd_of R
  have lp := gq_loop2 (Q := Q) R le l6 hQ
  generalize hM : (lyF (cT h (A 7) (A 12) (A 13))).toNatClampNeg = M at *
  have Rh := R
  have R0 := R
  obtain ⟨vk, vcn, v0, v1, v2, vp, vl0, vl1, vlr, vsr, vc, tx⟩ := R0
  have vk0 := vk
  have vcn0 := vcn
  (refine K_el vk0 ?_; intros hA kc0 kc1 kc2 kc3 kc4 kc5 kc6 kc7 kc8 kc9 kc10 kc11 kc12 kc13 kc14 kc15 kc16 kc17 kc18 kc19 kc20 kc21 kc22 kc23 kc24 kc25 kc26 kc27 kc28 kc29 kc30 kc31 kc32 kc33 kc34 kc35 kc36 kc37 kc38 kc39 kz kt kn3 kn4 kn18 kn21 kn23 kn24 kn25 kn26 kn27 kn29 kn30 kr0_0 kr0_1 kr0_2 kr0_3 kr0_4 kr0_5 kr0_7 kr0_8 kr0_9 kr0_10 kr1_0 kr2_0 kr5_0 kr5_1 kr6_0 kr6_1 kr7_0 kr7_1 kr8_0 kr9_0 kr10_0 kr11_0 kr12_0 kr13_0 kr14_0 kr15_0 kr16_0 kr17_0 kr19_0 kr19_1 kr22_0 kr22_1 kr22_2 kr22_3 kr22_4 kr22_5 kr22_7 kr22_8 kr25_0 kr25_1 kr25_2 kr26_0 kr26_1 kr26_2 kr29_0 kr29_1)
  (refine Cn_el vcn0 ?_; intros ki5_2 ki6_2 ki7_2 ki8_1 ki8_2 ki8_3 ki9_1 ki9_2 ki9_3 ki10_1 ki10_2 ki10_3 ki11_1 ki11_2 ki11_3 ki12_1 ki12_2 ki12_3 ki13_1 ki13_2 ki13_3 ki14_1 ki14_2 ki14_3 ki28_0 ki28_1 ki31_0 ki31_1 ki32_0 ki32_1 ki33_0 ki33_1 ki34_0 ki34_1 ki35_0 ki35_1 ki36_0 ki36_1)
  have hAe : ∀ i j, i < 40 → j < 40 → (A i = A j ↔ i = j) := hA
  simp only [o129_0, o129_1, o129_4, mcs_0, mrf_some, true_and, Nat.reduceLeDiff, Nat.reduceSub, Nat.zero_le, kc0, kc19, kr0_10]
  refine c_start (Wo_of Rh) b (fun m f b2 => ?_)
  have sm := gq_same2 Rh f
  obtain ⟨hT, hl⟩ := sm
  have R := Rl_Fx Rh f b2
  have R0 := R
  obtain ⟨vk, vcn, v0, v1, v2, vp, vl0, vl1, vlr, vsr, vc, tx⟩ := R0
  have vk0 := vk
  have vcn0 := vcn
  (refine K_el vk0 ?_; intros hA kc0 kc1 kc2 kc3 kc4 kc5 kc6 kc7 kc8 kc9 kc10 kc11 kc12 kc13 kc14 kc15 kc16 kc17 kc18 kc19 kc20 kc21 kc22 kc23 kc24 kc25 kc26 kc27 kc28 kc29 kc30 kc31 kc32 kc33 kc34 kc35 kc36 kc37 kc38 kc39 kz kt kn3 kn4 kn18 kn21 kn23 kn24 kn25 kn26 kn27 kn29 kn30 kr0_0 kr0_1 kr0_2 kr0_3 kr0_4 kr0_5 kr0_7 kr0_8 kr0_9 kr0_10 kr1_0 kr2_0 kr5_0 kr5_1 kr6_0 kr6_1 kr7_0 kr7_1 kr8_0 kr9_0 kr10_0 kr11_0 kr12_0 kr13_0 kr14_0 kr15_0 kr16_0 kr17_0 kr19_0 kr19_1 kr22_0 kr22_1 kr22_2 kr22_3 kr22_4 kr22_5 kr22_7 kr22_8 kr25_0 kr25_1 kr25_2 kr26_0 kr26_1 kr26_2 kr29_0 kr29_1)
  (refine Cn_el vcn0 ?_; intros ki5_2 ki6_2 ki7_2 ki8_1 ki8_2 ki8_3 ki9_1 ki9_2 ki9_3 ki10_1 ki10_2 ki10_3 ki11_1 ki11_2 ki11_3 ki12_1 ki12_2 ki12_3 ki13_1 ki13_2 ki13_3 ki14_1 ki14_2 ki14_3 ki28_0 ki28_1 ki31_0 ki31_1 ki32_0 ki32_1 ki33_0 ki33_1 ki34_0 ki34_1 ki35_0 ki35_1 ki36_0 ki36_1)
  have hAe : ∀ i j, i < 40 → j < 40 → (A i = A j ↔ i = j) := hA
  simp only [o129_7, o129_8, o129_11, o129_12, o129_13, c_X1_lying (w := A 12) (r := A 13), mcs_0, Kn_v, Kn_0, true_and, Nat.zero_le, kc7, kc12, kc13, kr7_0, kr7_1, hT, le]
  exact Ok_le (lp M 0 m (by omega) f b2) _ _ (by omega) (by omega)

/-- what lies in the pipe -/
def pS (A : Nat → Nat) (h : MH) : Nat := if g_i h (A 0) 6 = 0 then 0 else (g_i h (A 14) 4).toNatClampNeg
def pNn (A : Nat → Nat) (h : MH) : Nat := if g_i h (A 0) 6 = 0 then (g_i h (A 14) 4).toNatClampNeg else (g_i h (A 14) 5).toNatClampNeg - (g_i h (A 14) 4).toNatClampNeg
def pv (A : Nat → Nat) (h : MH) (j : Nat) : Int64 := g_l h (A 4) (1 + (pS A h + j))
theorem pSN {A : Nat → Nat} {h : MH} (R : Rl A h) : pS A h + pNn A h ≤ 10 ∧ ((g_i h (A 0) 6 = 0 ∧ pS A h = 0 ∧ g_i h (A 14) 4 = Int32.ofNat (pS A h + pNn A h)) ∨ (g_i h (A 0) 6 = 1 ∧ g_i h (A 14) 4 = Int32.ofNat (pS A h) ∧ g_i h (A 14) 5 = Int32.ofNat (pS A h + pNn A h))) := by
  have R0 := R
  obtain ⟨vk, vcn, v0, v1, v2, vp, vl0, vl1, vlr, vsr, vc, tx⟩ := R0
  have vk0 := vk
  have vcn0 := vcn
  (refine K_el vk0 ?_; intros hA kc0 kc1 kc2 kc3 kc4 kc5 kc6 kc7 kc8 kc9 kc10 kc11 kc12 kc13 kc14 kc15 kc16 kc17 kc18 kc19 kc20 kc21 kc22 kc23 kc24 kc25 kc26 kc27 kc28 kc29 kc30 kc31 kc32 kc33 kc34 kc35 kc36 kc37 kc38 kc39 kz kt kn3 kn4 kn18 kn21 kn23 kn24 kn25 kn26 kn27 kn29 kn30 kr0_0 kr0_1 kr0_2 kr0_3 kr0_4 kr0_5 kr0_7 kr0_8 kr0_9 kr0_10 kr1_0 kr2_0 kr5_0 kr5_1 kr6_0 kr6_1 kr7_0 kr7_1 kr8_0 kr9_0 kr10_0 kr11_0 kr12_0 kr13_0 kr14_0 kr15_0 kr16_0 kr17_0 kr19_0 kr19_1 kr22_0 kr22_1 kr22_2 kr22_3 kr22_4 kr22_5 kr22_7 kr22_8 kr25_0 kr25_1 kr25_2 kr26_0 kr26_1 kr26_2 kr29_0 kr29_1)
  (refine Cn_el vcn0 ?_; intros ki5_2 ki6_2 ki7_2 ki8_1 ki8_2 ki8_3 ki9_1 ki9_2 ki9_3 ki10_1 ki10_2 ki10_3 ki11_1 ki11_2 ki11_3 ki12_1 ki12_2 ki12_3 ki13_1 ki13_2 ki13_3 ki14_1 ki14_2 ki14_3 ki28_0 ki28_1 ki31_0 ki31_1 ki32_0 ki32_1 ki33_0 ki33_1 ki34_0 ki34_1 ki35_0 ki35_1 ki36_0 ki36_1)
  have hAe : ∀ i j, i < 40 → j < 40 → (A i = A j ↔ i = j) := hA
  have hp2 := vp
  obtain ⟨⟨p1, p2, p3, p4⟩, hpm⟩ := hp2
  replace p1 := p1.symm
  replace p2 := p2.symm
  replace p3 := p3.symm
  replace p4 := p4.symm
  rw [p1, p2, p3, p4] at hpm
  obtain ⟨pm, pd⟩ := pA _ hpm
  simp only at pm pd
  rcases pd with pd | pd
  · obtain ⟨e1, e2, e3, -⟩ := pD _ hpm pd
    simp only at e1 e2 e3
    unfold pS pNn
    rw [if_pos pd, if_pos pd, Nat.zero_add]
    exact ⟨e3, Or.inl ⟨pd, rfl, e1⟩⟩
  · obtain ⟨e1, e2, e3, e4, -⟩ := pE _ hpm pd
    simp only at e1 e2 e3 e4
    have n0 : ¬ g_i h (A 0) 6 = 0 := fun z => by rw [pd] at z; exact absurd z (by decide)
    unfold pS pNn
    rw [if_neg n0, if_neg n0]
    have e5 : (g_i h (A 14) 4).toNatClampNeg + ((g_i h (A 14) 5).toNatClampNeg - (g_i h (A 14) 4).toNatClampNeg) = (g_i h (A 14) 5).toNatClampNeg := by omega
    rw [e5]
    exact ⟨e4, Or.inr ⟨pd, e1, e2⟩⟩
theorem pv_sz {A : Nat → Nat} {h : MH} (R : Rl A h) {j : Nat} (hj : j < pNn A h) : tsz (pv A h j) ≤ 6 := by
  have z := (pSN R).1
  have v := R.2.2.2.2.2.2.2.2.2.1 (1 + (pS A h + j)) (by omega)
  unfold pv
  rw [v.1, isz_tsz]
  exact isz_short v.2
theorem tq_lt (val : Nat → Int64) (b M : Nat) (hb : ∀ j, j < M → tsz (val j) ≤ b) : ∀ j, j ≤ M → tq val j ≤ (b + 1) * j
  | 0, _ => Nat.zero_le _
  | j + 1, hj => by
    have := tq_lt val b M hb j (by omega)
    have h1 := hb j (by omega)
    unfold tq
    have h2 : sep (tq val j) ≤ 1 := by unfold sep; split <;> omega
    rw [Nat.mul_succ]
    omega
theorem gp_same {A : Nat → Nat} {h m : MH} (R : Rl A h) (f : Fx (A 20) (A 21) h m) : (∀ k, g_l m (A 4) k = g_l h (A 4) k) ∧ (∀ k, g_i m (A 14) k = g_i h (A 14) k) ∧ ∀ k, g_i m (A 0) k = g_i h (A 0) k := by
  obtain ⟨vk, -⟩ := R
  have hA := vk.1
  have i0 := (Fx_at vk f (i := 0) (by decide) (fun z => absurd ((hA_0_20 hA).mp z) (by decide)) (fun z => absurd ((hA_0_21 hA).mp z) (by decide)))
  have i4 := (Fx_at vk f (i := 4) (by decide) (fun z => absurd ((hA_4_20 hA).mp z) (by decide)) (fun z => absurd ((hA_4_21 hA).mp z) (by decide)))
  have i14 := (Fx_at vk f (i := 14) (by decide) (fun z => absurd ((hA_14_20 hA).mp z) (by decide)) (fun z => absurd ((hA_14_21 hA).mp z) (by decide)))
  exact ⟨i4.2.1, i14.1, i0.1⟩
theorem gp_loop {A : Nat → Nat} {h : MH} {Q : MR → MH → Prop} (R : Rl A h) (hQ : ∀ m, Fx (A 20) (A 21) h m → Bd (A 20) (tq (pv A h) (pNn A h)) m → Q (.inl none) m) : ∀ (d j : Nat) (m : MH), j + d = pNn A h → Fx (A 20) (A 21) h m → Bd (A 20) (tq (pv A h) j) m → Ok 130 17 [.ref (A 0), .int (Int32.ofNat (pS A h + pNn A h)), .int (Int32.ofNat (pS A h + j))] [] m (21 * d) (3150 * d) Q
  | 0, j, m, hj, f, b => by
    have : j = pNn A h := by omega
    subst this
    rw [o130_17]
    simp only [o130_18, o130_19, o130_22, o130_23, o130_26, o130_27, o130_30, o130_43, and_true, not_true_eq_false, not_false_eq_true, false_implies, forall_const, lt_le, n_irr]
    exact hQ m f b
  | d + 1, j, m, hj, f, b => by
    have lp := gp_loop R hQ d (j + 1)
    have Rh := R
    obtain ⟨hl, -, -⟩ := gp_same R f
    have hS := (pSN R).1
    replace R := Rl_Fx R f b
    have R0 := R
    obtain ⟨vk, vcn, v0, v1, v2, vp, vl0, vl1, vlr, vsr, vc, tx⟩ := R0
    have vk0 := vk
    have vcn0 := vcn
    (refine K_el vk0 ?_; intros hA kc0 kc1 kc2 kc3 kc4 kc5 kc6 kc7 kc8 kc9 kc10 kc11 kc12 kc13 kc14 kc15 kc16 kc17 kc18 kc19 kc20 kc21 kc22 kc23 kc24 kc25 kc26 kc27 kc28 kc29 kc30 kc31 kc32 kc33 kc34 kc35 kc36 kc37 kc38 kc39 kz kt kn3 kn4 kn18 kn21 kn23 kn24 kn25 kn26 kn27 kn29 kn30 kr0_0 kr0_1 kr0_2 kr0_3 kr0_4 kr0_5 kr0_7 kr0_8 kr0_9 kr0_10 kr1_0 kr2_0 kr5_0 kr5_1 kr6_0 kr6_1 kr7_0 kr7_1 kr8_0 kr9_0 kr10_0 kr11_0 kr12_0 kr13_0 kr14_0 kr15_0 kr16_0 kr17_0 kr19_0 kr19_1 kr22_0 kr22_1 kr22_2 kr22_3 kr22_4 kr22_5 kr22_7 kr22_8 kr25_0 kr25_1 kr25_2 kr26_0 kr26_1 kr26_2 kr29_0 kr29_1)
    (refine Cn_el vcn0 ?_; intros ki5_2 ki6_2 ki7_2 ki8_1 ki8_2 ki8_3 ki9_1 ki9_2 ki9_3 ki10_1 ki10_2 ki10_3 ki11_1 ki11_2 ki11_3 ki12_1 ki12_2 ki12_3 ki13_1 ki13_2 ki13_3 ki14_1 ki14_2 ki14_3 ki28_0 ki28_1 ki31_0 ki31_1 ki32_0 ki32_1 ki33_0 ki33_1 ki34_0 ki34_1 ki35_0 ki35_1 ki36_0 ki36_1)
    have hAe : ∀ i j, i < 40 → j < 40 → (A i = A j ↔ i = j) := hA
    have c1 : (Int32.ofNat (pS A h + j) < Int32.ofNat (pS A h + pNn A h)) = True := by rw [n_lt (by omega) (by omega)]; exact eq_true (by omega)
    have c2 : (Int32.ofNat (pS A h + j) < 0) = False := n_z (by omega)
    have c3 : (Int32.ofNat (pS A h + j) < 10) = True := by rw [show (10 : Int32) = Int32.ofNat 10 from rfl, n_lt (by omega) (by omega)]; exact eq_true (by omega)
    have c4 : 1 + Int32.ofNat (pS A h + j) = Int32.ofNat (1 + (pS A h + j)) := n_add 1 _
    have c10 : rdy 36 (Int32.ofNat (1 + (pS A h + j))) := n_rdy (by omega) (by omega)
    have c11 : (Int32.ofNat (1 + (pS A h + j))).toNatClampNeg = 1 + (pS A h + j) := n_cl (by omega)
    have c5 : Int32.ofNat (pS A h + j) + 1 = Int32.ofNat (pS A h + (j + 1)) := n_add _ 1
    have c6 : (21 ≤ 21 * (d + 1)) = True := eq_true (by omega)
    have c7 : (3150 ≤ 3150 * (d + 1)) = True := eq_true (by omega)
    have c8 : 3150 * (d + 1) - 3150 = 3150 * d := by omega
    have c9 : 21 * (d + 1) - 21 = 21 * d := by omega
    have hv : g_l h (A 4) (1 + (pS A h + j)) = pv A h j := rfl
    rw [o130_17]
    simp only [o130_18, o130_19, o130_22, o130_23, o130_26, o130_27, o130_30, o130_31, o130_34, c_X3_readAt (rw := A 2) (cs := A 4) (n := 36), mcs_0, mcs_r, Kn_v, mrf_some, true_and, not_true_eq_false, not_false_eq_true, false_implies, forall_const, Nat.reduceLeDiff, Nat.reduceAdd, Nat.zero_le, lt_le, kc0, kc2, kc4, kc14, kc19, kn4, kr0_5, kr0_10, kr2_0, kr14_0, ki14_1, ki14_2, hl, c1, c2, c3, c4, c10, c11, c6, c7, c8, c9, hv]
    have t6 := tq_lt (pv A h) 6 (pNn A h) (fun j hj => pv_sz Rh hj) (j + 1) (by omega)
    unfold tq at t6
    refine c_add (Wo_of R) b (by omega) (fun m2 f2 b2 => ?_)
    simp only [o130_37, o130_40, Kn_0, c5]
    exact lp m2 (by omega) (Fx_tr f f2) b2

theorem c_gP {A : Nat → Nat} {h : MH} {Q : MR → MH → Prop} (R : Rl A h) (hQ : ∀ m, Fx (A 20) (A 21) h m → Bd (A 20) (tq (pv A h) (pNn A h)) m → Q (.inl none) m) : Ok 130 0 [.ref (A 0), mk0, mk0] [] h 211 31650 Q := by
  obtain ⟨n, b⟩ := Bd_of R
  have lp := gp_loop R hQ
  obtain ⟨hS, hst⟩ := pSN R
  have Rh := R
  have R0 := R
  obtain ⟨vk, vcn, v0, v1, v2, vp, vl0, vl1, vlr, vsr, vc, tx⟩ := R0
  have vk0 := vk
  have vcn0 := vcn
  (refine K_el vk0 ?_; intros hA kc0 kc1 kc2 kc3 kc4 kc5 kc6 kc7 kc8 kc9 kc10 kc11 kc12 kc13 kc14 kc15 kc16 kc17 kc18 kc19 kc20 kc21 kc22 kc23 kc24 kc25 kc26 kc27 kc28 kc29 kc30 kc31 kc32 kc33 kc34 kc35 kc36 kc37 kc38 kc39 kz kt kn3 kn4 kn18 kn21 kn23 kn24 kn25 kn26 kn27 kn29 kn30 kr0_0 kr0_1 kr0_2 kr0_3 kr0_4 kr0_5 kr0_7 kr0_8 kr0_9 kr0_10 kr1_0 kr2_0 kr5_0 kr5_1 kr6_0 kr6_1 kr7_0 kr7_1 kr8_0 kr9_0 kr10_0 kr11_0 kr12_0 kr13_0 kr14_0 kr15_0 kr16_0 kr17_0 kr19_0 kr19_1 kr22_0 kr22_1 kr22_2 kr22_3 kr22_4 kr22_5 kr22_7 kr22_8 kr25_0 kr25_1 kr25_2 kr26_0 kr26_1 kr26_2 kr29_0 kr29_1)
  (refine Cn_el vcn0 ?_; intros ki5_2 ki6_2 ki7_2 ki8_1 ki8_2 ki8_3 ki9_1 ki9_2 ki9_3 ki10_1 ki10_2 ki10_3 ki11_1 ki11_2 ki11_3 ki12_1 ki12_2 ki12_3 ki13_1 ki13_2 ki13_3 ki14_1 ki14_2 ki14_3 ki28_0 ki28_1 ki31_0 ki31_1 ki32_0 ki32_1 ki33_0 ki33_1 ki34_0 ki34_1 ki35_0 ki35_1 ki36_0 ki36_1)
  have hAe : ∀ i j, i < 40 → j < 40 → (A i = A j ↔ i = j) := hA
  simp only [o130_0, o130_1, o130_4, mcs_0, mrf_some, true_and, Nat.reduceLeDiff, Nat.reduceSub, Nat.zero_le, kc0, kc19, kr0_10]
  refine c_start (Wo_of Rh) b (fun m f b2 => ?_)
  obtain ⟨hl, h14, h0⟩ := gp_same Rh f
  have R := Rl_Fx Rh f b2
  have R0 := R
  obtain ⟨vk, vcn, v0, v1, v2, vp, vl0, vl1, vlr, vsr, vc, tx⟩ := R0
  have vk0 := vk
  have vcn0 := vcn
  (refine K_el vk0 ?_; intros hA kc0 kc1 kc2 kc3 kc4 kc5 kc6 kc7 kc8 kc9 kc10 kc11 kc12 kc13 kc14 kc15 kc16 kc17 kc18 kc19 kc20 kc21 kc22 kc23 kc24 kc25 kc26 kc27 kc28 kc29 kc30 kc31 kc32 kc33 kc34 kc35 kc36 kc37 kc38 kc39 kz kt kn3 kn4 kn18 kn21 kn23 kn24 kn25 kn26 kn27 kn29 kn30 kr0_0 kr0_1 kr0_2 kr0_3 kr0_4 kr0_5 kr0_7 kr0_8 kr0_9 kr0_10 kr1_0 kr2_0 kr5_0 kr5_1 kr6_0 kr6_1 kr7_0 kr7_1 kr8_0 kr9_0 kr10_0 kr11_0 kr12_0 kr13_0 kr14_0 kr15_0 kr16_0 kr17_0 kr19_0 kr19_1 kr22_0 kr22_1 kr22_2 kr22_3 kr22_4 kr22_5 kr22_7 kr22_8 kr25_0 kr25_1 kr25_2 kr26_0 kr26_1 kr26_2 kr29_0 kr29_1)
  (refine Cn_el vcn0 ?_; intros ki5_2 ki6_2 ki7_2 ki8_1 ki8_2 ki8_3 ki9_1 ki9_2 ki9_3 ki10_1 ki10_2 ki10_3 ki11_1 ki11_2 ki11_3 ki12_1 ki12_2 ki12_3 ki13_1 ki13_2 ki13_3 ki14_1 ki14_2 ki14_3 ki28_0 ki28_1 ki31_0 ki31_1 ki32_0 ki32_1 ki33_0 ki33_1 ki34_0 ki34_1 ki35_0 ki35_1 ki36_0 ki36_1)
  have hAe : ∀ i j, i < 40 → j < 40 → (A i = A j ↔ i = j) := hA
  have lp0 := Ok_le (lp (pNn A h) 0 m (by omega) f b2) 210 31500 (by omega) (by omega)
  rw [Nat.add_zero] at lp0
  rcases hst with ⟨z1, z2, z3⟩ | ⟨z1, z3, z4⟩
  · rw [z2] at lp0 z3
    simp only [o130_7, o130_8, o130_11, o130_12, o130_13, o130_16, o132_0, o132_1, o132_4, o132_7, o132_8, o132_11, o132_14, o132_17, o132_18, o132_21, o132_24, o131_0, o131_1, o131_4, o131_7, o131_8, o131_11, o131_14, o131_17, o131_18, mcs_0, Kn_v, Kn_0, mrf_some, true_and, and_true, not_true_eq_false, false_implies, forall_const, Nat.zero_le, kc0, kc14, kr0_5, h14, h0, z1, z3]
    exact lp0
  · simp only [o130_7, o130_8, o130_11, o130_12, o130_13, o130_16, o132_0, o132_1, o132_4, o132_7, o132_8, o132_11, o132_14, o132_17, o132_18, o132_21, o132_24, o131_0, o131_1, o131_4, o131_7, o131_8, o131_11, o131_14, o131_17, o131_18, mcs_0, Kn_v, Kn_0, mrf_some, true_and, not_false_eq_true, false_implies, forall_const, Nat.zero_le, i10, kc0, kc14, kr0_5, h14, h0, z1, z3, z4]
    exact lp0


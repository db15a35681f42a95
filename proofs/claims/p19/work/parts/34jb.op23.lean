set_option maxRecDepth 16384
theorem sl_loop {A : Nat → Nat} {h : MH} {Q : MR → MH → Prop} (R : Rl A h) : ∀ (d s : Nat) (a2 a4 : Value), s + d = 6 → (Ok 140 2 [.ref (A 0), .int (Int32.ofNat s), a2, mk0, a4] [] h 0 0 Q ↔ Q (.inl (some (.int 1))) h)
  | 0, s, a2, a4, hs => by
    have : s = 6 := by omega
    subst this
    have c1 : (Int32.ofNat 6 < (6 : Int32)) = False := by decide
    rw [o140_2]
    simp only [o140_3, o140_5, o140_8, o140_9, o140_10, o140_61, o140_62, mcs_0, true_and, and_true, not_true_eq_false, not_false_eq_true, false_implies, forall_const, Nat.zero_le, kz1, lt_le, c1]
  | d + 1, s, a2, a4, hs => by
    have ih := sl_loop (Q := Q) R d (s + 1)
    have R0 := R
    obtain ⟨vk, vcn, v0, v1, v2, vp, vl0, vl1, vlr, vsr, vc, tx⟩ := R0
    have vk0 := vk
    have vcn0 := vcn
    (refine K_el vk0 ?_; intros hA kc0 kc1 kc2 kc3 kc4 kc5 kc6 kc7 kc8 kc9 kc10 kc11 kc12 kc13 kc14 kc15 kc16 kc17 kc18 kc19 kc20 kc21 kc22 kc23 kc24 kc25 kc26 kc27 kc28 kc29 kc30 kc31 kc32 kc33 kc34 kc35 kc36 kc37 kc38 kc39 kz kt kn3 kn4 kn18 kn21 kn23 kn24 kn25 kn26 kn27 kn29 kn30 kr0_0 kr0_1 kr0_2 kr0_3 kr0_4 kr0_5 kr0_7 kr0_8 kr0_9 kr0_10 kr1_0 kr2_0 kr5_0 kr5_1 kr6_0 kr6_1 kr7_0 kr7_1 kr8_0 kr9_0 kr10_0 kr11_0 kr12_0 kr13_0 kr14_0 kr15_0 kr16_0 kr17_0 kr19_0 kr19_1 kr22_0 kr22_1 kr22_2 kr22_3 kr22_4 kr22_5 kr22_7 kr22_8 kr25_0 kr25_1 kr25_2 kr26_0 kr26_1 kr26_2 kr29_0 kr29_1)
    (refine Cn_el vcn0 ?_; intros ki5_2 ki6_2 ki7_2 ki8_1 ki8_2 ki8_3 ki9_1 ki9_2 ki9_3 ki10_1 ki10_2 ki10_3 ki11_1 ki11_2 ki11_3 ki12_1 ki12_2 ki12_3 ki13_1 ki13_2 ki13_3 ki14_1 ki14_2 ki14_3 ki28_0 ki28_1 ki31_0 ki31_1 ki32_0 ki32_1 ki33_0 ki33_1 ki34_0 ki34_1 ki35_0 ki35_1 ki36_0 ki36_1)
    have hAe : ∀ i j, i < 40 → j < 40 → (A i = A j ↔ i = j) := hA
    have c1 : (Int32.ofNat s < (6 : Int32)) = True := by
      rw [show (6 : Int32) = Int32.ofNat 6 by decide, n_lt (by omega) (by omega)]
      exact eq_true (by omega)
    have hx := ix_ok (s := Int32.ofNat s) (by rw [n_z (by omega)]; exact fun z => z) (by rw [show (6 : Int32) = Int32.ofNat 6 from rfl, n_lt (by omega) (by omega)]; omega)
    have hx2 := hx
    obtain ⟨⟨j0, j1, j2, j3⟩, -⟩ := hx2
    obtain ⟨l0, l1, l2, l3⟩ := ix_lt hx
    obtain ⟨u0, t0⟩ := vsr _ l0
    obtain ⟨u1, t1⟩ := vsr _ l1
    obtain ⟨u2, t2⟩ := vsr _ l2
    obtain ⟨u3, t3⟩ := vsr _ l3
    obtain ⟨f0, f1, f2, f3⟩ := fo_nm t0 t1 t2 t3
    have c6 : Int32.ofNat s + 1 = Int32.ofNat (s + 1) := n_add s 1
    rw [← ih _ _ (by omega), o140_2]
    simp only [o140_3, o140_5, o140_8, o140_9, o140_10, o140_13, o140_14, o140_15, o140_17, o140_19, o140_20, o140_23, o140_24, o140_26, o140_29, o140_30, o140_31, o140_34, o140_35, o140_37, o140_40, o140_43, o140_44, o140_47, o140_48, o140_49, o140_52, o140_55, o140_58, o140_61, o140_62, c_X5_numberIn (rw := A 2) (cs := A 4), c_X5_fourthOf, c_X5_cellOf, c_X2_read (cs := A 4) (n := 36), mcs_0, mcs_l, mcs_r, Kn_v, mrf_some, true_and, and_true, not_true_eq_false, not_false_eq_true, false_implies, forall_const, Nat.reduceLeDiff, Nat.reduceAdd, Nat.zero_le, kz0, kz1, lt_le, Int32.reduceLT, Int32.reduceAdd, lg_cmp_eq, kc0, kc2, kc4, kn4, kr0_1, kr2_0, c1, hx, j0, j1, j2, j3, u0, u1, u2, u3, i64_back, f0, f1, f2, f3, c6]
    all_goals exact Iff.rfl
theorem c_slots {A : Nat → Nat} {h : MH} {Q : MR → MH → Prop} (R : Rl A h) : Ok 140 0 [.ref (A 0), mk0, mk0, mk0, mk0] [] h 0 0 Q ↔ Q (.inl (some (.int 1))) h := by
  have lp := sl_loop (Q := Q) R 6 0 mk0 mk0 rfl
  simp only [o140_0, o140_1]
  exact lp
/-- what lnOk says, as the code asks -/
theorem ln_ord {lo hi : Int} {x : Nat} {f n s p l m : Int32} (o : lnOk lo hi x f n s p l m) : ¬ m < -1 ∧ ¬ p < m ∧ ¬ l < p ∧ ¬ n < l := by
  obtain ⟨o1, o2, o3, o4, o5, o6, o7, o8, o9, o10⟩ := o
  rw [Int32.lt_iff_toInt_lt, Int32.lt_iff_toInt_lt, Int32.lt_iff_toInt_lt, Int32.lt_iff_toInt_lt, show (-1 : Int32).toInt = -1 from rfl]
  omega
set_option maxRecDepth 100000 in
theorem pS_ord : ∀ t ∈ PS, ¬ t.2.2.1 < -1 ∧ ¬ t.1 < t.2.2.1 ∧ ¬ t.2.1 < t.1 ∧ ¬ 10 < t.2.1 := by decide +kernel
theorem zz64 (x : Int32) : (x.toInt64 = 0) = (x = 0) := by
  rw [show (0 : Int64) = (0 : Int32).toInt64 from rfl, i64_inj]
def edg (A : Nat → Nat) (h : MH) : Prop := g_l h (A 23) 0 = 0 ∧ g_l h (A 23) 15 = 0 ∧ g_i h (A 24) 0 = 0 ∧ g_i h (A 24) 35 = 0
theorem c_wins {A : Nat → Nat} {h : MH} {Q : MR → MH → Prop} (R : Rl A h) : Ok 138 0 [.ref (A 0)] [] h 0 0 Q ↔ Q (.inl (some (.int 1))) h := by
  have R0 := R
  obtain ⟨vk, vcn, v0, v1, v2, vp, vl0, vl1, vlr, vsr, vc, tx⟩ := R0
  have vk0 := vk
  have vcn0 := vcn
  (refine K_el vk0 ?_; intros hA kc0 kc1 kc2 kc3 kc4 kc5 kc6 kc7 kc8 kc9 kc10 kc11 kc12 kc13 kc14 kc15 kc16 kc17 kc18 kc19 kc20 kc21 kc22 kc23 kc24 kc25 kc26 kc27 kc28 kc29 kc30 kc31 kc32 kc33 kc34 kc35 kc36 kc37 kc38 kc39 kz kt kn3 kn4 kn18 kn21 kn23 kn24 kn25 kn26 kn27 kn29 kn30 kr0_0 kr0_1 kr0_2 kr0_3 kr0_4 kr0_5 kr0_7 kr0_8 kr0_9 kr0_10 kr1_0 kr2_0 kr5_0 kr5_1 kr6_0 kr6_1 kr7_0 kr7_1 kr8_0 kr9_0 kr10_0 kr11_0 kr12_0 kr13_0 kr14_0 kr15_0 kr16_0 kr17_0 kr19_0 kr19_1 kr22_0 kr22_1 kr22_2 kr22_3 kr22_4 kr22_5 kr22_7 kr22_8 kr25_0 kr25_1 kr25_2 kr26_0 kr26_1 kr26_2 kr29_0 kr29_1)
  (refine Cn_el vcn0 ?_; intros ki5_2 ki6_2 ki7_2 ki8_1 ki8_2 ki8_3 ki9_1 ki9_2 ki9_3 ki10_1 ki10_2 ki10_3 ki11_1 ki11_2 ki11_3 ki12_1 ki12_2 ki12_3 ki13_1 ki13_2 ki13_3 ki14_1 ki14_2 ki14_3 ki28_0 ki28_1 ki31_0 ki31_1 ki32_0 ki32_1 ki33_0 ki33_1 ki34_0 ki34_1 ki35_0 ki35_1 ki36_0 ki36_1)
  have hAe : ∀ i j, i < 40 → j < 40 → (A i = A j ↔ i = j) := hA
  obtain ⟨⟨p1, p2, p3, p4⟩, pm⟩ := vp
  obtain ⟨q1, q2, q3, q4⟩ := pS_ord _ pm
  simp only at q1 q2 q3 q4
  obtain ⟨⟨x1, x2, x3, x4, x5, x6⟩, ln⟩ := vl0
  obtain ⟨⟨y1, y2, y3, y4, y5, y6⟩, lm⟩ := vl1
  obtain ⟨a1, a2, a3, a4⟩ := ln_ord ln
  obtain ⟨b1, b2, b3, b4⟩ := ln_ord lm
  simp only [o138_0, o138_1, o138_4, o138_7, o138_10, o138_11, o138_14, o138_17, o138_20, o138_21, o138_24, o138_27, o138_30, o138_31, o138_34, o138_35, c_X3_isOrdered, mcs_0, Kn_v, mrf_some, true_and, not_false_eq_true, false_implies, forall_const, if_true, and_self, Nat.zero_le, i10, kz0, kz1, lt_le, kc0, kc14, kc15, kc16, kr0_5, kr0_7, kr0_8, ki14_2, p1, p2, p3, q1, q2, q3, q4, x2, x4, x5, x6, y2, y4, y5, y6, a1, a2, a3, a4, b1, b2, b3, b4]
theorem c_lsound {A : Nat → Nat} {h : MH} {Q : MR → MH → Prop} (R : Rl A h) : Ok 141 0 [.ref (A 0)] [] h 0 0 Q ↔ Q (.inl (some (.int 1))) h := by
  have R0 := R
  obtain ⟨vk, vcn, v0, v1, v2, vp, vl0, vl1, vlr, vsr, vc, tx⟩ := R0
  have vk0 := vk
  have vcn0 := vcn
  (refine K_el vk0 ?_; intros hA kc0 kc1 kc2 kc3 kc4 kc5 kc6 kc7 kc8 kc9 kc10 kc11 kc12 kc13 kc14 kc15 kc16 kc17 kc18 kc19 kc20 kc21 kc22 kc23 kc24 kc25 kc26 kc27 kc28 kc29 kc30 kc31 kc32 kc33 kc34 kc35 kc36 kc37 kc38 kc39 kz kt kn3 kn4 kn18 kn21 kn23 kn24 kn25 kn26 kn27 kn29 kn30 kr0_0 kr0_1 kr0_2 kr0_3 kr0_4 kr0_5 kr0_7 kr0_8 kr0_9 kr0_10 kr1_0 kr2_0 kr5_0 kr5_1 kr6_0 kr6_1 kr7_0 kr7_1 kr8_0 kr9_0 kr10_0 kr11_0 kr12_0 kr13_0 kr14_0 kr15_0 kr16_0 kr17_0 kr19_0 kr19_1 kr22_0 kr22_1 kr22_2 kr22_3 kr22_4 kr22_5 kr22_7 kr22_8 kr25_0 kr25_1 kr25_2 kr26_0 kr26_1 kr26_2 kr29_0 kr29_1)
  (refine Cn_el vcn0 ?_; intros ki5_2 ki6_2 ki7_2 ki8_1 ki8_2 ki8_3 ki9_1 ki9_2 ki9_3 ki10_1 ki10_2 ki10_3 ki11_1 ki11_2 ki11_3 ki12_1 ki12_2 ki12_3 ki13_1 ki13_2 ki13_3 ki14_1 ki14_2 ki14_3 ki28_0 ki28_1 ki31_0 ki31_1 ki32_0 ki32_1 ki33_0 ki33_1 ki34_0 ki34_1 ki35_0 ki35_1 ki36_0 ki36_1)
  have hAe : ∀ i j, i < 40 → j < 40 → (A i = A j ↔ i = j) := hA
  obtain ⟨⟨p1, p2, p3, p4⟩, pm⟩ := vp
  obtain ⟨q1, q2, q3, q4⟩ := pS_ord _ pm
  simp only at q1 q2 q3 q4
  obtain ⟨⟨x1, x2, x3, x4, x5, x6⟩, ln⟩ := vl0
  obtain ⟨⟨y1, y2, y3, y4, y5, y6⟩, lm⟩ := vl1
  obtain ⟨a1, a2, a3, a4⟩ := ln_ord ln
  obtain ⟨b1, b2, b3, b4⟩ := ln_ord lm
  obtain ⟨o1, o2, o3, o4, o5, o6, o7, o8, o9, o10⟩ := lm
  have e1 : g_i h (A 16) 1 = Int32.ofNat (g_i h (A 38) 0).toInt.toNat := by rw [y1]; exact toNat_of (by omega)
  have e2 : g_i h (A 16) 2 = Int32.ofNat (g_i h (A 38) 1).toInt.toNat := by rw [y2]; exact toNat_of (by omega)
  rcases o4 with s0 | s0
  · rw [s0] at y3
    simp only [o141_0, o141_1, o141_4, o141_7, o141_10, o141_11, o141_14, o141_15, o141_18, o141_21, o141_24, o141_25, o141_28, o141_29, c_ra (rw := A 2) (cs := A 4) (F := (g_i h (A 38) 0).toInt.toNat) (N := (g_i h (A 38) 1).toInt.toNat) (n := 36) kc16 kr16_0 kc2 kr2_0 kc4 kn4 e1 e2 (by omega) (by decide), mcs_0, Kn_v, mrf_some, true_and, not_true_eq_false, not_false_eq_true, false_implies, forall_const, Nat.zero_le, i10, kz0, kz1, kc0, kc16, kr0_1, kr0_8, y3]
  · rw [s0] at y3
    simp only [o141_0, o141_1, o141_4, o141_7, o141_10, o141_11, o141_14, o141_15, o141_18, o141_24, o141_25, o141_29, mcs_0, mrf_some, true_and, and_true, not_false_eq_true, false_implies, forall_const, Nat.zero_le, i10, kz1, kc0, kc16, kr0_1, kr0_8, y3]

theorem c_qsound {A : Nat → Nat} {h : MH} {Q : MR → MH → Prop} (R : Rl A h) : Ok 139 0 [.ref (A 0)] [] h 0 0 Q ↔ Q (.inl (some (.int 1))) h := by
  have q0 := fun {Q : MR → MH → Prop} => (qo_0 (Q := Q) R).1
  have q1 := fun {Q : MR → MH → Prop} => (qo_1 (Q := Q) R).1
  have q2 := fun {Q : MR → MH → Prop} => (qo_2 (Q := Q) R).1
  have R0 := R
  obtain ⟨vk, vcn, v0, v1, v2, vp, vl0, vl1, vlr, vsr, vc, tx⟩ := R0
  have vk0 := vk
  have vcn0 := vcn
  (refine K_el vk0 ?_; intros hA kc0 kc1 kc2 kc3 kc4 kc5 kc6 kc7 kc8 kc9 kc10 kc11 kc12 kc13 kc14 kc15 kc16 kc17 kc18 kc19 kc20 kc21 kc22 kc23 kc24 kc25 kc26 kc27 kc28 kc29 kc30 kc31 kc32 kc33 kc34 kc35 kc36 kc37 kc38 kc39 kz kt kn3 kn4 kn18 kn21 kn23 kn24 kn25 kn26 kn27 kn29 kn30 kr0_0 kr0_1 kr0_2 kr0_3 kr0_4 kr0_5 kr0_7 kr0_8 kr0_9 kr0_10 kr1_0 kr2_0 kr5_0 kr5_1 kr6_0 kr6_1 kr7_0 kr7_1 kr8_0 kr9_0 kr10_0 kr11_0 kr12_0 kr13_0 kr14_0 kr15_0 kr16_0 kr17_0 kr19_0 kr19_1 kr22_0 kr22_1 kr22_2 kr22_3 kr22_4 kr22_5 kr22_7 kr22_8 kr25_0 kr25_1 kr25_2 kr26_0 kr26_1 kr26_2 kr29_0 kr29_1)
  (refine Cn_el vcn0 ?_; intros ki5_2 ki6_2 ki7_2 ki8_1 ki8_2 ki8_3 ki9_1 ki9_2 ki9_3 ki10_1 ki10_2 ki10_3 ki11_1 ki11_2 ki11_3 ki12_1 ki12_2 ki12_3 ki13_1 ki13_2 ki13_3 ki14_1 ki14_2 ki14_3 ki28_0 ki28_1 ki31_0 ki31_1 ki32_0 ki32_1 ki33_0 ki33_1 ki34_0 ki34_1 ki35_0 ki35_1 ki36_0 ki36_1)
  have hAe : ∀ i j, i < 40 → j < 40 → (A i = A j ↔ i = j) := hA
  have r0_0 := fun {Q : MR → MH → Prop} => c_ra (w := A 8) (Q := Q) (rw := A 1) (cs := A 3) (F := 1) (N := 5) (n := 16) kc8 kr8_0 kc1 kr1_0 kc3 kn3 ki8_1 ki8_2 (by decide) (by decide)
  have r0_1 := fun {Q : MR → MH → Prop} => c_ra (w := A 9) (Q := Q) (rw := A 1) (cs := A 3) (F := 1) (N := 5) (n := 16) kc9 kr9_0 kc1 kr1_0 kc3 kn3 ki9_1 ki9_2 (by decide) (by decide)
  have r1_0 := fun {Q : MR → MH → Prop} => c_ra (w := A 10) (Q := Q) (rw := A 1) (cs := A 3) (F := 6) (N := 3) (n := 16) kc10 kr10_0 kc1 kr1_0 kc3 kn3 ki10_1 ki10_2 (by decide) (by decide)
  have r1_1 := fun {Q : MR → MH → Prop} => c_ra (w := A 11) (Q := Q) (rw := A 1) (cs := A 3) (F := 6) (N := 3) (n := 16) kc11 kr11_0 kc1 kr1_0 kc3 kn3 ki11_1 ki11_2 (by decide) (by decide)
  have r2_0 := fun {Q : MR → MH → Prop} => c_ra (w := A 12) (Q := Q) (rw := A 1) (cs := A 3) (F := 9) (N := 6) (n := 16) kc12 kr12_0 kc1 kr1_0 kc3 kn3 ki12_1 ki12_2 (by decide) (by decide)
  have r2_1 := fun {Q : MR → MH → Prop} => c_ra (w := A 13) (Q := Q) (rw := A 1) (cs := A 3) (F := 9) (N := 6) (n := 16) kc13 kr13_0 kc1 kr1_0 kc3 kn3 ki13_1 ki13_2 (by decide) (by decide)
  simp only [o139_0, o139_1, o139_4, o139_7, o139_10, o139_11, o139_14, o139_17, o139_20, o139_21, o139_24, o139_27, o139_30, o139_31, o139_34, o139_35, o139_38, o139_41, o139_44, o139_45, o139_48, o139_49, o139_52, o139_55, o139_58, o139_59, o139_62, o139_63, o139_66, o139_69, o139_72, o139_73, o139_76, o139_77, o25_0, o25_1, o25_4, o25_5, o25_8, o25_11, o25_12, o25_15, o25_16, o25_19, o25_22, o25_23, o25_26, o25_27, q0, q1, q2, r0_0, r0_1, r1_0, r1_1, r2_0, r2_1, mcs_0, Kn_v, mrf_some, true_and, and_true, not_true_eq_false, not_false_eq_true, false_implies, forall_const, Nat.zero_le, i10, kz0, kz1, kc0, kc5, kc6, kc7, kc8, kc9, kc10, kc11, kc12, kc13, kr0_0, kr0_2, kr0_3, kr0_4, kr5_0, kr5_1, kr6_0, kr6_1, kr7_0, kr7_1]
theorem c_edges {A : Nat → Nat} {h : MH} {Q : MR → MH → Prop} (R : Rl A h) : (edg A h → (Ok 142 0 [.ref (A 0)] [] h 0 0 Q ↔ Q (.inl (some (.int 1))) h)) ∧ (¬ edg A h → (Ok 142 0 [.ref (A 0)] [] h 0 0 Q ↔ Q (.inl (some (.int 0))) h)) := by
  have R0 := R
  obtain ⟨vk, vcn, v0, v1, v2, vp, vl0, vl1, vlr, vsr, vc, tx⟩ := R0
  have vk0 := vk
  have vcn0 := vcn
  (refine K_el vk0 ?_; intros hA kc0 kc1 kc2 kc3 kc4 kc5 kc6 kc7 kc8 kc9 kc10 kc11 kc12 kc13 kc14 kc15 kc16 kc17 kc18 kc19 kc20 kc21 kc22 kc23 kc24 kc25 kc26 kc27 kc28 kc29 kc30 kc31 kc32 kc33 kc34 kc35 kc36 kc37 kc38 kc39 kz kt kn3 kn4 kn18 kn21 kn23 kn24 kn25 kn26 kn27 kn29 kn30 kr0_0 kr0_1 kr0_2 kr0_3 kr0_4 kr0_5 kr0_7 kr0_8 kr0_9 kr0_10 kr1_0 kr2_0 kr5_0 kr5_1 kr6_0 kr6_1 kr7_0 kr7_1 kr8_0 kr9_0 kr10_0 kr11_0 kr12_0 kr13_0 kr14_0 kr15_0 kr16_0 kr17_0 kr19_0 kr19_1 kr22_0 kr22_1 kr22_2 kr22_3 kr22_4 kr22_5 kr22_7 kr22_8 kr25_0 kr25_1 kr25_2 kr26_0 kr26_1 kr26_2 kr29_0 kr29_1)
  (refine Cn_el vcn0 ?_; intros ki5_2 ki6_2 ki7_2 ki8_1 ki8_2 ki8_3 ki9_1 ki9_2 ki9_3 ki10_1 ki10_2 ki10_3 ki11_1 ki11_2 ki11_3 ki12_1 ki12_2 ki12_3 ki13_1 ki13_2 ki13_3 ki14_1 ki14_2 ki14_3 ki28_0 ki28_1 ki31_0 ki31_1 ki32_0 ki32_1 ki33_0 ki33_1 ki34_0 ki34_1 ki35_0 ki35_1 ki36_0 ki36_1)
  have hAe : ∀ i j, i < 40 → j < 40 → (A i = A j ↔ i = j) := hA
  have e0 := vlr 0 (by decide)
  have e15 := vlr 15 (by decide)
  have s0 := (vsr 0 (by decide)).1
  have s35 := (vsr 35 (by decide)).1
  have r0 : rdy 16 0 := by unfold rdy vp_in; decide
  have r15 : rdy 16 (15 : Int32) := by unfold rdy vp_in; decide
  have t0 : rdy 36 0 := by unfold rdy vp_in; decide
  have t35 : rdy 36 (35 : Int32) := by unfold rdy vp_in; decide
  have n15 : (15 : Int32).toNatClampNeg = 15 := by decide
  have n35 : (35 : Int32).toNatClampNeg = 35 := by decide
  unfold edg
  refine ⟨fun z => ?_, fun z => ?_⟩
  · obtain ⟨z1, z2, z3, z4⟩ := z
    simp only [o142_0, o142_1, o142_4, o142_5, o142_8, o142_9, o142_10, o142_13, o142_14, o142_17, o142_19, o142_22, o142_23, o142_24, o142_27, o142_28, o142_31, o142_32, o142_35, o142_36, o142_37, o142_40, o142_41, o142_44, o142_46, o142_49, o142_50, o142_51, o142_54, o142_55, o142_58, o142_59, c_X2_read (cs := A 3) (n := 16), c_X2_read (cs := A 4) (n := 36), mcs_0, Kn_v, mrf_some, true_and, not_true_eq_false, false_implies, forall_const, Nat.zero_le, kz0, kz1, cl0, lg_cmp_eq, kc0, kc1, kc2, kc3, kc4, kn3, kn4, kr0_0, kr0_1, kr1_0, kr2_0, r0, r15, t0, t35, n15, n35, e0, e15, s0, s35, z1, z2, z3, z4, zz64]
  · by_cases z1 : g_l h (A 23) 0 = 0 <;> by_cases z2 : g_l h (A 23) 15 = 0 <;> by_cases z3 : g_i h (A 24) 0 = 0 <;> by_cases z4 : g_i h (A 24) 35 = 0 <;> first | (exfalso; apply z; refine ⟨?_, ?_, ?_, ?_⟩ <;> assumption) | simp only [o142_0, o142_1, o142_4, o142_5, o142_8, o142_9, o142_10, o142_13, o142_14, o142_17, o142_19, o142_22, o142_23, o142_24, o142_27, o142_28, o142_31, o142_32, o142_35, o142_36, o142_37, o142_40, o142_41, o142_44, o142_46, o142_49, o142_50, o142_51, o142_54, o142_55, o142_58, o142_59, c_X2_read (cs := A 3) (n := 16), c_X2_read (cs := A 4) (n := 36), mcs_0, Kn_v, mrf_some, true_and, and_true, not_true_eq_false, not_false_eq_true, false_implies, forall_const, Nat.zero_le, kz0, kz1, cl0, lg_cmp_eq, kc0, kc1, kc2, kc3, kc4, kn3, kn4, kr0_0, kr0_1, kr1_0, kr2_0, r0, r15, t0, t35, n15, n35, e0, e15, s0, s35, z1, z2, z3, z4, zz64]
def edV (A : Nat → Nat) (h : MH) (v : Int32) : Prop := (edg A h ∧ v = 1) ∨ (¬ edg A h ∧ v = 0)
theorem c_sound {A : Nat → Nat} {h : MH} {v : Int32} {Q : MR → MH → Prop} (R : Rl A h) (hv : edV A h v) : Ok 106 0 [.ref (A 0)] [] h 0 0 Q ↔ Q (.inl (some (.int v))) h := by
  have R0 := R
  obtain ⟨vk, vcn, v0, v1, v2, vp, vl0, vl1, vlr, vsr, vc, tx⟩ := R0
  have vk0 := vk
  have vcn0 := vcn
  (refine K_el vk0 ?_; intros hA kc0 kc1 kc2 kc3 kc4 kc5 kc6 kc7 kc8 kc9 kc10 kc11 kc12 kc13 kc14 kc15 kc16 kc17 kc18 kc19 kc20 kc21 kc22 kc23 kc24 kc25 kc26 kc27 kc28 kc29 kc30 kc31 kc32 kc33 kc34 kc35 kc36 kc37 kc38 kc39 kz kt kn3 kn4 kn18 kn21 kn23 kn24 kn25 kn26 kn27 kn29 kn30 kr0_0 kr0_1 kr0_2 kr0_3 kr0_4 kr0_5 kr0_7 kr0_8 kr0_9 kr0_10 kr1_0 kr2_0 kr5_0 kr5_1 kr6_0 kr6_1 kr7_0 kr7_1 kr8_0 kr9_0 kr10_0 kr11_0 kr12_0 kr13_0 kr14_0 kr15_0 kr16_0 kr17_0 kr19_0 kr19_1 kr22_0 kr22_1 kr22_2 kr22_3 kr22_4 kr22_5 kr22_7 kr22_8 kr25_0 kr25_1 kr25_2 kr26_0 kr26_1 kr26_2 kr29_0 kr29_1)
  (refine Cn_el vcn0 ?_; intros ki5_2 ki6_2 ki7_2 ki8_1 ki8_2 ki8_3 ki9_1 ki9_2 ki9_3 ki10_1 ki10_2 ki10_3 ki11_1 ki11_2 ki11_3 ki12_1 ki12_2 ki12_3 ki13_1 ki13_2 ki13_3 ki14_1 ki14_2 ki14_3 ki28_0 ki28_1 ki31_0 ki31_1 ki32_0 ki32_1 ki33_0 ki33_1 ki34_0 ki34_1 ki35_0 ki35_1 ki36_0 ki36_1)
  have hAe : ∀ i j, i < 40 → j < 40 → (A i = A j ↔ i = j) := hA
  have ce := fun {Q : MR → MH → Prop} => c_edges (Q := Q) R
  rcases hv with ⟨z, rfl⟩ | ⟨z, rfl⟩
  · have ce1 := fun {Q : MR → MH → Prop} => (ce (Q := Q)).1 z
    simp only [o106_0, o106_1, o106_4, o106_7, o106_8, o106_11, o106_14, o106_15, o106_18, o106_21, o106_22, o106_25, o106_28, o106_29, o106_32, o106_35, o106_36, o106_39, o106_40, c_wins R, c_qsound R, c_slots R, c_lsound R, ce1, mcs_0, Kn_v, true_and, not_false_eq_true, false_implies, forall_const, Nat.zero_le, i10, kz0, kz1, kc0]
  · have ce1 := fun {Q : MR → MH → Prop} => (ce (Q := Q)).2 z
    simp only [o106_0, o106_1, o106_4, o106_7, o106_8, o106_11, o106_14, o106_15, o106_18, o106_21, o106_22, o106_25, o106_28, o106_29, o106_32, o106_35, o106_36, o106_39, o106_40, c_wins R, c_qsound R, c_slots R, c_lsound R, ce1, mcs_0, Kn_v, true_and, and_true, not_true_eq_false, not_false_eq_true, false_implies, forall_const, Nat.zero_le, i10, kz0, kz1, kc0]


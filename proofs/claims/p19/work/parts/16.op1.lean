/-! THE OPS: class and reference side by side -/
theorem v18 : vp_in 1 8 = True ∧ vp_in 2 8 = True ∧ vp_in 3 8 = True ∧ vp_in 4 8 = True ∧ vp_in 5 8 = True ∧ vp_in 6 8 = True := by unfold vp_in; decide
theorem i20 : ((2 : Int32) = 0) = False := by decide
theorem i30 : ((3 : Int32) = 0) = False := by decide
theorem Vsr_of {A : Nat → Nat} {h h2 : MH} {i0 i1 i2 i3 : Nat} {x0 x1 x2 x3 : Int32} (v : Vsr A h) (y0 : x0.toInt16.toInt32 = x0) (y1 : x1.toInt16.toInt32 = x1) (y2 : x2.toInt16.toInt32 = x2) (y3 : x3.toInt16.toInt32 = x3)
    (e1 : ∀ k, g_l h2 (A 4) k = if k = i3 then x3.toInt64 else if k = i2 then x2.toInt64 else if k = i1 then x1.toInt64 else if k = i0 then x0.toInt64 else g_l h (A 4) k)
    (e2 : ∀ k, g_i h2 (A 24) k = if k = i3 then x3 else if k = i2 then x2 else if k = i1 then x1 else if k = i0 then x0 else g_i h (A 24) k) : Vsr A h2 := by
  intro k hk
  rw [e1, e2]
  by_cases c3 : k = i3
  · simp only [if_pos c3]; exact ⟨trivial, y3⟩
  simp only [if_neg c3]
  by_cases c2 : k = i2
  · simp only [if_pos c2]; exact ⟨trivial, y2⟩
  simp only [if_neg c2]
  by_cases c1 : k = i1
  · simp only [if_pos c1]; exact ⟨trivial, y1⟩
  simp only [if_neg c1]
  by_cases c0 : k = i0
  · simp only [if_pos c0]; exact ⟨trivial, y0⟩
  simp only [if_neg c0]
  exact v k hk
theorem Vsr_nest {A : Nat → Nat} {h m : MH} {V : Int64} {i0 i1 i2 i3 : Nat} (v : Vsr A h)
    (e1 : ∀ k, g_l m (A 4) k = if k = i3 then (foM V 3).toInt64 else if k = i2 then (foM V 2).toInt64 else if k = i1 then (foM V 1).toInt64 else if k = i0 then (foM V 0).toInt64 else g_l h (A 4) k)
    (e2 : ∀ k, g_i m (A 24) k = g_i h (A 24) k) : Vsr A (p_i (p_i (p_i (p_i m (A 24) i0 (foM V 0)) (A 24) i1 (foM V 1)) (A 24) i2 (foM V 2)) (A 24) i3 (foM V 3)) :=
  Vsr_of (i0 := i0) (i1 := i1) (i2 := i2) (i3 := i3) v (fom0 V) (fom1 V) (fom2 V) (fom3 V) (fun k => by simp only [ml_pi]; exact e1 k) (fun k => by simp only [mi_pi, e2, true_and])
theorem Vc_of {A : Nat → Nat} {h h2 : MH} {c : Nat} (v : Vc A h) (hc : c < 8) (e1 : ∀ k, g_i h2 (A 18) k = if k = c then g_i h (A 18) c + 1 else g_i h (A 18) k) (e2 : ∀ k, g_i h2 (A 30) k = if k = c then g_i h (A 30) c + 1 else g_i h (A 30) k) : Vc A h2 := by
  intro k hk
  rw [e1, e2]
  by_cases c3 : k = c
  · simp only [if_pos c3]
    rw [v c hc]
  · simp only [if_neg c3]
    exact v k hk
theorem hx_290_1 {l rest : List Value} {bc bs : Nat} {Q : MR → MH → Prop} {h : MH} : Kc Ok 290 6 9 l rest bc bs Q (.inr 1) h ↔ ∀ q : Nat, Ok 290 16 l [.ref q] h bc bs Q := Kc_x (by decide +kernel) (by decide +kernel)
theorem op_lay {A : Nat → Nat} {h : MH} (R : Rl A h) {s u l : Int32} : Ok 290 0 [.ref (A 0), .int s, .int u, .int l, .ref (A 39), mk0] [] h 1 6 (fun r h1 => ∃ k : Int32, r = .inl (some (.int k)) ∧ g_c h1 (A 22) = 9 ∧ Ok 176 0 [.ref (A 22), .int s, .int u, .int l] [] h1 0 0 (fun r2 h2 => ∃ b : Int32, r2 = .inl (some (.int b)) ∧ Rl A h2 ∧ g_i h2 (A 22) 9 = k ∧ (k = 0 → g_l h2 (A 39) 0 = b.toInt64))) := by
  obtain ⟨vk, vcn, v0, v1, v2, vp, vl0, vl1, vlr, vsr, vc, tx⟩ := R
  have vk0 := vk
  (refine K_el vk0 ?_; intros hA kc0 kc1 kc2 kc3 kc4 kc5 kc6 kc7 kc8 kc9 kc10 kc11 kc12 kc13 kc14 kc15 kc16 kc17 kc18 kc19 kc20 kc21 kc22 kc23 kc24 kc25 kc26 kc27 kc28 kc29 kc30 kc31 kc32 kc33 kc34 kc35 kc36 kc37 kc38 kc39 kz kt kn3 kn4 kn18 kn21 kn23 kn24 kn25 kn26 kn27 kn29 kn30 kr0_0 kr0_1 kr0_2 kr0_3 kr0_4 kr0_5 kr0_7 kr0_8 kr0_9 kr0_10 kr1_0 kr2_0 kr5_0 kr5_1 kr6_0 kr6_1 kr7_0 kr7_1 kr8_0 kr9_0 kr10_0 kr11_0 kr12_0 kr13_0 kr14_0 kr15_0 kr16_0 kr17_0 kr19_0 kr19_1 kr22_0 kr22_1 kr22_2 kr22_3 kr22_4 kr22_5 kr22_7 kr22_8 kr25_0 kr25_1 kr25_2 kr26_0 kr26_1 kr26_2 kr29_0 kr29_1)
  have hAe : ∀ i j, i < 40 → j < 40 → (A i = A j ↔ i = j) := hA
  by_cases bs : s < 0 ∨ ¬ s < 6
  · have bs2 : (¬ s < 0 ∧ s < 6) = False := by
      apply propext
      constructor
      · rintro ⟨z1, z2⟩
        rcases bs with z | z
        · exact z1 z
        · exact z z2
      · exact False.elim
    simp only [o290_0, o290_2, o290_3, o290_4, o290_5, o290_6, o290_16, o290_18, o290_19, o58_0, o58_1, o58_4, o58_5, o58_8, o58_9, o58_10, o58_11, o58_12, o176_0, o176_1, o176_2, o176_5, o176_8, o176_9, o176_12, o176_13, o176_16, o176_19, o176_20, o176_21, o176_22, o176_23, o176_24, o176_25, o176_26, o176_29, o176_30, o176_31, o176_34, o176_35, o176_36, o176_39, o176_40, o176_43, o176_44, o176_45, o176_46, c_X5_checkSlot, c_X8_isSlot, c_X8_isThrown__, hx_290_1, mc_pi, mc_pT, mi_pi, mi_pT, ml_pi, ml_pT, mz_pT, mcs_0, mcs_i, mcs_r, Kn_v, Kn_0, Kn_x, mrf_some, true_and, and_true, not_true_eq_false, not_false_eq_true, false_implies, forall_const, if_true, if_false, and_self, Nat.reduceLeDiff, Nat.reduceSub, Nat.reduceAdd, Nat.zero_le, Nat.le_refl, i10, lt_le, Classical.not_not, Sum.inl.injEq, Option.some.injEq, Value.int.injEq, exists_eq_left', Nat.reduceLT, kc0, kc22, kr0_9, kz, bs, bs2]
    intro t ht
    first | refine ⟨⟨?_, ?_, ?_, ?_, ?_, ?_, ?_, ?_, ?_, ?_, ?_, ?_⟩, rfl⟩ | refine ⟨?_, ?_, ?_, ?_, ?_, ?_, ?_, ?_, ?_, ?_, ?_, ?_⟩
    · simp only [K_pi]
      exact K_pT ht vk
    · simp only [Cn_pi_j22 hA, Cn_pT]
      exact vcn
    · simp only [Vq0_pi_j22 hA, Vq0_pT]
      exact v0
    · simp only [Vq1_pi_j22 hA, Vq1_pT]
      exact v1
    · simp only [Vq2_pi_j22 hA, Vq2_pT]
      exact v2
    · simp only [Vp_thr hA, Vp_pT]
      exact vp
    · simp only [Vl0_pi_j22 hA, Vl0_pT]
      exact vl0
    · simp only [Vl1_pi_j22 hA, Vl1_pT]
      exact vl1
    · simp only [Vlr_pi_j22 hA, Vlr_pT]
      exact vlr
    · simp only [Vsr_pi_j22 hA, Vsr_pT]
      exact vsr
    · simp only [Vc_pi_j22 hA, Vc_pT]
      exact vc
    · simp only [Tx_pi_j22 hA]
      exact Tx_pT ht tx
  · have s1 : ¬ s < 0 := fun z => bs (Or.inl z)
    have s2 : s < 6 := Classical.byContradiction fun z => bs (Or.inr z)
    have hs := ix_ok s1 s2
    have hs2 := hs
    obtain ⟨⟨j0, j1, j2, j3⟩, d01, d02, d03, d10, d12, d13, d20, d21, d23, d30, d31, d32⟩ := hs2
    obtain ⟨l0, l1, l2, l3⟩ := ix_lt hs
    have vs0 := (vsr _ l0).1
    have vs1 := (vsr _ l1).1
    have vs2 := (vsr _ l2).1
    have vs3 := (vsr _ l3).1
    have bs2 : (¬ s < 0 ∧ s < 6) = True := eq_true ⟨s1, s2⟩
    by_cases bl : l < 0
    all_goals
      simp only [o290_0, o290_2, o290_3, o290_4, o290_5, o290_6, o290_9, o290_10, o290_13, o290_16, o290_18, o290_19, o290_20, o290_21, o58_0, o58_1, o58_4, o58_5, o58_8, o58_9, o58_10, o58_11, o58_12, o58_15, o58_18, o58_21, o176_0, o176_1, o176_2, o176_5, o176_8, o176_9, o176_12, o176_13, o176_16, o176_19, o176_20, o176_21, o176_22, o176_23, o176_24, o176_25, o176_26, o176_29, o176_30, o176_31, o176_34, o176_35, o176_36, o176_39, o176_40, o176_43, o176_44, o176_45, o176_46, o176_49, o176_52, c_X5_checkSlot, c_X5_joined, c_X5_layNumber (rw := A 2) (cs := A 4), c_X0_done (cs := A 18), c_X8_isSlot, c_X8_isThrown__, c_X8_laid (sr := A 24), c_X8_done (cs := A 30), hx_290_1, mc_pi, mc_pl, mc_pT, mn_pi, mn_pl, mn_pT, mi_pi, mi_pl, mi_pT, ml_pi, ml_pl, ml_pT, mr_pi, mr_pl, mr_pT, mz_pi, mz_pl, mz_pT, mcs_0, mcs_i, mcs_r, Kn_v, Kn_0, Kn_x, mrf_some, true_and, and_true, false_and, and_false, or_false, not_true_eq_false, not_false_eq_true, false_implies, implies_true, forall_const, if_true, if_false, and_self, Nat.reduceEqDiff, Nat.reduceLeDiff, Nat.reduceSub, Nat.reduceAdd, Nat.zero_le, Nat.le_refl, i10, i01, lt_le, Kc_v, Sum.inl.injEq, Option.some.injEq, Value.int.injEq, exists_eq_left', Nat.reduceLT, hAe, kc0, kc2, kc4, kc17, kc18, kc22, kc24, kc30, kc39, kn4, kn18, kn24, kn30, kr0_1, kr0_9, kr2_0, kr17_0, kr22_1, kr22_8, kz, s1, s2, bl, hs, vs0, vs1, vs2, vs3, i64_inj, jo_eq, fo0, fo1, fo2, fo3]
      first | refine ⟨⟨?_, ?_, ?_, ?_, ?_, ?_, ?_, ?_, ?_, ?_, ?_, ?_⟩, rfl⟩ | refine ⟨?_, ?_, ?_, ?_, ?_, ?_, ?_, ?_, ?_, ?_, ?_, ?_⟩
      · simp only [K_pi, K_pl]
        exact vk
      · simp only [Cn_pi_j18 hA, Cn_pi_j22 hA, Cn_pi_j30 hA, Cn_pi_j24 hA, Cn_pl]
        exact vcn
      · simp only [Vq0_pi_j18 hA, Vq0_pi_j22 hA, Vq0_pi_j30 hA, Vq0_pi_j24 hA, Vq0_pl]
        exact v0
      · simp only [Vq1_pi_j18 hA, Vq1_pi_j22 hA, Vq1_pi_j30 hA, Vq1_pi_j24 hA, Vq1_pl]
        exact v1
      · simp only [Vq2_pi_j18 hA, Vq2_pi_j22 hA, Vq2_pi_j30 hA, Vq2_pi_j24 hA, Vq2_pl]
        exact v2
      · simp only [Vp_pi_j18 hA, Vp_pi_j30 hA, Vp_pi_j24 hA, Vp_thr hA, Vp_pl]
        exact vp
      · simp only [Vl0_pi_j18 hA, Vl0_pi_j22 hA, Vl0_pi_j30 hA, Vl0_pi_j24 hA, Vl0_pl]
        exact vl0
      · simp only [Vl1_pi_j18 hA, Vl1_pi_j22 hA, Vl1_pi_j30 hA, Vl1_pi_j24 hA, Vl1_pl]
        exact vl1
      · simp only [Vlr_pi_j18 hA, Vlr_pi_j22 hA, Vlr_pi_j30 hA, Vlr_pi_j24 hA, Vlr_pl_j39 hA, Vlr_pl_j4 hA]
        exact vlr
      · simp only [Vsr_pi_j30 hA]
        refine Vsr_nest vsr (fun k => ?_) (fun k => ?_) <;> simp only [mi_pi, mi_pl, ml_pi, ml_pl, hAe, Nat.reduceLT, Nat.reduceEqDiff, false_and, true_and, if_false]
      · refine Vc_of (c := 0) vc (by decide) (fun k => ?_) (fun k => ?_) <;> simp only [mi_pi, mi_pl, hAe, Nat.reduceLT, Nat.reduceEqDiff, false_and, true_and, if_false]
      · simp only [Tx_pi_j18 hA, Tx_pi_j22 hA, Tx_pi_j30 hA, Tx_pi_j24 hA, Tx_pl]
        exact tx


section
theorem hx_312_1 {l rest : List Value} {bc bs : Nat} {Q : MR → MH → Prop} {h : MH} : Kc Ok 312 4 7 l rest bc bs Q (.inr 1) h ↔ ∀ q : Nat, Ok 312 14 l [.ref q] h bc bs Q := Kc_x (by decide +kernel) (by decide +kernel)
theorem hx_312_2 {l rest : List Value} {bc bs : Nat} {Q : MR → MH → Prop} {h : MH} : Kc Ok 312 4 7 l rest bc bs Q (.inr 2) h ↔ ∀ q : Nat, Ok 312 18 l [.ref q] h bc bs Q := Kc_x (by decide +kernel) (by decide +kernel)
theorem hx_312_3 {l rest : List Value} {bc bs : Nat} {Q : MR → MH → Prop} {h : MH} : Kc Ok 312 4 7 l rest bc bs Q (.inr 3) h ↔ ∀ q : Nat, Ok 312 22 l [.ref q] h bc bs Q := Kc_x (by decide +kernel) (by decide +kernel)
theorem op_pourAll {A : Nat → Nat} {h : MH} (R : Rl A h) {s f : Int32} : Ok 312 0 [.ref (A 0), .int s, .int f, .ref (A 39), mk0] [] h 3 18 (fun r h1 => ∃ k : Int32, r = .inl (some (.int k)) ∧ g_c h1 (A 22) = 9 ∧ Ok 209 0 [.ref (A 22), .int s, .int f, mk0, mk0] [] h1 0 0 (fun r2 h2 => ∃ b : Int32, r2 = .inl (some (.int b)) ∧ Rl A h2 ∧ g_i h2 (A 22) 9 = k ∧ (k = 0 → g_l h2 (A 39) 0 = b.toInt64))) := by
  obtain ⟨vk, vcn, v0, v1, v2, vp, vl0, vl1, vlr, vsr, vc, tx⟩ := R
  have vk0 := vk
  have vcn0 := vcn
  (refine K_el vk0 ?_; intros hA kc0 kc1 kc2 kc3 kc4 kc5 kc6 kc7 kc8 kc9 kc10 kc11 kc12 kc13 kc14 kc15 kc16 kc17 kc18 kc19 kc20 kc21 kc22 kc23 kc24 kc25 kc26 kc27 kc28 kc29 kc30 kc31 kc32 kc33 kc34 kc35 kc36 kc37 kc38 kc39 kz kt kn3 kn4 kn18 kn21 kn23 kn24 kn25 kn26 kn27 kn29 kn30 kr0_0 kr0_1 kr0_2 kr0_3 kr0_4 kr0_5 kr0_7 kr0_8 kr0_9 kr0_10 kr1_0 kr2_0 kr5_0 kr5_1 kr6_0 kr6_1 kr7_0 kr7_1 kr8_0 kr9_0 kr10_0 kr11_0 kr12_0 kr13_0 kr14_0 kr15_0 kr16_0 kr17_0 kr19_0 kr19_1 kr22_0 kr22_1 kr22_2 kr22_3 kr22_4 kr22_5 kr22_7 kr22_8 kr25_0 kr25_1 kr25_2 kr26_0 kr26_1 kr26_2 kr29_0 kr29_1)
  (refine Cn_el vcn0 ?_; intros ki5_2 ki6_2 ki7_2 ki8_1 ki8_2 ki8_3 ki9_1 ki9_2 ki9_3 ki10_1 ki10_2 ki10_3 ki11_1 ki11_2 ki11_3 ki12_1 ki12_2 ki12_3 ki13_1 ki13_2 ki13_3 ki14_1 ki14_2 ki14_3 ki28_0 ki28_1 ki31_0 ki31_1 ki32_0 ki32_1 ki33_0 ki33_1 ki34_0 ki34_1 ki35_0 ki35_1 ki36_0 ki36_1)
  have hAe : ∀ i j, i < 40 → j < 40 → (A i = A j ↔ i = j) := hA
  have hp2 := vp
  obtain ⟨⟨p1, p2, p3, p4⟩, hpm⟩ := hp2
  replace p1 := p1.symm
  replace p2 := p2.symm
  replace p3 := p3.symm
  replace p4 := p4.symm
  rw [p1, p2, p3, p4] at hpm
  obtain ⟨pm, pd⟩ := pA _ hpm
  simp only at pm pd
  by_cases bs : s < 0 ∨ ¬ s < 6
  · have bs2 : (¬ s < 0 ∧ s < 6) = False := nrng bs
    by_cases bf : (¬ f < 0 ∧ f < 4) <;> rcases pd with pd | pd
    all_goals
      simp only [o312_0, o312_1, o312_2, o312_3, o312_4, o312_14, o312_16, o312_17, o312_18, o312_20, o312_21, o312_22, o312_24, o312_25, o82_0, o82_1, o82_4, o82_5, o82_8, o82_9, o82_12, o82_13, o82_14, o82_15, o82_16, o82_19, o209_0, o209_1, o209_2, o209_5, o209_8, o209_9, o209_12, o209_13, o209_14, o209_17, o209_20, o209_21, o209_24, o209_25, o209_26, o209_29, o209_32, o209_35, o209_36, o209_37, o209_38, o209_39, o209_40, o209_42, o209_44, o209_45, o209_48, o209_49, o209_52, o209_85, o209_86, o209_87, hx_312_1, hx_312_2, hx_312_3, c_X5_checkSlot, c_X8_isSlot, c_X8_isThrown, c_X5_checkFourth, c_X8_isFourth, c_X5_checkFilling, mc_pi, mc_pT, mi_pi, mi_pT, ml_pi, ml_pT, mr_pi, mr_pT, mz_pT, mcs_0, mcs_i, mcs_r, Kn_v, Kn_0, Kn_x, mrf_some, true_and, and_true, and_false, or_false, not_true_eq_false, not_false_eq_true, false_implies, forall_const, if_true, if_false, and_self, Nat.reduceLeDiff, Nat.reduceSub, Nat.reduceAdd, Nat.zero_le, Nat.le_refl, i10, lt_le, Classical.not_not, Sum.inl.injEq, Option.some.injEq, Value.int.injEq, exists_eq_left', Nat.reduceLT, i20, i30, kc0, kc14, kc22, kc28, kr0_5, kr22_5, kz, bs, bs2, bf, pd, p4]
      intro t ht
      first | refine ⟨⟨?_, ?_, ?_, ?_, ?_, ?_, ?_, ?_, ?_, ?_, ?_, ?_⟩, rfl⟩ | refine ⟨?_, ?_, ?_, ?_, ?_, ?_, ?_, ?_, ?_, ?_, ?_, ?_⟩
      · (try simp only [K_pi])
        exact K_pT ht vk
      · (try simp only [Cn_pi_j22 hA, Cn_pT])
        exact vcn
      · (try simp only [Vq0_pi_j22 hA, Vq0_pT])
        exact v0
      · (try simp only [Vq1_pi_j22 hA, Vq1_pT])
        exact v1
      · (try simp only [Vq2_pi_j22 hA, Vq2_pT])
        exact v2
      · (try simp only [Vp_thr hA, Vp_pT])
        exact vp
      · (try simp only [Vl0_pi_j22 hA, Vl0_pT])
        exact vl0
      · (try simp only [Vl1_pi_j22 hA, Vl1_pT])
        exact vl1
      · (try simp only [Vlr_pi_j22 hA, Vlr_pT])
        exact vlr
      · (try simp only [Vsr_pi_j22 hA, Vsr_pT])
        exact vsr
      · (try simp only [Vc_pi_j22 hA, Vc_pT])
        exact vc
      · (try simp only [Tx_pi_j22 hA])
        exact Tx_pT ht tx
  · have s1 : ¬ s < 0 := fun z => bs (Or.inl z)
    have s2 : s < 6 := Classical.byContradiction fun z => bs (Or.inr z)
    have hs := ix_ok s1 s2
    have hs2 := hs
    obtain ⟨⟨j0, j1, j2, j3⟩, d01, d02, d03, d10, d12, d13, d20, d21, d23, d30, d31, d32⟩ := hs2
    obtain ⟨l0, l1, l2, l3⟩ := ix_lt hs
    have vs0 := (vsr _ l0).1
    have vs1 := (vsr _ l1).1
    have vs2 := (vsr _ l2).1
    have vs3 := (vsr _ l3).1
    have bs2 : (¬ s < 0 ∧ s < 6) = True := eq_true ⟨s1, s2⟩
    by_cases bf : f < 0 ∨ ¬ f < 4
    · have bf2 : (¬ f < 0 ∧ f < 4) = False := nrng bf
      rcases pd with pd | pd
      all_goals
        simp only [o312_0, o312_1, o312_2, o312_3, o312_4, o312_14, o312_16, o312_17, o312_18, o312_20, o312_21, o312_22, o312_24, o312_25, o82_0, o82_1, o82_4, o82_5, o82_8, o82_9, o82_12, o82_13, o82_14, o82_15, o82_16, o82_19, o209_0, o209_1, o209_2, o209_5, o209_8, o209_9, o209_12, o209_13, o209_14, o209_17, o209_20, o209_21, o209_24, o209_25, o209_26, o209_29, o209_32, o209_35, o209_36, o209_37, o209_38, o209_39, o209_40, o209_42, o209_44, o209_45, o209_48, o209_49, o209_52, o209_85, o209_86, o209_87, hx_312_1, hx_312_2, hx_312_3, c_X5_checkSlot, c_X8_isSlot, c_X8_isThrown, c_X5_checkFourth, c_X8_isFourth, c_X5_checkFilling, mc_pi, mc_pT, mi_pi, mi_pT, ml_pi, ml_pT, mr_pi, mr_pT, mz_pT, mcs_0, mcs_i, mcs_r, Kn_v, Kn_0, Kn_x, mrf_some, true_and, and_true, and_false, or_false, not_true_eq_false, not_false_eq_true, false_implies, forall_const, if_true, if_false, and_self, Nat.reduceLeDiff, Nat.reduceSub, Nat.reduceAdd, Nat.zero_le, Nat.le_refl, i10, lt_le, Classical.not_not, Sum.inl.injEq, Option.some.injEq, Value.int.injEq, exists_eq_left', Nat.reduceLT, i20, i30, kc0, kc14, kc22, kc28, kr0_5, kr22_5, kz, bf, bf2, pd, p4, s1, s2]
        intro t ht
        first | refine ⟨⟨?_, ?_, ?_, ?_, ?_, ?_, ?_, ?_, ?_, ?_, ?_, ?_⟩, rfl⟩ | refine ⟨?_, ?_, ?_, ?_, ?_, ?_, ?_, ?_, ?_, ?_, ?_, ?_⟩
        · (try simp only [K_pi])
          exact K_pT ht vk
        · (try simp only [Cn_pi_j22 hA, Cn_pT])
          exact vcn
        · (try simp only [Vq0_pi_j22 hA, Vq0_pT])
          exact v0
        · (try simp only [Vq1_pi_j22 hA, Vq1_pT])
          exact v1
        · (try simp only [Vq2_pi_j22 hA, Vq2_pT])
          exact v2
        · (try simp only [Vp_thr hA, Vp_pT])
          exact vp
        · (try simp only [Vl0_pi_j22 hA, Vl0_pT])
          exact vl0
        · (try simp only [Vl1_pi_j22 hA, Vl1_pT])
          exact vl1
        · (try simp only [Vlr_pi_j22 hA, Vlr_pT])
          exact vlr
        · (try simp only [Vsr_pi_j22 hA, Vsr_pT])
          exact vsr
        · (try simp only [Vc_pi_j22 hA, Vc_pT])
          exact vc
        · (try simp only [Tx_pi_j22 hA])
          exact Tx_pT ht tx
    · have f1 : ¬ f < 0 := fun z => bf (Or.inl z)
      have f2 : f < 4 := Classical.byContradiction fun z => bf (Or.inr z)
      have bf2 : (¬ f < 0 ∧ f < 4) = True := eq_true ⟨f1, f2⟩
      rcases pd with pd | pd
      · obtain ⟨e4, hlim, hP10, hq8⟩ := pD _ hpm pd
        simp only at e4 hlim hP10 hq8
        generalize hP : (g_i h (A 14) 4).toNatClampNeg = P at *
        obtain ⟨S, rfl, hS⟩ := s_nat s1 s2
        obtain ⟨F, rfl, hF⟩ := f_nat f1 f2
        have hvs : ∀ k, k < 36 → (g_l h (A 4) k).toInt32.toInt64 = g_l h (A 4) k := fun k hk => by rw [(vsr k hk).1, i64_back]
        have w4 : 4 - Int32.ofNat F = Int32.ofNat (4 - F) := n_sub (a := 4) (b := F) (by omega) (by decide)
        have w10 : 10 - Int32.ofNat P = Int32.ofNat (10 - P) := n_sub (a := 10) (b := P) (by omega) (by decide)
        by_cases hc : 10 - P < 4 - F
        · have wc : (Int32.ofNat (10 - P) < Int32.ofNat (4 - F)) = True := by rw [n_lt (by omega) (by omega)]; exact eq_true hc
          have hFn : F + (10 - P) ≤ 4 := by omega
          have hPn : P + (10 - P) ≤ 10 := by omega
          have hen : F + (10 - P) = 4 ∨ P + (10 - P) = 10 := by omega
          have hq9 := hq8 (10 - P) (List.mem_range.mpr (by omega)) hPn
          rw [← pd] at hq9
          simp only [o312_0, o312_1, o312_2, o312_3, o312_4, o312_7, o312_8, o312_11, o312_14, o312_16, o312_17, o312_18, o312_20, o312_21, o312_22, o312_24, o312_25, o312_26, o312_27, o82_0, o82_1, o82_4, o82_5, o82_8, o82_9, o82_12, o82_13, o82_14, o82_15, o82_16, o82_19, o82_22, o82_25, o82_26, o82_27, o82_59, o82_60, o82_63, o82_64, o82_67, o209_0, o209_1, o209_2, o209_5, o209_8, o209_9, o209_12, o209_13, o209_14, o209_17, o209_20, o209_21, o209_24, o209_25, o209_26, o209_29, o209_32, o209_35, o209_36, o209_37, o209_38, o209_39, o209_40, o209_85, o209_86, o209_87, o209_90, hx_312_1, hx_312_2, hx_312_3, c_X5_checkSlot, c_X8_isSlot, c_X8_isThrown, c_X5_checkFourth, c_X8_isFourth, c_X5_checkFilling, c_X3_rests, cpo_all (vs := hvs) (rw := A 2) (cs := A 4) (w := A 14) (n := (10 - P)) (P := P), mpo_all (sr := A 24) (w := A 28) (n := (10 - P)) (P := P), c_X0_done (cs := A 18), c_X8_done (cs := A 30), mc_pi, mc_pl, mc_pT, mn_pi, mn_pl, mn_pT, mi_pi, mi_pl, mi_pT, ml_pi, ml_pl, ml_pT, mr_pi, mr_pl, mr_pT, mz_pi, mz_pl, mz_pT, mcs_0, mcs_i, mcs_r, Kn_v, Kn_0, Kn_x, mrf_some, true_and, and_true, and_false, or_false, not_true_eq_false, not_false_eq_true, false_implies, implies_true, forall_const, if_true, if_false, and_self, Nat.reduceEqDiff, Nat.reduceLeDiff, Nat.reduceSub, Nat.reduceAdd, Nat.zero_le, Nat.le_refl, i10, i01, Kc_v, Sum.inl.injEq, Option.some.injEq, Value.int.injEq, exists_eq_left', Nat.reduceLT, hAe, i20, i30, kc0, kc2, kc4, kc14, kc17, kc18, kc22, kc24, kc28, kc30, kc39, kn4, kn18, kn24, kn30, kr0_1, kr0_5, kr0_9, kr2_0, kr14_0, kr17_0, kr22_1, kr22_5, kr22_8, kz, ki14_1, ki14_2, ki14_3, p1, p2, p4, hlim, e4, pd, f1, f2, s1, s2, hS, hFn, hPn, hen, w4, w10, wc, cpL_c, cpL_n, cpL_r, cpL_i, cpL_z, cpI_c, cpI_n, cpI_r, cpI_l, cpI_z, cpL_i, cpI_w, cpI_l]
          first | refine ⟨⟨?_, ?_, ?_, ?_, ?_, ?_, ?_, ?_, ?_, ?_, ?_, ?_⟩, rfl⟩ | refine ⟨?_, ?_, ?_, ?_, ?_, ?_, ?_, ?_, ?_, ?_, ?_, ?_⟩
          · (try simp only [K_pi, K_pl, K_cpI, K_cpL])
            exact vk
          · (try simp only [Cn_pi_j18 hA, Cn_pi_j22 hA, Cn_pi_j30 hA, Cn_14_4 hA, Cn_28_3 hA, Cn_pl, Cn_cpI24 hA, Cn_cpL4 hA])
            exact vcn
          · (try simp only [Vq0_pi_j18 hA, Vq0_pi_j22 hA, Vq0_pi_j30 hA, Vq0_pi_j14 hA, Vq0_pi_j28 hA, Vq0_pl, Vq0_cpI24 hA, Vq0_cpL4 hA])
            exact v0
          · (try simp only [Vq1_pi_j18 hA, Vq1_pi_j22 hA, Vq1_pi_j30 hA, Vq1_pi_j14 hA, Vq1_pi_j28 hA, Vq1_pl, Vq1_cpI24 hA, Vq1_cpL4 hA])
            exact v1
          · (try simp only [Vq2_pi_j18 hA, Vq2_pi_j22 hA, Vq2_pi_j30 hA, Vq2_pi_j14 hA, Vq2_pi_j28 hA, Vq2_pl, Vq2_cpI24 hA, Vq2_cpL4 hA])
            exact v2
          · simp only [Vp, mi_pi, mi_pl, hAe, Nat.reduceLT, Nat.reduceEqDiff, false_and, and_false, true_and, and_true, if_false, if_true, cpL_i, cpI_i, cpL_i, p1, p2, p3, p4, pco, true_and, and_self, hlim]
            first | exact hq9 | exact ⟨⟨rfl, rfl, rfl, rfl⟩, hq9⟩ | (refine ⟨⟨?_, ?_, ?_, ?_⟩, hq9⟩ <;> first | rfl | trivial)
          · (try simp only [Vl0_pi_j18 hA, Vl0_pi_j22 hA, Vl0_pi_j30 hA, Vl0_pi_j14 hA, Vl0_pi_j28 hA, Vl0_pl, Vl0_cpI24 hA, Vl0_cpL4 hA])
            exact vl0
          · (try simp only [Vl1_pi_j18 hA, Vl1_pi_j22 hA, Vl1_pi_j30 hA, Vl1_pi_j14 hA, Vl1_pi_j28 hA, Vl1_pl, Vl1_cpI24 hA, Vl1_cpL4 hA])
            exact vl1
          · (try simp only [Vlr_pi_j18 hA, Vlr_pi_j22 hA, Vlr_pi_j30 hA, Vlr_pi_j14 hA, Vlr_pi_j28 hA, Vlr_pl_j39 hA, Vlr_cpI24 hA, Vlr_cpL4 hA])
            exact vlr
          · refine Vsr_cp (d := 1 + P) (s := 11 + 4 * S + F) (n := (10 - P)) vsr (by omega) (fun k => ?_) (fun k => ?_) <;> simp only [mi_pi, mi_pl, ml_pi, ml_pl, hAe, Nat.reduceLT, Nat.reduceEqDiff, false_and, true_and, if_false, cpL_l, cpI_i, cpL_i, cpI_l]
          · refine Vc_of (c := 0) vc (by decide) (fun k => ?_) (fun k => ?_) <;> simp only [mi_pi, mi_pl, hAe, Nat.reduceLT, Nat.reduceEqDiff, false_and, true_and, if_false, cpL_i, cpI_i, cpL_i]
          · (try simp only [Tx_pi_j18 hA, Tx_pi_j22 hA, Tx_pi_j30 hA, Tx_pi_j14 hA, Tx_pi_j28 hA, Tx_pl, Tx_cpI24 hA, Tx_cpL4 hA])
            exact tx
        · have wc : (Int32.ofNat (10 - P) < Int32.ofNat (4 - F)) = False := by rw [n_lt (by omega) (by omega)]; exact eq_false hc
          have hFn : F + (4 - F) ≤ 4 := by omega
          have hPn : P + (4 - F) ≤ 10 := by omega
          have hen : F + (4 - F) = 4 ∨ P + (4 - F) = 10 := by omega
          have hq9 := hq8 (4 - F) (List.mem_range.mpr (by omega)) hPn
          rw [← pd] at hq9
          simp only [o312_0, o312_1, o312_2, o312_3, o312_4, o312_7, o312_8, o312_11, o312_14, o312_16, o312_17, o312_18, o312_20, o312_21, o312_22, o312_24, o312_25, o312_26, o312_27, o82_0, o82_1, o82_4, o82_5, o82_8, o82_9, o82_12, o82_13, o82_14, o82_15, o82_16, o82_19, o82_22, o82_25, o82_26, o82_27, o82_59, o82_60, o82_63, o82_64, o82_67, o209_0, o209_1, o209_2, o209_5, o209_8, o209_9, o209_12, o209_13, o209_14, o209_17, o209_20, o209_21, o209_24, o209_25, o209_26, o209_29, o209_32, o209_35, o209_36, o209_37, o209_38, o209_39, o209_40, o209_85, o209_86, o209_87, o209_90, hx_312_1, hx_312_2, hx_312_3, c_X5_checkSlot, c_X8_isSlot, c_X8_isThrown, c_X5_checkFourth, c_X8_isFourth, c_X5_checkFilling, c_X3_rests, cpo_all (vs := hvs) (rw := A 2) (cs := A 4) (w := A 14) (n := (4 - F)) (P := P), mpo_all (sr := A 24) (w := A 28) (n := (4 - F)) (P := P), c_X0_done (cs := A 18), c_X8_done (cs := A 30), mc_pi, mc_pl, mc_pT, mn_pi, mn_pl, mn_pT, mi_pi, mi_pl, mi_pT, ml_pi, ml_pl, ml_pT, mr_pi, mr_pl, mr_pT, mz_pi, mz_pl, mz_pT, mcs_0, mcs_i, mcs_r, Kn_v, Kn_0, Kn_x, mrf_some, true_and, and_true, and_false, or_false, not_true_eq_false, not_false_eq_true, false_implies, implies_true, forall_const, if_true, if_false, and_self, Nat.reduceEqDiff, Nat.reduceLeDiff, Nat.reduceSub, Nat.reduceAdd, Nat.zero_le, Nat.le_refl, i10, i01, Kc_v, Sum.inl.injEq, Option.some.injEq, Value.int.injEq, exists_eq_left', Nat.reduceLT, hAe, i20, i30, kc0, kc2, kc4, kc14, kc17, kc18, kc22, kc24, kc28, kc30, kc39, kn4, kn18, kn24, kn30, kr0_1, kr0_5, kr0_9, kr2_0, kr14_0, kr17_0, kr22_1, kr22_5, kr22_8, kz, ki14_1, ki14_2, ki14_3, p1, p2, p4, hlim, e4, pd, f1, f2, s1, s2, hS, hFn, hPn, hen, w4, w10, wc, cpL_c, cpL_n, cpL_r, cpL_i, cpL_z, cpI_c, cpI_n, cpI_r, cpI_l, cpI_z, cpL_i, cpI_w, cpI_l]
          first | refine ⟨⟨?_, ?_, ?_, ?_, ?_, ?_, ?_, ?_, ?_, ?_, ?_, ?_⟩, rfl⟩ | refine ⟨?_, ?_, ?_, ?_, ?_, ?_, ?_, ?_, ?_, ?_, ?_, ?_⟩
          · (try simp only [K_pi, K_pl, K_cpI, K_cpL])
            exact vk
          · (try simp only [Cn_pi_j18 hA, Cn_pi_j22 hA, Cn_pi_j30 hA, Cn_14_4 hA, Cn_28_3 hA, Cn_pl, Cn_cpI24 hA, Cn_cpL4 hA])
            exact vcn
          · (try simp only [Vq0_pi_j18 hA, Vq0_pi_j22 hA, Vq0_pi_j30 hA, Vq0_pi_j14 hA, Vq0_pi_j28 hA, Vq0_pl, Vq0_cpI24 hA, Vq0_cpL4 hA])
            exact v0
          · (try simp only [Vq1_pi_j18 hA, Vq1_pi_j22 hA, Vq1_pi_j30 hA, Vq1_pi_j14 hA, Vq1_pi_j28 hA, Vq1_pl, Vq1_cpI24 hA, Vq1_cpL4 hA])
            exact v1
          · (try simp only [Vq2_pi_j18 hA, Vq2_pi_j22 hA, Vq2_pi_j30 hA, Vq2_pi_j14 hA, Vq2_pi_j28 hA, Vq2_pl, Vq2_cpI24 hA, Vq2_cpL4 hA])
            exact v2
          · simp only [Vp, mi_pi, mi_pl, hAe, Nat.reduceLT, Nat.reduceEqDiff, false_and, and_false, true_and, and_true, if_false, if_true, cpL_i, cpI_i, cpL_i, p1, p2, p3, p4, pco, true_and, and_self, hlim]
            first | exact hq9 | exact ⟨⟨rfl, rfl, rfl, rfl⟩, hq9⟩ | (refine ⟨⟨?_, ?_, ?_, ?_⟩, hq9⟩ <;> first | rfl | trivial)
          · (try simp only [Vl0_pi_j18 hA, Vl0_pi_j22 hA, Vl0_pi_j30 hA, Vl0_pi_j14 hA, Vl0_pi_j28 hA, Vl0_pl, Vl0_cpI24 hA, Vl0_cpL4 hA])
            exact vl0
          · (try simp only [Vl1_pi_j18 hA, Vl1_pi_j22 hA, Vl1_pi_j30 hA, Vl1_pi_j14 hA, Vl1_pi_j28 hA, Vl1_pl, Vl1_cpI24 hA, Vl1_cpL4 hA])
            exact vl1
          · (try simp only [Vlr_pi_j18 hA, Vlr_pi_j22 hA, Vlr_pi_j30 hA, Vlr_pi_j14 hA, Vlr_pi_j28 hA, Vlr_pl_j39 hA, Vlr_cpI24 hA, Vlr_cpL4 hA])
            exact vlr
          · refine Vsr_cp (d := 1 + P) (s := 11 + 4 * S + F) (n := (4 - F)) vsr (by omega) (fun k => ?_) (fun k => ?_) <;> simp only [mi_pi, mi_pl, ml_pi, ml_pl, hAe, Nat.reduceLT, Nat.reduceEqDiff, false_and, true_and, if_false, cpL_l, cpI_i, cpL_i, cpI_l]
          · refine Vc_of (c := 0) vc (by decide) (fun k => ?_) (fun k => ?_) <;> simp only [mi_pi, mi_pl, hAe, Nat.reduceLT, Nat.reduceEqDiff, false_and, true_and, if_false, cpL_i, cpI_i, cpL_i]
          · (try simp only [Tx_pi_j18 hA, Tx_pi_j22 hA, Tx_pi_j30 hA, Tx_pi_j14 hA, Tx_pi_j28 hA, Tx_pl, Tx_cpI24 hA, Tx_cpL4 hA])
            exact tx
      · skip
        simp only [o312_0, o312_1, o312_2, o312_3, o312_4, o312_14, o312_16, o312_17, o312_18, o312_20, o312_21, o312_22, o312_24, o312_25, o82_0, o82_1, o82_4, o82_5, o82_8, o82_9, o82_12, o82_13, o82_14, o82_15, o82_16, o82_19, o209_0, o209_1, o209_2, o209_5, o209_8, o209_9, o209_12, o209_13, o209_14, o209_17, o209_20, o209_21, o209_24, o209_25, o209_26, o209_29, o209_32, o209_35, o209_36, o209_37, o209_38, o209_39, o209_40, o209_42, o209_44, o209_45, o209_48, o209_49, o209_52, o209_85, o209_86, o209_87, hx_312_1, hx_312_2, hx_312_3, c_X5_checkSlot, c_X8_isSlot, c_X8_isThrown, c_X5_checkFourth, c_X8_isFourth, c_X5_checkFilling, mc_pi, mc_pT, mi_pi, mi_pT, ml_pi, ml_pT, mr_pi, mr_pT, mz_pT, mcs_0, mcs_i, mcs_r, Kn_v, Kn_0, Kn_x, mrf_some, true_and, and_true, and_false, or_false, not_true_eq_false, not_false_eq_true, false_implies, forall_const, if_true, if_false, and_self, Nat.reduceLeDiff, Nat.reduceSub, Nat.reduceAdd, Nat.zero_le, Nat.le_refl, i10, lt_le, Sum.inl.injEq, Option.some.injEq, Value.int.injEq, exists_eq_left', Nat.reduceLT, i20, i30, kc0, kc14, kc22, kc28, kr0_5, kr22_5, kz, p4, f1, f2, pd, s1, s2]
        intro t ht
        first | refine ⟨⟨?_, ?_, ?_, ?_, ?_, ?_, ?_, ?_, ?_, ?_, ?_, ?_⟩, rfl⟩ | refine ⟨?_, ?_, ?_, ?_, ?_, ?_, ?_, ?_, ?_, ?_, ?_, ?_⟩
        · (try simp only [K_pi])
          exact K_pT ht vk
        · (try simp only [Cn_pi_j22 hA, Cn_pT])
          exact vcn
        · (try simp only [Vq0_pi_j22 hA, Vq0_pT])
          exact v0
        · (try simp only [Vq1_pi_j22 hA, Vq1_pT])
          exact v1
        · (try simp only [Vq2_pi_j22 hA, Vq2_pT])
          exact v2
        · (try simp only [Vp_thr hA, Vp_pT])
          exact vp
        · (try simp only [Vl0_pi_j22 hA, Vl0_pT])
          exact vl0
        · (try simp only [Vl1_pi_j22 hA, Vl1_pT])
          exact vl1
        · (try simp only [Vlr_pi_j22 hA, Vlr_pT])
          exact vlr
        · (try simp only [Vsr_pi_j22 hA, Vsr_pT])
          exact vsr
        · (try simp only [Vc_pi_j22 hA, Vc_pT])
          exact vc
        · (try simp only [Tx_pi_j22 hA])
          exact Tx_pT ht tx
end

section
/-! drawAll -/
def oL (h : MH) (cs d s : Nat) : Nat → Int32
  | 0 => 0
  | j + 1 => oL h cs d s j + (if g_l h cs (d + j) = g_l h cs (s + j) then 0 else 1)
def oI (h : MH) (cs d s : Nat) : Nat → Int32
  | 0 => 0
  | j + 1 => oI h cs d s j + (if g_i h cs (d + j) = g_i h cs (s + j) then 0 else 1)
theorem oL_s {h : MH} {cs d s j : Nat} : oL h cs d s j + (if g_l h cs (d + j) = g_l h cs (s + j) then 0 else 1) = oL h cs d s (j + 1) := rfl
theorem oI_s {h : MH} {cs d s j : Nat} : oI h cs d s j + (if g_i h cs (d + j) = g_i h cs (s + j) then 0 else 1) = oI h cs d s (j + 1) := rfl
theorem oLI {A : Nat → Nat} {h m : MH} {d s : Nat} (v : Vsr A h) (e : ∀ k, g_i m (A 24) k = g_i h (A 24) k) : ∀ n, d + n ≤ 36 → s + n ≤ 36 → oL h (A 4) d s n = oI m (A 24) d s n
  | 0, _, _ => rfl
  | n + 1, h1, h2 => by
    rw [oL, oI, oLI v e n (by omega) (by omega), (v _ (show d + n < 36 by omega)).1, (v _ (show s + n < 36 by omega)).1, e, e]
    congr 1
    by_cases c : g_i h (A 24) (d + n) = g_i h (A 24) (s + n)
    · rw [if_pos c, if_pos (by rw [c])]
    · rw [if_neg c, if_neg (fun z => c (by simp only [i64_inj] at z; exact z))]
theorem oI_e {h m : MH} {cs d s : Nat} (e : ∀ k, g_i m cs k = g_i h cs k) : ∀ n, oI m cs d s n = oI h cs d s n
  | 0 => rfl
  | n + 1 => by rw [oI, oI, oI_e e n, e, e]
theorem oI_pi {h : MH} {a k cs d s n : Nat} {v : Int32} (hn : ¬ a = cs) : oI (p_i h a k v) cs d s n = oI h cs d s n := oI_e (fun j => by rw [mi_pi, if_neg (fun z => hn z.1.symm)]) n
theorem oI_pl {h : MH} {a k cs d s n : Nat} {v : Int64} : oI (p_l h a k v) cs d s n = oI h cs d s n := oI_e (h := h) (m := p_l h a k v) (fun j => rfl) n
theorem oI_cp {h : MH} {a d0 s0 n0 cs d s n : Nat} : oI (cpL h a d0 s0 n0) cs d s n = oI h cs d s n := oI_e (h := h) (m := cpL h a d0 s0 n0) (fun j => rfl) n
theorem cdr_step {x rw cs w S P L : Nat} {j : Nat} {h : MH} {Q : MR → MH → Prop} (x1 : g_c h x = 7) (x2 : g_r h x 1 = some rw) (x6 : g_r h x 5 = some w) (r1 : g_c h rw = 3) (r2 : g_r h rw 0 = some cs) (r3 : g_c h cs = 102) (r4 : g_n h cs = 36) (r5 : g_z h ≤ cs) (w1 : g_c h w = 4) (w2 : g_z h ≤ w) (w3 : g_r h w 0 = some rw) (a1 : g_i h w 1 = 1) (a2 : g_i h w 2 = 10) (a5 : g_i h w 5 = Int32.ofNat L) (hS : S < 6) (hP : P + 4 ≤ L) (hL : L ≤ 10) (hj : j < 4) : Ok 84 32 [.ref x, .int (Int32.ofNat S), .int (oL h cs (11 + 4 * S) (1 + P) j), .int (Int32.ofNat j)] [] (p_i (cpL h cs (11 + 4 * S) (1 + P) j) w 4 (Int32.ofNat (P + j))) 0 0 Q ↔ Ok 84 32 [.ref x, .int (Int32.ofNat S), .int (oL h cs (11 + 4 * S) (1 + P) (j + 1)), .int (Int32.ofNat (j + 1))] [] (p_i (cpL h cs (11 + 4 * S) (1 + P) (j + 1)) w 4 (Int32.ofNat (P + (j + 1)))) 0 0 Q := by
  have c1 : (Int32.ofNat j < 4) = True := by rw [show (4 : Int32) = Int32.ofNat 4 from rfl, n_lt (by omega) (by omega)]; exact eq_true hj
  have e1 : 1 + Int32.ofNat (P + j) = Int32.ofNat (1 + (P + j)) := n_add 1 (P + j)
  have e2 : Int32.ofNat (P + j) + 1 = Int32.ofNat (P + (j + 1)) := n_add (P + j) 1
  have e3 : Int32.ofNat j + 1 = Int32.ofNat (j + 1) := n_add j 1
  have e4 : 4 * Int32.ofNat S = Int32.ofNat (4 * S) := n_mul 4 S
  have e11 : 11 + Int32.ofNat (4 * S) = Int32.ofNat (11 + 4 * S) := n_add 11 (4 * S)
  have c2 : (Int32.ofNat (P + j) < 0) = False := n_z (by omega)
  have c3 : (Int32.ofNat (P + j) < 10) = True := by rw [show (10 : Int32) = Int32.ofNat 10 from rfl, n_lt (by omega) (by omega)]; exact eq_true (by omega)
  have c4 : (Int32.ofNat L - Int32.ofNat (P + j) = 0) = False := by
    rw [n_sub (by omega) (by omega), show (0 : Int32) = Int32.ofNat 0 from rfl]
    exact eq_false (fun z => by have := congrArg Int32.toNatClampNeg z; rw [n_cl (by omega), n_cl (by omega)] at this; omega)
  have c5 : rdy 36 (Int32.ofNat (11 + 4 * S + j)) := n_rdy (by omega) (by omega)
  have c6 : rdy 36 (Int32.ofNat (1 + (P + j))) := n_rdy (by omega) (by omega)
  have c7 : (Int32.ofNat (11 + 4 * S + j)).toNatClampNeg = 11 + 4 * S + j := n_cl (by omega)
  have c8 : (Int32.ofNat (1 + (P + j))).toNatClampNeg = 1 + P + j := by rw [n_cl (by omega), Nat.add_assoc]
  have c9 := cpL_o (h := h) (cs := cs) (d := 11 + 4 * S) (s := 1 + P) (n := j) (i := 11 + 4 * S + j) (by omega)
  have c10 := cpL_o (h := h) (cs := cs) (d := 11 + 4 * S) (s := 1 + P) (n := j) (i := 1 + P + j) (by omega)
  have c11 := cpL_s (h := h) (cs := cs) (d := 11 + 4 * S) (s := 1 + P) (n := j) (i := 11 + 4 * S + j) (v := g_l h cs (1 + P + j)) (by omega) rfl
  rw [o84_32]
  by_cases b : g_l h cs (11 + 4 * S + j) = g_l h cs (1 + P + j) <;> (
    have b2 := oL_s (h := h) (cs := cs) (d := 11 + 4 * S) (s := 1 + P) (j := j)
    simp only [b, if_true, if_false] at b2
    simp only [o84_33, o84_34, o84_37, o84_38, o84_39, o84_40, o84_41, o84_42, o84_45, o84_48, o84_51, o84_54, o84_55, o84_58, o84_59, o84_60, o84_61, o84_64, c_X5_changeFourth (rw := rw) (cs := cs), c_X3_readNext (rw := rw) (cs := cs) (n := 36), mc_pi, mn_pi, mi_pi, ml_pi, mr_pi, mz_pi, mcs_0, mcs_i, mcs_r, Kn_v, mrf_some, true_and, and_true, and_false, not_true_eq_false, not_false_eq_true, false_implies, forall_const, if_true, if_false, and_self, Nat.reduceEqDiff, Nat.reduceLeDiff, Nat.reduceAdd, i10, lt_le, cpL_c, cpL_n, cpL_r, cpL_i, cpL_z, x1, x2, x6, r1, r2, r3, r4, r5, w1, w2, w3, a1, a2, a5, e4, e11, n_add, c1, c2, c3, c4, c5, c6, c7, c8, c9, c10, e1, e2, e3, p_li, c11, p_ii, b, b2])

theorem cdr_loop {x rw cs w S P L : Nat} {h : MH} {Q : MR → MH → Prop} (x1 : g_c h x = 7) (x2 : g_r h x 1 = some rw) (x6 : g_r h x 5 = some w) (r1 : g_c h rw = 3) (r2 : g_r h rw 0 = some cs) (r3 : g_c h cs = 102) (r4 : g_n h cs = 36) (r5 : g_z h ≤ cs) (w1 : g_c h w = 4) (w2 : g_z h ≤ w) (w3 : g_r h w 0 = some rw) (a1 : g_i h w 1 = 1) (a2 : g_i h w 2 = 10) (a5 : g_i h w 5 = Int32.ofNat L) (hS : S < 6) (hP : P + 4 ≤ L) (hL : L ≤ 10) : ∀ d j : Nat, j + d = 4 → (Ok 84 32 [.ref x, .int (Int32.ofNat S), .int (oL h cs (11 + 4 * S) (1 + P) j), .int (Int32.ofNat j)] [] (p_i (cpL h cs (11 + 4 * S) (1 + P) j) w 4 (Int32.ofNat (P + j))) 0 0 Q ↔ Ok 84 32 [.ref x, .int (Int32.ofNat S), .int (oL h cs (11 + 4 * S) (1 + P) 4), .int (Int32.ofNat 4)] [] (p_i (cpL h cs (11 + 4 * S) (1 + P) 4) w 4 (Int32.ofNat (P + 4))) 0 0 Q)
  | 0, j, hd => by
    have : j = 4 := by omega
    subst this
    exact Iff.rfl
  | d + 1, j, hd => (cdr_step (j := j) x1 x2 x6 r1 r2 r3 r4 r5 w1 w2 w3 a1 a2 a5 hS hP hL (by omega)).trans (cdr_loop x1 x2 x6 r1 r2 r3 r4 r5 w1 w2 w3 a1 a2 a5 hS hP hL d (j + 1) (by omega))

theorem cdr_all {x rw cs w S P L : Nat} {h : MH} {Q : MR → MH → Prop} (x1 : g_c h x = 7) (x2 : g_r h x 1 = some rw) (x6 : g_r h x 5 = some w) (r1 : g_c h rw = 3) (r2 : g_r h rw 0 = some cs) (r3 : g_c h cs = 102) (r4 : g_n h cs = 36) (r5 : g_z h ≤ cs) (w1 : g_c h w = 4) (w2 : g_z h ≤ w) (w3 : g_r h w 0 = some rw) (a1 : g_i h w 1 = 1) (a2 : g_i h w 2 = 10) (a5 : g_i h w 5 = Int32.ofNat L) (hS : S < 6) (hP : P + 4 ≤ L) (hL : L ≤ 10) (a4 : g_i h w 4 = Int32.ofNat P) : Ok 84 32 [.ref x, .int (Int32.ofNat S), .int 0, .int 0] [] h 0 0 Q ↔ Ok 84 67 [.ref x, .int (Int32.ofNat S), .int (oL h cs (11 + 4 * S) (1 + P) 4), .int (Int32.ofNat 4)] [] (p_i (cpL h cs (11 + 4 * S) (1 + P) 4) w 4 (Int32.ofNat (P + 4))) 0 0 Q := by
  have lp := cdr_loop (Q := Q) x1 x2 x6 r1 r2 r3 r4 r5 w1 w2 w3 a1 a2 a5 hS hP hL 4 0 (by omega)
  rw [cpL_0, Nat.add_zero, ← a4, p_i_self] at lp
  have c1 : (Int32.ofNat 4 < 4) = False := by decide
  refine Iff.trans (show _ ↔ _ from lp) ?_
  rw [o84_32]
  simp only [o84_33, o84_34, and_true, not_true_eq_false, not_false_eq_true, false_implies, forall_const, lt_le, c1]
  all_goals (try exact Iff.rfl)

theorem mdr_step {m sr w S P L : Nat} {j : Nat} {h : MH} {Q : MR → MH → Prop} (m1 : g_c h m = 9) (g1 : g_r h m 1 = some sr) (g2 : g_c h sr = 101) (g3 : g_n h sr = 36) (g4 : g_z h ≤ sr) (m5 : g_r h m 5 = some w) (w1 : g_c h w = 8) (w2 : g_z h ≤ w) (nw : ¬ w = sr) (nw2 : ¬ sr = w) (hS : S < 6) (hP : P + 4 ≤ L) (hL : L ≤ 10) (hj : j < 4) : Ok 211 54 [.ref m, .int (Int32.ofNat S), .int (oI h sr (11 + 4 * S) (1 + P) j), .int (Int32.ofNat j)] [] (p_i (cpI h sr (11 + 4 * S) (1 + P) j) w 3 (Int32.ofNat (P + j))) 0 0 Q ↔ Ok 211 54 [.ref m, .int (Int32.ofNat S), .int (oI h sr (11 + 4 * S) (1 + P) (j + 1)), .int (Int32.ofNat (j + 1))] [] (p_i (cpI h sr (11 + 4 * S) (1 + P) (j + 1)) w 3 (Int32.ofNat (P + (j + 1)))) 0 0 Q := by
  have c1 : (Int32.ofNat j < 4) = True := by rw [show (4 : Int32) = Int32.ofNat 4 from rfl, n_lt (by omega) (by omega)]; exact eq_true hj
  have e1 : 1 + Int32.ofNat (P + j) = Int32.ofNat (1 + (P + j)) := n_add 1 (P + j)
  have e2 : Int32.ofNat (P + j) + 1 = Int32.ofNat (P + (j + 1)) := n_add (P + j) 1
  have e3 : Int32.ofNat j + 1 = Int32.ofNat (j + 1) := n_add j 1
  have e4 : 4 * Int32.ofNat S = Int32.ofNat (4 * S) := n_mul 4 S
  have e11 : 11 + Int32.ofNat (4 * S) = Int32.ofNat (11 + 4 * S) := n_add 11 (4 * S)
  have c5 : vp_in (Int32.ofNat (11 + 4 * S + j)) 36 := (n_rdy (n := 36) (by omega) (by omega)).2.2
  have c6 : vp_in (Int32.ofNat (P + (j + 1))) 36 := (n_rdy (n := 36) (by omega) (by omega)).2.2
  have c7 : (Int32.ofNat (11 + 4 * S + j)).toNatClampNeg = 11 + 4 * S + j := n_cl (by omega)
  have c8 : (Int32.ofNat (P + (j + 1))).toNatClampNeg = 1 + P + j := by rw [n_cl (by omega)]; omega
  have c9 := cpI_o (h := h) (cs := sr) (d := 11 + 4 * S) (s := 1 + P) (n := j) (i := 11 + 4 * S + j) (by omega)
  have c10 := cpI_o (h := h) (cs := sr) (d := 11 + 4 * S) (s := 1 + P) (n := j) (i := 1 + P + j) (by omega)
  have c11 := cpI_s (h := h) (cs := sr) (d := 11 + 4 * S) (s := 1 + P) (n := j) (i := 11 + 4 * S + j) (v := g_i h sr (1 + P + j)) (by omega) rfl
  rw [o211_54]
  by_cases b : g_i h sr (11 + 4 * S + j) = g_i h sr (1 + P + j) <;> (
    have b2 := oI_s (h := h) (cs := sr) (d := 11 + 4 * S) (s := 1 + P) (j := j)
    simp only [b, if_true, if_false] at b2
    simp only [o211_55, o211_56, o211_59, o211_60, o211_61, o211_63, o211_64, o211_65, o211_66, o211_67, o211_68, o211_69, o211_70, o211_73, o211_76, o211_77, o211_78, o211_81, c_X8_writeShort (sr := sr), o207_0, o207_1, o207_4, o207_5, o207_8, o207_9, o207_10, o207_13, o207_14, o207_17, o207_18, o207_21, o207_24, o207_25, mc_pi, mn_pi, mi_pi, mr_pi, mz_pi, mcs_0, mcs_i, mcs_r, Kn_v, mrf_some, kok_0, true_and, false_and, not_true_eq_false, not_false_eq_true, false_implies, forall_const, if_true, if_false, and_self, Nat.reduceLeDiff, Nat.reduceAdd, lt_le, cpI_c, cpI_n, cpI_r, cpI_z, m1, g1, g2, g3, g4, m5, w1, w2, nw2, cpI_w nw, e4, e11, n_add, c1, c5, c6, c7, c8, c9, c10, e2, e3, p_i_c nw, c11, p_ii, false_and, b, b2])

theorem mdr_loop {m sr w S P L : Nat} {h : MH} {Q : MR → MH → Prop} (m1 : g_c h m = 9) (g1 : g_r h m 1 = some sr) (g2 : g_c h sr = 101) (g3 : g_n h sr = 36) (g4 : g_z h ≤ sr) (m5 : g_r h m 5 = some w) (w1 : g_c h w = 8) (w2 : g_z h ≤ w) (nw : ¬ w = sr) (nw2 : ¬ sr = w) (hS : S < 6) (hP : P + 4 ≤ L) (hL : L ≤ 10) : ∀ d j : Nat, j + d = 4 → (Ok 211 54 [.ref m, .int (Int32.ofNat S), .int (oI h sr (11 + 4 * S) (1 + P) j), .int (Int32.ofNat j)] [] (p_i (cpI h sr (11 + 4 * S) (1 + P) j) w 3 (Int32.ofNat (P + j))) 0 0 Q ↔ Ok 211 54 [.ref m, .int (Int32.ofNat S), .int (oI h sr (11 + 4 * S) (1 + P) 4), .int (Int32.ofNat 4)] [] (p_i (cpI h sr (11 + 4 * S) (1 + P) 4) w 3 (Int32.ofNat (P + 4))) 0 0 Q)
  | 0, j, hd => by
    have : j = 4 := by omega
    subst this
    exact Iff.rfl
  | d + 1, j, hd => (mdr_step (j := j) m1 g1 g2 g3 g4 m5 w1 w2 nw nw2 hS hP hL (by omega)).trans (mdr_loop m1 g1 g2 g3 g4 m5 w1 w2 nw nw2 hS hP hL d (j + 1) (by omega))

theorem mdr_all {m sr w S P L : Nat} {h : MH} {Q : MR → MH → Prop} (m1 : g_c h m = 9) (g1 : g_r h m 1 = some sr) (g2 : g_c h sr = 101) (g3 : g_n h sr = 36) (g4 : g_z h ≤ sr) (m5 : g_r h m 5 = some w) (w1 : g_c h w = 8) (w2 : g_z h ≤ w) (nw : ¬ w = sr) (nw2 : ¬ sr = w) (hS : S < 6) (hP : P + 4 ≤ L) (hL : L ≤ 10) (a4 : g_i h w 3 = Int32.ofNat P) : Ok 211 54 [.ref m, .int (Int32.ofNat S), .int 0, .int 0] [] h 0 0 Q ↔ Ok 211 84 [.ref m, .int (Int32.ofNat S), .int (oI h sr (11 + 4 * S) (1 + P) 4), .int (Int32.ofNat 4)] [] (p_i (cpI h sr (11 + 4 * S) (1 + P) 4) w 3 (Int32.ofNat (P + 4))) 0 0 Q := by
  have lp := mdr_loop (Q := Q) m1 g1 g2 g3 g4 m5 w1 w2 nw nw2 hS hP hL 4 0 (by omega)
  rw [cpI_0, Nat.add_zero, ← a4, p_i_self] at lp
  have c1 : (Int32.ofNat 4 < 4) = False := by decide
  refine Iff.trans (show _ ↔ _ from lp) ?_
  rw [o211_54]
  simp only [o211_55, o211_56, and_true, not_true_eq_false, not_false_eq_true, false_implies, forall_const, lt_le, c1]
  all_goals (try exact Iff.rfl)
end

section
theorem hx_314_1 {l rest : List Value} {bc bs : Nat} {Q : MR → MH → Prop} {h : MH} : Kc Ok 314 3 6 l rest bc bs Q (.inr 1) h ↔ ∀ q : Nat, Ok 314 13 l [.ref q] h bc bs Q := Kc_x (by decide +kernel) (by decide +kernel)
theorem hx_314_3 {l rest : List Value} {bc bs : Nat} {Q : MR → MH → Prop} {h : MH} : Kc Ok 314 3 6 l rest bc bs Q (.inr 3) h ↔ ∀ q : Nat, Ok 314 16 l [.ref q] h bc bs Q := Kc_x (by decide +kernel) (by decide +kernel)
theorem op_drawAll {A : Nat → Nat} {h : MH} (R : Rl A h) {s : Int32} : Ok 314 0 [.ref (A 0), .int s, .ref (A 39), mk0] [] h 2 12 (fun r h1 => ∃ k : Int32, r = .inl (some (.int k)) ∧ g_c h1 (A 22) = 9 ∧ Ok 211 0 [.ref (A 22), .int s, mk0, mk0] [] h1 0 0 (fun r2 h2 => ∃ b : Int32, r2 = .inl (some (.int b)) ∧ Rl A h2 ∧ g_i h2 (A 22) 9 = k ∧ (k = 0 → g_l h2 (A 39) 0 = b.toInt64))) := by
  obtain ⟨vk, vcn, v0, v1, v2, vp, vl0, vl1, vlr, vsr, vc, tx⟩ := R
  have vk0 := vk
  have vcn0 := vcn
  (refine K_el vk0 ?_; intros hA kc0 kc1 kc2 kc3 kc4 kc5 kc6 kc7 kc8 kc9 kc10 kc11 kc12 kc13 kc14 kc15 kc16 kc17 kc18 kc19 kc20 kc21 kc22 kc23 kc24 kc25 kc26 kc27 kc28 kc29 kc30 kc31 kc32 kc33 kc34 kc35 kc36 kc37 kc38 kc39 kz kt kn3 kn4 kn18 kn21 kn23 kn24 kn25 kn26 kn27 kn29 kn30 kr0_0 kr0_1 kr0_2 kr0_3 kr0_4 kr0_5 kr0_7 kr0_8 kr0_9 kr0_10 kr1_0 kr2_0 kr5_0 kr5_1 kr6_0 kr6_1 kr7_0 kr7_1 kr8_0 kr9_0 kr10_0 kr11_0 kr12_0 kr13_0 kr14_0 kr15_0 kr16_0 kr17_0 kr19_0 kr19_1 kr22_0 kr22_1 kr22_2 kr22_3 kr22_4 kr22_5 kr22_7 kr22_8 kr25_0 kr25_1 kr25_2 kr26_0 kr26_1 kr26_2 kr29_0 kr29_1)
  (refine Cn_el vcn0 ?_; intros ki5_2 ki6_2 ki7_2 ki8_1 ki8_2 ki8_3 ki9_1 ki9_2 ki9_3 ki10_1 ki10_2 ki10_3 ki11_1 ki11_2 ki11_3 ki12_1 ki12_2 ki12_3 ki13_1 ki13_2 ki13_3 ki14_1 ki14_2 ki14_3 ki28_0 ki28_1 ki31_0 ki31_1 ki32_0 ki32_1 ki33_0 ki33_1 ki34_0 ki34_1 ki35_0 ki35_1 ki36_0 ki36_1)
  have hAe : ∀ i j, i < 40 → j < 40 → (A i = A j ↔ i = j) := hA
  have hp2 := vp
  obtain ⟨⟨p1, p2, p3, p4⟩, hpm⟩ := hp2
  replace p1 := p1.symm
  replace p2 := p2.symm
  replace p3 := p3.symm
  replace p4 := p4.symm
  rw [p1, p2, p3, p4] at hpm
  obtain ⟨pm, pd⟩ := pA _ hpm
  simp only at pm pd
  by_cases bs : s < 0 ∨ ¬ s < 6
  · have bs2 : (¬ s < 0 ∧ s < 6) = False := nrng bs
    rcases pd with pd | pd
    all_goals
      simp only [o314_0, o314_1, o314_2, o314_3, o314_13, o314_14, o314_15, o314_16, o314_17, o314_18, o84_0, o84_1, o84_4, o84_5, o84_8, o84_9, o84_12, o211_0, o211_1, o211_2, o211_5, o211_8, o211_9, o211_12, o211_13, o211_14, o211_17, o211_20, o211_21, o211_24, o211_25, o211_28, o211_31, o211_32, o211_33, o211_34, o211_37, hx_314_1, hx_314_3, c_X5_checkSlot, c_X8_isSlot, c_X8_isThrown_, c_X5_checkDraining, mc_pi, mc_pT, mi_pi, mi_pT, ml_pi, ml_pT, mr_pi, mr_pT, mz_pT, mcs_0, mcs_r, Kn_v, Kn_0, Kn_x, mrf_some, true_and, and_true, not_true_eq_false, not_false_eq_true, false_implies, forall_const, if_true, if_false, and_self, Nat.reduceLeDiff, Nat.reduceSub, Nat.reduceAdd, Nat.zero_le, Nat.le_refl, i10, Sum.inl.injEq, Option.some.injEq, Value.int.injEq, exists_eq_left', Nat.reduceLT, i20, kc0, kc14, kc22, kc28, kr0_5, kr22_5, kz, bs, bs2, pd, p4]
      intro t ht
      first | refine ⟨⟨?_, ?_, ?_, ?_, ?_, ?_, ?_, ?_, ?_, ?_, ?_, ?_⟩, rfl⟩ | refine ⟨?_, ?_, ?_, ?_, ?_, ?_, ?_, ?_, ?_, ?_, ?_, ?_⟩
      · (try simp only [K_pi])
        exact K_pT ht vk
      · (try simp only [Cn_pi_j22 hA, Cn_pT])
        exact vcn
      · (try simp only [Vq0_pi_j22 hA, Vq0_pT])
        exact v0
      · (try simp only [Vq1_pi_j22 hA, Vq1_pT])
        exact v1
      · (try simp only [Vq2_pi_j22 hA, Vq2_pT])
        exact v2
      · (try simp only [Vp_thr hA, Vp_pT])
        exact vp
      · (try simp only [Vl0_pi_j22 hA, Vl0_pT])
        exact vl0
      · (try simp only [Vl1_pi_j22 hA, Vl1_pT])
        exact vl1
      · (try simp only [Vlr_pi_j22 hA, Vlr_pT])
        exact vlr
      · (try simp only [Vsr_pi_j22 hA, Vsr_pT])
        exact vsr
      · (try simp only [Vc_pi_j22 hA, Vc_pT])
        exact vc
      · (try simp only [Tx_pi_j22 hA])
        exact Tx_pT ht tx
  · have s1 : ¬ s < 0 := fun z => bs (Or.inl z)
    have s2 : s < 6 := Classical.byContradiction fun z => bs (Or.inr z)
    have hs := ix_ok s1 s2
    have hs2 := hs
    obtain ⟨⟨j0, j1, j2, j3⟩, d01, d02, d03, d10, d12, d13, d20, d21, d23, d30, d31, d32⟩ := hs2
    obtain ⟨l0, l1, l2, l3⟩ := ix_lt hs
    have vs0 := (vsr _ l0).1
    have vs1 := (vsr _ l1).1
    have vs2 := (vsr _ l2).1
    have vs3 := (vsr _ l3).1
    have bs2 : (¬ s < 0 ∧ s < 6) = True := eq_true ⟨s1, s2⟩
    rcases pd with pd | pd
    · skip
      simp only [o314_0, o314_1, o314_2, o314_3, o314_13, o314_14, o314_15, o314_16, o314_17, o314_18, o84_0, o84_1, o84_4, o84_5, o84_8, o84_9, o84_12, o211_0, o211_1, o211_2, o211_5, o211_8, o211_9, o211_12, o211_13, o211_14, o211_17, o211_20, o211_21, o211_24, o211_25, o211_28, o211_31, o211_32, o211_33, o211_34, o211_37, hx_314_1, hx_314_3, c_X5_checkSlot, c_X8_isSlot, c_X8_isThrown_, c_X5_checkDraining, mc_pi, mc_pT, mi_pi, mi_pT, ml_pi, ml_pT, mr_pi, mr_pT, mz_pT, mcs_0, mcs_r, Kn_v, Kn_0, Kn_x, mrf_some, true_and, and_true, and_false, or_false, not_true_eq_false, not_false_eq_true, false_implies, forall_const, if_true, if_false, and_self, Nat.reduceLeDiff, Nat.reduceSub, Nat.reduceAdd, Nat.zero_le, Nat.le_refl, i10, Sum.inl.injEq, Option.some.injEq, Value.int.injEq, exists_eq_left', Nat.reduceLT, i20, kc0, kc14, kc22, kc28, kr0_5, kr22_5, kz, p4, pd, s1, s2]
      intro t ht
      first | refine ⟨⟨?_, ?_, ?_, ?_, ?_, ?_, ?_, ?_, ?_, ?_, ?_, ?_⟩, rfl⟩ | refine ⟨?_, ?_, ?_, ?_, ?_, ?_, ?_, ?_, ?_, ?_, ?_, ?_⟩
      · (try simp only [K_pi])
        exact K_pT ht vk
      · (try simp only [Cn_pi_j22 hA, Cn_pT])
        exact vcn
      · (try simp only [Vq0_pi_j22 hA, Vq0_pT])
        exact v0
      · (try simp only [Vq1_pi_j22 hA, Vq1_pT])
        exact v1
      · (try simp only [Vq2_pi_j22 hA, Vq2_pT])
        exact v2
      · (try simp only [Vp_thr hA, Vp_pT])
        exact vp
      · (try simp only [Vl0_pi_j22 hA, Vl0_pT])
        exact vl0
      · (try simp only [Vl1_pi_j22 hA, Vl1_pT])
        exact vl1
      · (try simp only [Vlr_pi_j22 hA, Vlr_pT])
        exact vlr
      · (try simp only [Vsr_pi_j22 hA, Vsr_pT])
        exact vsr
      · (try simp only [Vc_pi_j22 hA, Vc_pT])
        exact vc
      · (try simp only [Tx_pi_j22 hA])
        exact Tx_pT ht tx
    · obtain ⟨e4, e5, hPL, hL10, hq8⟩ := pE _ hpm pd
      simp only at e4 e5 hPL hL10 hq8
      generalize hP : (g_i h (A 14) 4).toNatClampNeg = P at *
      generalize hL : (g_i h (A 14) 5).toNatClampNeg = L at *
      obtain ⟨S, rfl, hS⟩ := s_nat s1 s2
      have wr : Int32.ofNat L - Int32.ofNat P = Int32.ofNat (L - P) := n_sub hPL (by omega)
      have hvk : oL h (A 4) (11 + 4 * S) (1 + P) 4 = oI h (A 24) (11 + 4 * S) (1 + P) 4 ∨ ¬ P + 4 ≤ L := by
        by_cases z : P + 4 ≤ L
        · exact Or.inl (oLI vsr (fun _ => rfl) 4 (by omega) (by omega))
        · exact Or.inr z
      by_cases hc : L - P < 4
      · have wc : (Int32.ofNat (L - P) < 4) = True := by rw [show (4 : Int32) = Int32.ofNat 4 from rfl, n_lt (by omega) (by omega)]; exact eq_true hc
        simp only [o314_0, o314_1, o314_2, o314_3, o314_6, o314_7, o314_10, o314_13, o314_14, o314_15, o314_16, o314_17, o314_18, o314_19, o314_20, o84_0, o84_1, o84_4, o84_5, o84_8, o84_9, o84_12, o84_15, o84_16, o84_19, o84_20, o84_23, o84_24, o84_27, o84_28, o84_29, o84_30, o84_31, o84_32, o84_33, o84_34, o84_37, o84_38, o84_39, o84_40, o84_41, o84_42, o84_45, o84_67, o84_68, o84_71, o84_72, o211_0, o211_1, o211_2, o211_5, o211_8, o211_9, o211_12, o211_13, o211_14, o211_17, o211_20, o211_21, o211_24, o211_25, o211_28, o211_31, o211_32, o211_33, o211_34, o211_37, o211_40, o211_41, o211_44, o211_45, o211_46, o211_49, o211_50, o211_51, o211_52, o211_53, o211_54, o211_55, o211_56, o211_59, o211_60, o211_61, o211_63, o211_64, o211_65, o211_66, o211_67, o211_68, o211_69, o211_70, o211_84, o211_85, o211_86, hx_314_1, hx_314_3, c_X5_checkSlot, c_X8_isSlot, c_X8_isThrown_, c_X5_checkDraining, c_X3_rests, c_X7_rests, c_ref_2 (cs := A 18), c_X8_no (cs := A 30), mc_pi, mc_pl, mc_pT, mn_pi, mn_pl, mn_pT, mi_pi, mi_pl, mi_pT, ml_pi, ml_pl, ml_pT, mr_pi, mr_pl, mr_pT, mz_pi, mz_pl, mz_pT, mcs_0, mcs_i, mcs_r, Kn_v, Kn_0, Kn_x, mrf_some, true_and, and_true, and_false, or_false, not_true_eq_false, not_false_eq_true, false_implies, implies_true, forall_const, if_true, if_false, and_self, Nat.reduceEqDiff, Nat.reduceLeDiff, Nat.reduceSub, Nat.reduceAdd, Nat.zero_le, Nat.le_refl, i10, i01, lt_le, Int32.reduceLT, Int32.reduceSub, cl2, Kc_v, Sum.inl.injEq, Option.some.injEq, Value.int.injEq, exists_eq_left', Nat.reduceLT, hAe, i20, kc0, kc14, kc17, kc18, kc22, kc28, kc30, kc39, kn18, kn30, kr0_5, kr0_9, kr17_0, kr22_5, kr22_8, kz, p1, p2, p4, e4, e5, pd, s1, s2, wr, wc, v18, cl2]
        first | refine ⟨⟨?_, ?_, ?_, ?_, ?_, ?_, ?_, ?_, ?_, ?_, ?_, ?_⟩, rfl⟩ | refine ⟨?_, ?_, ?_, ?_, ?_, ?_, ?_, ?_, ?_, ?_, ?_, ?_⟩
        · (try simp only [K_pi, K_pl])
          exact vk
        · (try simp only [Cn_pi_j18 hA, Cn_pi_j22 hA, Cn_pi_j30 hA, Cn_pl])
          exact vcn
        · (try simp only [Vq0_pi_j18 hA, Vq0_pi_j22 hA, Vq0_pi_j30 hA, Vq0_pl])
          exact v0
        · (try simp only [Vq1_pi_j18 hA, Vq1_pi_j22 hA, Vq1_pi_j30 hA, Vq1_pl])
          exact v1
        · (try simp only [Vq2_pi_j18 hA, Vq2_pi_j22 hA, Vq2_pi_j30 hA, Vq2_pl])
          exact v2
        · (try simp only [Vp_pi_j18 hA, Vp_pi_j30 hA, Vp_thr hA, Vp_pl])
          exact vp
        · (try simp only [Vl0_pi_j18 hA, Vl0_pi_j22 hA, Vl0_pi_j30 hA, Vl0_pl])
          exact vl0
        · (try simp only [Vl1_pi_j18 hA, Vl1_pi_j22 hA, Vl1_pi_j30 hA, Vl1_pl])
          exact vl1
        · (try simp only [Vlr_pi_j18 hA, Vlr_pi_j22 hA, Vlr_pi_j30 hA, Vlr_pl_j39 hA])
          exact vlr
        · (try simp only [Vsr_pi_j18 hA, Vsr_pi_j22 hA, Vsr_pi_j30 hA, Vsr_pl_j39 hA])
          exact vsr
        · refine Vc_of (c := 2) vc (by decide) (fun k => ?_) (fun k => ?_) <;> simp only [mi_pi, mi_pl, hAe, Nat.reduceLT, Nat.reduceEqDiff, false_and, true_and, if_false, pco]
        · (try simp only [Tx_pi_j18 hA, Tx_pi_j22 hA, Tx_pi_j30 hA, Tx_pl])
          exact tx
      · have wc : (Int32.ofNat (L - P) < 4) = False := by rw [show (4 : Int32) = Int32.ofNat 4 from rfl, n_lt (by omega) (by omega)]; exact eq_false hc
        have hPn : P + 4 ≤ L := by omega
        have hv2 := hvk.resolve_right (fun z => z hPn)
        have hq9 := hq8 4 (by decide) hPn
        rw [← pd, e5] at hq9
        simp only [o314_0, o314_1, o314_2, o314_3, o314_6, o314_7, o314_10, o314_13, o314_14, o314_15, o314_16, o314_17, o314_18, o314_19, o314_20, o84_0, o84_1, o84_4, o84_5, o84_8, o84_9, o84_12, o84_15, o84_16, o84_19, o84_20, o84_23, o84_24, o84_28, o84_29, o84_30, o84_31, o84_67, o84_68, o84_71, o84_72, o84_75, o211_0, o211_1, o211_2, o211_5, o211_8, o211_9, o211_12, o211_13, o211_14, o211_17, o211_20, o211_21, o211_24, o211_25, o211_28, o211_31, o211_32, o211_33, o211_34, o211_37, o211_40, o211_41, o211_44, o211_45, o211_46, o211_50, o211_51, o211_52, o211_53, o211_84, o211_85, o211_86, o211_89, hx_314_1, hx_314_3, c_X5_checkSlot, c_X8_isSlot, c_X8_isThrown_, c_X5_checkDraining, c_X3_rests, c_X7_rests, cdr_all (rw := A 2) (cs := A 4) (w := A 14) (P := P) (L := L), mdr_all (sr := A 24) (w := A 28) (P := P) (L := L), c_X0_done (cs := A 18), c_X8_done (cs := A 30), mc_pi, mc_pl, mc_pT, mn_pi, mn_pl, mn_pT, mi_pi, mi_pl, mi_pT, ml_pi, ml_pl, ml_pT, mr_pi, mr_pl, mr_pT, mz_pi, mz_pl, mz_pT, mcs_0, mcs_r, Kn_v, Kn_0, Kn_x, mrf_some, true_and, and_true, and_false, or_false, not_true_eq_false, not_false_eq_true, false_implies, implies_true, forall_const, if_true, if_false, and_self, Nat.reduceEqDiff, Nat.reduceLeDiff, Nat.reduceSub, Nat.reduceAdd, Nat.zero_le, Nat.le_refl, i10, i01, lt_le, Kc_v, Sum.inl.injEq, Option.some.injEq, Value.int.injEq, exists_eq_left', Nat.reduceLT, hAe, i20, kc0, kc2, kc4, kc14, kc17, kc18, kc22, kc24, kc28, kc30, kc39, kn4, kn18, kn24, kn30, kr0_1, kr0_5, kr0_9, kr2_0, kr14_0, kr17_0, kr22_1, kr22_5, kr22_8, kz, ki14_1, ki14_2, p1, p2, p4, e4, e5, pd, s1, s2, hS, hPn, hL10, wr, wc, hv2, cpL_c, cpL_n, cpL_r, cpL_i, cpL_z, cpI_c, cpI_n, cpI_r, cpI_l, cpI_z, cpL_i, cpI_w, cpI_l, oI_pi, oI_pl, oI_cp]
        first | refine ⟨⟨?_, ?_, ?_, ?_, ?_, ?_, ?_, ?_, ?_, ?_, ?_, ?_⟩, rfl⟩ | refine ⟨?_, ?_, ?_, ?_, ?_, ?_, ?_, ?_, ?_, ?_, ?_, ?_⟩
        · (try simp only [K_pi, K_pl, K_cpI, K_cpL])
          exact vk
        · (try simp only [Cn_pi_j18 hA, Cn_pi_j22 hA, Cn_pi_j30 hA, Cn_14_4 hA, Cn_28_3 hA, Cn_pl, Cn_cpI24 hA, Cn_cpL4 hA])
          exact vcn
        · (try simp only [Vq0_pi_j18 hA, Vq0_pi_j22 hA, Vq0_pi_j30 hA, Vq0_pi_j14 hA, Vq0_pi_j28 hA, Vq0_pl, Vq0_cpI24 hA, Vq0_cpL4 hA])
          exact v0
        · (try simp only [Vq1_pi_j18 hA, Vq1_pi_j22 hA, Vq1_pi_j30 hA, Vq1_pi_j14 hA, Vq1_pi_j28 hA, Vq1_pl, Vq1_cpI24 hA, Vq1_cpL4 hA])
          exact v1
        · (try simp only [Vq2_pi_j18 hA, Vq2_pi_j22 hA, Vq2_pi_j30 hA, Vq2_pi_j14 hA, Vq2_pi_j28 hA, Vq2_pl, Vq2_cpI24 hA, Vq2_cpL4 hA])
          exact v2
        · simp only [Vp, mi_pi, mi_pl, hAe, Nat.reduceLT, Nat.reduceEqDiff, false_and, and_false, true_and, and_true, if_false, if_true, cpL_i, cpI_i, cpL_i, p1, p2, p3, p4, pco, true_and, and_self, e5]
          first | exact hq9 | exact ⟨⟨rfl, rfl, rfl, rfl⟩, hq9⟩ | (refine ⟨⟨?_, ?_, ?_, ?_⟩, hq9⟩ <;> first | rfl | trivial)
        · (try simp only [Vl0_pi_j18 hA, Vl0_pi_j22 hA, Vl0_pi_j30 hA, Vl0_pi_j14 hA, Vl0_pi_j28 hA, Vl0_pl, Vl0_cpI24 hA, Vl0_cpL4 hA])
          exact vl0
        · (try simp only [Vl1_pi_j18 hA, Vl1_pi_j22 hA, Vl1_pi_j30 hA, Vl1_pi_j14 hA, Vl1_pi_j28 hA, Vl1_pl, Vl1_cpI24 hA, Vl1_cpL4 hA])
          exact vl1
        · (try simp only [Vlr_pi_j18 hA, Vlr_pi_j22 hA, Vlr_pi_j30 hA, Vlr_pi_j14 hA, Vlr_pi_j28 hA, Vlr_pl_j39 hA, Vlr_cpI24 hA, Vlr_cpL4 hA])
          exact vlr
        · refine Vsr_cp (d := 11 + 4 * S) (s := 1 + P) (n := 4) vsr (by omega) (fun k => ?_) (fun k => ?_) <;> simp only [mi_pi, mi_pl, ml_pi, ml_pl, hAe, Nat.reduceLT, Nat.reduceEqDiff, false_and, true_and, if_false, cpL_l, cpI_i, cpL_i, cpI_l]
        · refine Vc_of (c := 0) vc (by decide) (fun k => ?_) (fun k => ?_) <;> simp only [mi_pi, mi_pl, hAe, Nat.reduceLT, Nat.reduceEqDiff, false_and, true_and, if_false, cpL_i, cpI_i, cpL_i]
        · (try simp only [Tx_pi_j18 hA, Tx_pi_j22 hA, Tx_pi_j30 hA, Tx_pi_j14 hA, Tx_pi_j28 hA, Tx_pl, Tx_cpI24 hA, Tx_cpL4 hA])
          exact tx
end

section
/-! new cells -/
def RlX (A : Nat → Nat) (h : MH) : Prop := ∃ B : Nat → Nat, B 0 = A 0 ∧ B 22 = A 22 ∧ B 39 = A 39 ∧ Rl B h
theorem RlX_of {A : Nat → Nat} {h : MH} (R : Rl A h) : RlX A h := ⟨A, rfl, rfl, rfl, R⟩
theorem Kz1_up {A : Nat → Nat} {J a : Nat} {h m : MH} (k : Kz1 A h) (hz : g_z m = g_z h) (ht : g_t h ≤ g_t m) (h1 : g_z h ≤ a) (h2 : a < g_t m) : Kz1 (up A J a) m := by
  refine ⟨fun i hi => ?_, fun i hi => ?_⟩ <;> unfold up
  · by_cases c : i = J
    · rw [if_pos c, hz]; exact h1
    · rw [if_neg c, hz]; exact k.1 i hi
  · by_cases c : i = J
    · rw [if_pos c]; exact h2
    · rw [if_neg c]; exact Nat.lt_of_lt_of_le (k.2 i hi) ht
theorem Tx_up15 {A : Nat → Nat} {m : MH} {a : Nat} : Tx (up A 15 a) m = Tx A m := id rfl
theorem Tx_up16 {A : Nat → Nat} {m : MH} {a : Nat} : Tx (up A 16 a) m = Tx A m := id rfl
theorem Tx_up31 {A : Nat → Nat} {m : MH} {a : Nat} : Tx (up A 31 a) m = Tx A m := id rfl
theorem Tx_up32 {A : Nat → Nat} {m : MH} {a : Nat} : Tx (up A 32 a) m = Tx A m := id rfl
theorem Tx_up33 {A : Nat → Nat} {m : MH} {a : Nat} : Tx (up A 33 a) m = Tx A m := id rfl
theorem Tx_up34 {A : Nat → Nat} {m : MH} {a : Nat} : Tx (up A 34 a) m = Tx A m := id rfl
theorem Tx_up35 {A : Nat → Nat} {m : MH} {a : Nat} : Tx (up A 35 a) m = Tx A m := id rfl
theorem Tx_up36 {A : Nat → Nat} {m : MH} {a : Nat} : Tx (up A 36 a) m = Tx A m := id rfl
theorem Tx_up37 {A : Nat → Nat} {m : MH} {a : Nat} : Tx (up A 37 a) m = Tx A m := id rfl
theorem Tx_up38 {A : Nat → Nat} {m : MH} {a : Nat} : Tx (up A 38 a) m = Tx A m := id rfl
theorem Vq0_27_1 {A : Nat → Nat} {m : MH} {v : Int32} (hA : inj40 A) : Vq0 A (p_i m (A 27) 1 v) = Vq0 A m := by
  simp only [Vq0, cT, mT, mi_pi, Nat.reduceEqDiff, and_false, if_false, (hA_5_27 hA), (hA_8_27 hA), (hA_9_27 hA), (hA_31_27 hA), (hA_34_27 hA)]
theorem Vq0_27_2 {A : Nat → Nat} {m : MH} {v : Int32} (hA : inj40 A) : Vq0 A (p_i m (A 27) 2 v) = Vq0 A m := by
  simp only [Vq0, cT, mT, mi_pi, Nat.reduceEqDiff, and_false, if_false, (hA_5_27 hA), (hA_8_27 hA), (hA_9_27 hA), (hA_31_27 hA), (hA_34_27 hA)]
theorem Vq1_27_0 {A : Nat → Nat} {m : MH} {v : Int32} (hA : inj40 A) : Vq1 A (p_i m (A 27) 0 v) = Vq1 A m := by
  simp only [Vq1, cT, mT, mi_pi, Nat.reduceEqDiff, and_false, if_false, (hA_6_27 hA), (hA_10_27 hA), (hA_11_27 hA), (hA_32_27 hA), (hA_35_27 hA)]
theorem Vq1_27_2 {A : Nat → Nat} {m : MH} {v : Int32} (hA : inj40 A) : Vq1 A (p_i m (A 27) 2 v) = Vq1 A m := by
  simp only [Vq1, cT, mT, mi_pi, Nat.reduceEqDiff, and_false, if_false, (hA_6_27 hA), (hA_10_27 hA), (hA_11_27 hA), (hA_32_27 hA), (hA_35_27 hA)]
theorem Vq2_27_0 {A : Nat → Nat} {m : MH} {v : Int32} (hA : inj40 A) : Vq2 A (p_i m (A 27) 0 v) = Vq2 A m := by
  simp only [Vq2, cT, mT, mi_pi, Nat.reduceEqDiff, and_false, if_false, (hA_7_27 hA), (hA_12_27 hA), (hA_13_27 hA), (hA_33_27 hA), (hA_36_27 hA)]
theorem Vq2_27_1 {A : Nat → Nat} {m : MH} {v : Int32} (hA : inj40 A) : Vq2 A (p_i m (A 27) 1 v) = Vq2 A m := by
  simp only [Vq2, cT, mT, mi_pi, Nat.reduceEqDiff, and_false, if_false, (hA_7_27 hA), (hA_12_27 hA), (hA_13_27 hA), (hA_33_27 hA), (hA_36_27 hA)]
end

section
theorem hx_302_1 {l rest : List Value} {bc bs : Nat} {Q : MR → MH → Prop} {h : MH} : Kc Ok 302 3 6 l rest bc bs Q (.inr 1) h ↔ ∀ q : Nat, Ok 302 13 l [.ref q] h bc bs Q := Kc_x (by decide +kernel) (by decide +kernel)
theorem op_empty {A : Nat → Nat} {h : MH} (R : Rl A h) {q : Int32} : Ok 302 0 [.ref (A 0), .int q, .ref (A 39), mk0] [] h 1 6 (fun r h1 => ∃ k : Int32, r = .inl (some (.int k)) ∧ g_c h1 (A 22) = 9 ∧ Ok 195 0 [.ref (A 22), .int q, mk0] [] h1 2 12 (fun r2 h2 => ∃ b : Int32, r2 = .inl (some (.int b)) ∧ RlX A h2 ∧ g_i h2 (A 22) 9 = k ∧ (k = 0 → g_l h2 (A 39) 0 = b.toInt64))) := by
  obtain ⟨vk, vcn, v0, v1, v2, vp, vl0, vl1, vlr, vsr, vc, tx⟩ := R
  have vk0 := vk
  have vcn0 := vcn
  (refine K_el vk0 ?_; intros hA kc0 kc1 kc2 kc3 kc4 kc5 kc6 kc7 kc8 kc9 kc10 kc11 kc12 kc13 kc14 kc15 kc16 kc17 kc18 kc19 kc20 kc21 kc22 kc23 kc24 kc25 kc26 kc27 kc28 kc29 kc30 kc31 kc32 kc33 kc34 kc35 kc36 kc37 kc38 kc39 kz kt kn3 kn4 kn18 kn21 kn23 kn24 kn25 kn26 kn27 kn29 kn30 kr0_0 kr0_1 kr0_2 kr0_3 kr0_4 kr0_5 kr0_7 kr0_8 kr0_9 kr0_10 kr1_0 kr2_0 kr5_0 kr5_1 kr6_0 kr6_1 kr7_0 kr7_1 kr8_0 kr9_0 kr10_0 kr11_0 kr12_0 kr13_0 kr14_0 kr15_0 kr16_0 kr17_0 kr19_0 kr19_1 kr22_0 kr22_1 kr22_2 kr22_3 kr22_4 kr22_5 kr22_7 kr22_8 kr25_0 kr25_1 kr25_2 kr26_0 kr26_1 kr26_2 kr29_0 kr29_1)
  (refine Cn_el vcn0 ?_; intros ki5_2 ki6_2 ki7_2 ki8_1 ki8_2 ki8_3 ki9_1 ki9_2 ki9_3 ki10_1 ki10_2 ki10_3 ki11_1 ki11_2 ki11_3 ki12_1 ki12_2 ki12_3 ki13_1 ki13_2 ki13_3 ki14_1 ki14_2 ki14_3 ki28_0 ki28_1 ki31_0 ki31_1 ki32_0 ki32_1 ki33_0 ki33_1 ki34_0 ki34_1 ki35_0 ki35_1 ki36_0 ki36_1)
  have hAe : ∀ i j, i < 40 → j < 40 → (A i = A j ↔ i = j) := hA
  have hta : ∀ i, i < 40 → (A i = g_t h) = False := fun i hi => eq_false (fun z => by have := kt i hi; omega)
  have hta2 : ∀ i, i < 40 → (g_t h = A i) = False := fun i hi => eq_false (fun z => by have := kt i hi; omega)
  have htb : ∀ i, i < 40 → (A i = g_t h + 1) = False := fun i hi => eq_false (fun z => by have := kt i hi; omega)
  have htb2 : ∀ i, i < 40 → (g_t h + 1 = A i) = False := fun i hi => eq_false (fun z => by have := kt i hi; omega)
  have hzt : g_z h ≤ g_t h := Nat.le_trans (kz 0 (by decide)) (Nat.le_of_lt (kt 0 (by decide)))
  have hzt1 : g_z h ≤ g_t h + 1 := Nat.le_trans hzt (Nat.le_succ _)
  have hn1 : (g_t h = g_t h + 1) = False := eq_false (fun z => by omega)
  have hn2 : (g_t h + 1 = g_t h) = False := eq_false (fun z => by omega)
  have nta : nt A (g_t h) := fun j hj z => by have := kt j hj; omega
  have ntb : nt A (g_t h + 1) := fun j hj z => by have := kt j hj; omega
  by_cases bq : q < 0 ∨ ¬ q < 3
  · have bq2 : (¬ q < 0 ∧ q < 3) = False := nrng bq
    simp only [o302_0, o302_1, o302_2, o302_3, o302_13, o302_14, o302_15, o72_0, o72_1, o72_2, o195_0, o195_1, o195_2, o195_5, o195_8, o195_9, o195_12, o195_13, o195_16, o195_19, o195_20, o195_21, o195_22, o195_23, hx_302_1, c_X8_isThrown__, c_X8_isQueue, c_queueOf_bad, mc_pi, mc_pT, mi_pi, mi_pT, ml_pi, ml_pT, mz_pT, mcs_0, mcs_r, Kn_v, Kn_x, true_and, and_true, not_true_eq_false, not_false_eq_true, false_implies, forall_const, if_true, if_false, and_self, Nat.reduceLeDiff, Nat.reduceSub, Nat.reduceAdd, Nat.zero_le, Nat.le_refl, i10, Sum.inl.injEq, Option.some.injEq, Value.int.injEq, exists_eq_left', Nat.reduceLT, kc0, kc22, kz, bq, bq2]
    intro t ht
    first | refine ⟨RlX_of ⟨?_, ?_, ?_, ?_, ?_, ?_, ?_, ?_, ?_, ?_, ?_, ?_⟩, rfl⟩ | refine RlX_of ⟨?_, ?_, ?_, ?_, ?_, ?_, ?_, ?_, ?_, ?_, ?_, ?_⟩
    · (try simp only [K_pi])
      exact K_pT ht vk
    · (try simp only [Cn_pi_j22 hA, Cn_pT])
      exact vcn
    · (try simp only [Vq0_pi_j22 hA, Vq0_pT])
      exact v0
    · (try simp only [Vq1_pi_j22 hA, Vq1_pT])
      exact v1
    · (try simp only [Vq2_pi_j22 hA, Vq2_pT])
      exact v2
    · (try simp only [Vp_thr hA, Vp_pT])
      exact vp
    · (try simp only [Vl0_pi_j22 hA, Vl0_pT])
      exact vl0
    · (try simp only [Vl1_pi_j22 hA, Vl1_pT])
      exact vl1
    · (try simp only [Vlr_pi_j22 hA, Vlr_pT])
      exact vlr
    · (try simp only [Vsr_pi_j22 hA, Vsr_pT])
      exact vsr
    · (try simp only [Vc_pi_j22 hA, Vc_pT])
      exact vc
    · (try simp only [Tx_pi_j22 hA])
      exact Tx_pT ht tx
  · have y1 : ¬ q < 0 := fun z => bq (Or.inl z)
    have y2 : q < 3 := Classical.byContradiction fun z => bq (Or.inr z)
    have bq2 : (¬ q < 0 ∧ q < 3) = True := eq_true ⟨y1, y2⟩
    rcases q_cases y1 y2 with rfl | rfl | rfl
    · have he := v0.1
      have hm := v0.2
      have hT : mT h (A 27) 0 (A 31) (A 34) = cT h (A 5) (A 8) (A 9) := he.symm
      have he2 := he
      simp only [cT, mT, Prod.mk.injEq] at he2
      obtain ⟨g1, g2, g3, g4, g5, g6, g7⟩ := he2
      replace g1 := g1.symm
      replace g2 := g2.symm
      replace g3 := g3.symm
      replace g4 := g4.symm
      replace g5 := g5.symm
      replace g6 := g6.symm
      replace g7 := g7.symm
      obtain ⟨hmk, har, hl0, hl9⟩ := qA_0 _ hm
      have hark : arok 0 (g_i h (A 5) 3) := fun z => absurd (by decide) z
      have n1 : ¬ A 8 = A 9 := fun z => absurd ((hAe 8 9 (by decide) (by decide)).mp z) (by decide)
      simp only [o302_0, o302_1, o302_2, o302_3, o302_6, o302_7, o302_10, o302_16, o302_17, o72_0, o72_1, o72_2, o72_5, o72_6, o72_7, o72_10, o72_11, o72_12, o72_15, o72_16, o72_19, o72_20, o72_23, o195_0, o195_1, o195_2, o195_5, o195_8, o195_9, o195_12, o195_13, o195_16, o195_19, o195_20, o195_21, o195_22, o195_23, o195_26, o195_27, o195_28, o195_29, o195_32, o195_33, o195_34, o195_37, c_X8_isThrown__, c_X8_isQueue, c_queueOf_0, c_X1_lying (w := A 8) (r := A 9), c_X1_clear (w := A 8) (r := A 9) (sz := 5), c_X8_liesOf (x2 := A 25) (x3 := A 26) (a := A 27) (w := A 31) (r := A 34), c_X7_init, c_X0_done (cs := A 18), c_X8_done (cs := A 30), mc_pi, mc_pl, mc_pr, mc_pN, mn_pi, mn_pl, mn_pr, mn_pN, mi_pi, mi_pl, mi_pr, mi_pN, ml_pi, ml_pl, ml_pr, ml_pN, mr_pi, mr_pl, mr_pr, mr_pN, mt_pi, mt_pl, mt_pr, mt_pN, mz_pi, mz_pl, mz_pr, mz_pN, mcs_0, mcs_i, mcs_r, Kn_v, Kn_0, mrf_some, true_and, and_true, or_true, not_true_eq_false, not_false_eq_true, false_implies, implies_true, forall_const, if_true, if_false, and_self, Nat.reduceEqDiff, Nat.reduceLeDiff, Nat.reduceSub, Nat.reduceAdd, Nat.zero_le, Nat.le_refl, i10, i01, kz0, kz1, Int32.reduceLT, cl0, Kc_v, Sum.inl.injEq, Option.some.injEq, Value.int.injEq, exists_eq_left', Nat.reduceLT, hAe, kc0, kc5, kc8, kc9, kc17, kc18, kc22, kc25, kc26, kc27, kc30, kc31, kc34, kc39, kn18, kn25, kn26, kn27, kn30, kr0_2, kr0_9, kr5_0, kr5_1, kr17_0, kr22_2, kr22_3, kr22_4, kr22_8, kr25_0, kr26_0, kz, ki8_2, ki9_2, vq3, hT, Int32.reduceLT, cl0, c_cW, n_cW, r_cW, z_cW, t_cW, l_cW, icw0_j18 hA, icw0_j22 hA, icw0_j30 hA, o159_0, o159_1, o159_4, o159_5, o159_8, o159_9, o159_10, o159_13, o159_15, o159_18, o159_20, o159_21, o159_22, o159_25, o159_26, o159_29, o159_30, o159_31, o159_34, o159_35, o159_38, o159_40, o159_41, o159_42, o159_45, o159_46, o159_49, o159_50, o159_51, o159_52, o159_53, o159_54, o159_57, o159_58, o159_59, o159_62, o159_63, o159_66, o159_67, o159_68, o159_69, o159_70, o159_71, o159_74, o159_75, o159_76, o159_79, o159_80, o159_81, o159_82, vb0, hta, htb, hzt, hzt1, hn2, mT0_pi_j18 hA, mT0_pi_j22 hA, mT0_pl, mT0_cW hA]
      refine ⟨rfl, rfl, ⟨(up (up A 31 (g_t h)) 34 (g_t h + 1)), rfl, rfl, rfl, ⟨?_, ?_, ?_, ?_, ?_, ?_, ?_, ?_, ?_, ?_, ?_, ?_⟩⟩⟩
      · refine ⟨(inj_up (inj_up hA nta) (nt_up ntb (fun z => by omega))), ?_, (Kz1_up (Kz1_up vk.2.2.1 (by simp only [mz_pi, mz_pl, mz_pr, mz_pN, z_cW]) (by simp only [mt_pi, mt_pl, mt_pr, mt_pN, t_cW]; omega) hzt (by simp only [mt_pi, mt_pl, mt_pr, mt_pN, t_cW]; omega)) rfl (Nat.le_refl _) (by simp only [mz_pi, mz_pl, mz_pr, mz_pN, z_cW]; exact hzt1) (by simp only [mt_pi, mt_pl, mt_pr, mt_pN, t_cW]; omega)), ?_, ?_⟩
        · simp only [Kc1, up, mc_pi, mc_pl, mc_pr, mc_pN, mt_pi, mt_pl, mt_pr, mt_pN, c_cW, t_cW, hta, htb, hn1, hn2, Nat.reduceLT, Nat.reduceEqDiff, if_false, if_true, kc0, kc1, kc2, kc3, kc4, kc5, kc6, kc7, kc8, kc9, kc10, kc11, kc12, kc13, kc14, kc15, kc16, kc17, kc18, kc19, kc20, kc21, kc22, kc23, kc24, kc25, kc26, kc27, kc28, kc29, kc30, kc32, kc33, kc35, kc36, kc37, kc38, kc39, c_cW, t_cW, and_self]
        · simp only [Kn1, up, mn_pi, mn_pl, mn_pr, mn_pN, mt_pi, mt_pl, mt_pr, mt_pN, n_cW, t_cW, hta, htb, Nat.reduceLT, Nat.reduceEqDiff, if_false, kn3, kn4, kn18, kn21, kn23, kn24, kn25, kn26, kn27, kn29, kn30, n_cW, t_cW, and_self]
        · simp only [Kr1, up, mr_pi, mr_pl, mr_pr, mr_pN, mt_pi, mt_pl, mt_pr, mt_pN, r_cW, t_cW, hta, htb, hAe, Nat.reduceLT, Nat.reduceEqDiff, and_false, and_true, if_false, if_true, kr0_0, kr0_1, kr0_2, kr0_3, kr0_4, kr0_5, kr0_7, kr0_8, kr0_9, kr0_10, kr1_0, kr2_0, kr5_0, kr5_1, kr6_0, kr6_1, kr7_0, kr7_1, kr8_0, kr9_0, kr10_0, kr11_0, kr12_0, kr13_0, kr14_0, kr15_0, kr16_0, kr17_0, kr19_0, kr19_1, kr22_0, kr22_1, kr22_2, kr22_3, kr22_4, kr22_5, kr22_7, kr22_8, kr25_0, kr25_1, kr25_2, kr26_0, kr26_1, kr26_2, kr29_0, kr29_1, r_cW, t_cW, and_self]
      · simp only [Cn, up, cW, mi_pi, mi_pl, mi_pr, mi_pN, mt_pi, mt_pl, mt_pr, mt_pN, hta, hta2, htb, htb2, hn1, hn2, mi_pi, mi_pl, mi_pr, hAe, Nat.reduceLT, Nat.reduceEqDiff, and_false, and_true, if_false, if_true, ki5_2, ki6_2, ki7_2, ki8_1, ki8_2, ki8_3, ki9_1, ki9_2, ki9_3, ki10_1, ki10_2, ki10_3, ki11_1, ki11_2, ki11_3, ki12_1, ki12_2, ki12_3, ki13_1, ki13_2, ki13_3, ki14_1, ki14_2, ki14_3, ki28_0, ki28_1, ki32_0, ki32_1, ki33_0, ki33_1, ki35_0, ki35_1, ki36_0, ki36_1, and_self]
      · simp only [Vq0, cT, mT, up, mi_pi, mi_pl, mi_pr, mi_pN, mt_pi, mt_pl, mt_pr, mt_pN, t_cW, hta, hta2, htb, htb2, hn1, hn2, mi_pi, mi_pl, mi_pr, hAe, Nat.reduceLT, Nat.reduceEqDiff, and_false, true_and, and_true, if_false, if_true, icx0_0 hA, icx0_1 hA, icx0_2 hA, icx0_3 hA, icx0_4 hA, icx0_5 hA, icx0_6 hA, icw0_j27 hA, clF]
        first | exact qMc_0 | exact ⟨rfl, qMc_0⟩ | exact ⟨trivial, qMc_0⟩
      · (try simp only [Vq1_pi_j18 hA, Vq1_pi_j22 hA, Vq1_pi_j30 hA, Vq1_pl, Vq1_pr, Vq1_cW0 hA, Vq1_27_0 hA, Vq1_up31, Vq1_up34, Vq1_pia, Vq1_pN, nta, ntb, mt_pi, mt_pl, mt_pr, mt_pN, t_cW])
        exact v1
      · (try simp only [Vq2_pi_j18 hA, Vq2_pi_j22 hA, Vq2_pi_j30 hA, Vq2_pl, Vq2_pr, Vq2_cW0 hA, Vq2_27_0 hA, Vq2_up31, Vq2_up34, Vq2_pia, Vq2_pN, nta, ntb, mt_pi, mt_pl, mt_pr, mt_pN, t_cW])
        exact v2
      · (try simp only [Vp_pi_j18 hA, Vp_pi_j30 hA, Vp_pi_j27 hA, Vp_thr hA, Vp_pl, Vp_pr, Vp_cW0 hA, Vp_up31, Vp_up34, Vp_pia, Vp_pN, nta, ntb, mt_pi, mt_pl, mt_pr, mt_pN, t_cW])
        exact vp
      · (try simp only [Vl0_pi_j18 hA, Vl0_pi_j22 hA, Vl0_pi_j30 hA, Vl0_pi_j27 hA, Vl0_pl, Vl0_pr, Vl0_cW0 hA, Vl0_up31, Vl0_up34, Vl0_pia, Vl0_pN, nta, ntb, mt_pi, mt_pl, mt_pr, mt_pN, t_cW])
        exact vl0
      · (try simp only [Vl1_pi_j18 hA, Vl1_pi_j22 hA, Vl1_pi_j30 hA, Vl1_pi_j27 hA, Vl1_pl, Vl1_pr, Vl1_cW0 hA, Vl1_up31, Vl1_up34, Vl1_pia, Vl1_pN, nta, ntb, mt_pi, mt_pl, mt_pr, mt_pN, t_cW])
        exact vl1
      · (try simp only [Vlr_pi_j18 hA, Vlr_pi_j22 hA, Vlr_pi_j30 hA, Vlr_pi_j27 hA, Vlr_pl_j39 hA, Vlr_pr, Vlr_cW0 hA, Vlr_up31, Vlr_up34, Vlr_pia, Vlr_pN, nta, ntb, mt_pi, mt_pl, mt_pr, mt_pN, t_cW])
        exact vlr
      · (try simp only [Vsr_pi_j18 hA, Vsr_pi_j22 hA, Vsr_pi_j30 hA, Vsr_pi_j27 hA, Vsr_pl_j39 hA, Vsr_pr, Vsr_cW0 hA, Vsr_up31, Vsr_up34, Vsr_pia, Vsr_pN, nta, ntb, mt_pi, mt_pl, mt_pr, mt_pN, t_cW])
        exact vsr
      · refine Vc_of (c := 0) vc (by decide) (fun k => ?_) (fun k => ?_) <;> simp only [mi_pi, mi_pl, mi_pr, hAe, Nat.reduceLT, Nat.reduceEqDiff, false_and, true_and, if_false, icw0_j18 hA, icw0_j30 hA, up, mi_pN, mi_pr, mt_pi, mt_pl, mt_pr, mt_pN, t_cW, hta, htb]
      · simp only [Tx_up31, Tx_up34]
        refine Tx_of tx (by simp only [mz_pi, mz_pl, mz_pr, mz_pN, z_cW]) (by simp only [mt_pi, mt_pl, mt_pr, mt_pN, t_cW]; omega) (fun b hb => ?_) ?_ ?_ ?_
        · have q1 : (b = g_t h) = False := eq_false (by omega)
          have q2 : (b = g_t h + 1) = False := eq_false (by omega)
          simp only [mc_pi, mc_pl, mc_pr, mc_pN, mn_pi, mn_pl, mn_pr, mn_pN, mt_pi, mt_pl, mt_pr, mt_pN, c_cW, n_cW, t_cW, q1, q2, if_false, and_self]
        · simp only [cW, mr_pi, mr_pl, mr_pr, mr_pN, mt_pi, mt_pl, mt_pr, mt_pN, hta, htb, hAe, Nat.reduceLT, Nat.reduceEqDiff, and_true, if_false]
        · simp only [cW, mi_pi, mi_pl, mi_pr, mi_pN, mt_pi, mt_pl, mt_pr, mt_pN, hta, htb, mi_pi, mi_pl, mi_pr, hAe, Nat.reduceLT, Nat.reduceEqDiff, and_false, and_true, if_false]
        · simp only [cW, mi_pi, mi_pl, mi_pr, mi_pN, mt_pi, mt_pl, mt_pr, mt_pN, hta, htb, mi_pi, mi_pl, mi_pr, hAe, Nat.reduceLT, Nat.reduceEqDiff, and_false, and_true, if_false]
    · have he := v1.1
      have hm := v1.2
      have hT : mT h (A 27) 1 (A 32) (A 35) = cT h (A 6) (A 10) (A 11) := he.symm
      have he2 := he
      simp only [cT, mT, Prod.mk.injEq] at he2
      obtain ⟨g1, g2, g3, g4, g5, g6, g7⟩ := he2
      replace g1 := g1.symm
      replace g2 := g2.symm
      replace g3 := g3.symm
      replace g4 := g4.symm
      replace g5 := g5.symm
      replace g6 := g6.symm
      replace g7 := g7.symm
      obtain ⟨hmk, har, hl0, hl9⟩ := qA_1 _ hm
      have hark : arok 1 (g_i h (A 6) 3) := fun z => absurd (by decide) z
      have n1 : ¬ A 10 = A 11 := fun z => absurd ((hAe 10 11 (by decide) (by decide)).mp z) (by decide)
      simp only [o302_0, o302_1, o302_2, o302_3, o302_6, o302_7, o302_10, o302_16, o302_17, o72_0, o72_1, o72_2, o72_5, o72_6, o72_7, o72_10, o72_11, o72_12, o72_15, o72_16, o72_19, o72_20, o72_23, o195_0, o195_1, o195_2, o195_5, o195_8, o195_9, o195_12, o195_13, o195_16, o195_19, o195_20, o195_21, o195_22, o195_23, o195_26, o195_27, o195_28, o195_29, o195_32, o195_33, o195_34, o195_37, c_X8_isThrown__, c_X8_isQueue, c_queueOf_1, c_X1_lying (w := A 10) (r := A 11), c_X1_clear (w := A 10) (r := A 11) (sz := 3), c_X8_liesOf (x2 := A 25) (x3 := A 26) (a := A 27) (w := A 32) (r := A 35), c_X7_init, c_X0_done (cs := A 18), c_X8_done (cs := A 30), mc_pi, mc_pl, mc_pr, mc_pN, mn_pi, mn_pl, mn_pr, mn_pN, mi_pi, mi_pl, mi_pr, mi_pN, ml_pi, ml_pl, ml_pr, ml_pN, mr_pi, mr_pl, mr_pr, mr_pN, mt_pi, mt_pl, mt_pr, mt_pN, mz_pi, mz_pl, mz_pr, mz_pN, mcs_0, mcs_i, mcs_r, Kn_v, Kn_0, mrf_some, true_and, and_true, or_true, not_true_eq_false, not_false_eq_true, false_implies, implies_true, forall_const, if_true, if_false, and_self, Nat.reduceEqDiff, Nat.reduceLeDiff, Nat.reduceSub, Nat.reduceAdd, Nat.zero_le, Nat.le_refl, i10, kz0, kz1, Int32.reduceLT, cl1, Kc_v, Sum.inl.injEq, Option.some.injEq, Value.int.injEq, exists_eq_left', Nat.reduceLT, hAe, kc0, kc6, kc10, kc11, kc17, kc18, kc22, kc25, kc26, kc27, kc30, kc32, kc35, kc39, kn18, kn25, kn26, kn27, kn30, kr0_3, kr0_9, kr6_0, kr6_1, kr17_0, kr22_2, kr22_3, kr22_4, kr22_8, kr25_1, kr26_1, kz, ki10_2, ki11_2, vq3, hT, Int32.reduceLT, cl1, c_cW, n_cW, r_cW, z_cW, t_cW, l_cW, icw1_j18 hA, icw1_j22 hA, icw1_j30 hA, o159_0, o159_1, o159_4, o159_5, o159_8, o159_9, o159_10, o159_13, o159_15, o159_18, o159_20, o159_21, o159_22, o159_25, o159_26, o159_29, o159_30, o159_31, o159_34, o159_35, o159_38, o159_40, o159_41, o159_42, o159_45, o159_46, o159_49, o159_50, o159_51, o159_52, o159_53, o159_54, o159_57, o159_58, o159_59, o159_62, o159_63, o159_66, o159_67, o159_68, o159_69, o159_70, o159_71, o159_74, o159_75, o159_76, o159_79, o159_80, o159_81, o159_82, vb0, hta, htb, hzt, hzt1, hn2, mT1_pi_j18 hA, mT1_pi_j22 hA, mT1_pl, mT1_cW hA]
      refine ⟨rfl, rfl, ⟨(up (up A 32 (g_t h)) 35 (g_t h + 1)), rfl, rfl, rfl, ⟨?_, ?_, ?_, ?_, ?_, ?_, ?_, ?_, ?_, ?_, ?_, ?_⟩⟩⟩
      · refine ⟨(inj_up (inj_up hA nta) (nt_up ntb (fun z => by omega))), ?_, (Kz1_up (Kz1_up vk.2.2.1 (by simp only [mz_pi, mz_pl, mz_pr, mz_pN, z_cW]) (by simp only [mt_pi, mt_pl, mt_pr, mt_pN, t_cW]; omega) hzt (by simp only [mt_pi, mt_pl, mt_pr, mt_pN, t_cW]; omega)) rfl (Nat.le_refl _) (by simp only [mz_pi, mz_pl, mz_pr, mz_pN, z_cW]; exact hzt1) (by simp only [mt_pi, mt_pl, mt_pr, mt_pN, t_cW]; omega)), ?_, ?_⟩
        · simp only [Kc1, up, mc_pi, mc_pl, mc_pr, mc_pN, mt_pi, mt_pl, mt_pr, mt_pN, c_cW, t_cW, hta, htb, hn1, hn2, Nat.reduceLT, Nat.reduceEqDiff, if_false, if_true, kc0, kc1, kc2, kc3, kc4, kc5, kc6, kc7, kc8, kc9, kc10, kc11, kc12, kc13, kc14, kc15, kc16, kc17, kc18, kc19, kc20, kc21, kc22, kc23, kc24, kc25, kc26, kc27, kc28, kc29, kc30, kc31, kc33, kc34, kc36, kc37, kc38, kc39, c_cW, t_cW, and_self]
        · simp only [Kn1, up, mn_pi, mn_pl, mn_pr, mn_pN, mt_pi, mt_pl, mt_pr, mt_pN, n_cW, t_cW, hta, htb, Nat.reduceLT, Nat.reduceEqDiff, if_false, kn3, kn4, kn18, kn21, kn23, kn24, kn25, kn26, kn27, kn29, kn30, n_cW, t_cW, and_self]
        · simp only [Kr1, up, mr_pi, mr_pl, mr_pr, mr_pN, mt_pi, mt_pl, mt_pr, mt_pN, r_cW, t_cW, hta, htb, hAe, Nat.reduceLT, Nat.reduceEqDiff, and_false, and_true, if_false, if_true, kr0_0, kr0_1, kr0_2, kr0_3, kr0_4, kr0_5, kr0_7, kr0_8, kr0_9, kr0_10, kr1_0, kr2_0, kr5_0, kr5_1, kr6_0, kr6_1, kr7_0, kr7_1, kr8_0, kr9_0, kr10_0, kr11_0, kr12_0, kr13_0, kr14_0, kr15_0, kr16_0, kr17_0, kr19_0, kr19_1, kr22_0, kr22_1, kr22_2, kr22_3, kr22_4, kr22_5, kr22_7, kr22_8, kr25_0, kr25_1, kr25_2, kr26_0, kr26_1, kr26_2, kr29_0, kr29_1, r_cW, t_cW, and_self]
      · simp only [Cn, up, cW, mi_pi, mi_pl, mi_pr, mi_pN, mt_pi, mt_pl, mt_pr, mt_pN, hta, hta2, htb, htb2, hn1, hn2, mi_pi, mi_pl, mi_pr, hAe, Nat.reduceLT, Nat.reduceEqDiff, and_false, and_true, if_false, if_true, ki5_2, ki6_2, ki7_2, ki8_1, ki8_2, ki8_3, ki9_1, ki9_2, ki9_3, ki10_1, ki10_2, ki10_3, ki11_1, ki11_2, ki11_3, ki12_1, ki12_2, ki12_3, ki13_1, ki13_2, ki13_3, ki14_1, ki14_2, ki14_3, ki28_0, ki28_1, ki31_0, ki31_1, ki33_0, ki33_1, ki34_0, ki34_1, ki36_0, ki36_1, and_self]
      · (try simp only [Vq0_pi_j18 hA, Vq0_pi_j22 hA, Vq0_pi_j30 hA, Vq0_pl, Vq0_pr, Vq0_cW1 hA, Vq0_27_1 hA, Vq0_up32, Vq0_up35, Vq0_pia, Vq0_pN, nta, ntb, mt_pi, mt_pl, mt_pr, mt_pN, t_cW])
        exact v0
      · simp only [Vq1, cT, mT, up, mi_pi, mi_pl, mi_pr, mi_pN, mt_pi, mt_pl, mt_pr, mt_pN, t_cW, hta, hta2, htb, htb2, hn1, hn2, mi_pi, mi_pl, mi_pr, hAe, Nat.reduceLT, Nat.reduceEqDiff, and_false, true_and, and_true, if_false, if_true, icx1_0 hA, icx1_1 hA, icx1_2 hA, icx1_3 hA, icx1_4 hA, icx1_5 hA, icx1_6 hA, icw1_j27 hA, clF]
        first | exact qMc_1 | exact ⟨rfl, qMc_1⟩ | exact ⟨trivial, qMc_1⟩
      · (try simp only [Vq2_pi_j18 hA, Vq2_pi_j22 hA, Vq2_pi_j30 hA, Vq2_pl, Vq2_pr, Vq2_cW1 hA, Vq2_27_1 hA, Vq2_up32, Vq2_up35, Vq2_pia, Vq2_pN, nta, ntb, mt_pi, mt_pl, mt_pr, mt_pN, t_cW])
        exact v2
      · (try simp only [Vp_pi_j18 hA, Vp_pi_j30 hA, Vp_pi_j27 hA, Vp_thr hA, Vp_pl, Vp_pr, Vp_cW1 hA, Vp_up32, Vp_up35, Vp_pia, Vp_pN, nta, ntb, mt_pi, mt_pl, mt_pr, mt_pN, t_cW])
        exact vp
      · (try simp only [Vl0_pi_j18 hA, Vl0_pi_j22 hA, Vl0_pi_j30 hA, Vl0_pi_j27 hA, Vl0_pl, Vl0_pr, Vl0_cW1 hA, Vl0_up32, Vl0_up35, Vl0_pia, Vl0_pN, nta, ntb, mt_pi, mt_pl, mt_pr, mt_pN, t_cW])
        exact vl0
      · (try simp only [Vl1_pi_j18 hA, Vl1_pi_j22 hA, Vl1_pi_j30 hA, Vl1_pi_j27 hA, Vl1_pl, Vl1_pr, Vl1_cW1 hA, Vl1_up32, Vl1_up35, Vl1_pia, Vl1_pN, nta, ntb, mt_pi, mt_pl, mt_pr, mt_pN, t_cW])
        exact vl1
      · (try simp only [Vlr_pi_j18 hA, Vlr_pi_j22 hA, Vlr_pi_j30 hA, Vlr_pi_j27 hA, Vlr_pl_j39 hA, Vlr_pr, Vlr_cW1 hA, Vlr_up32, Vlr_up35, Vlr_pia, Vlr_pN, nta, ntb, mt_pi, mt_pl, mt_pr, mt_pN, t_cW])
        exact vlr
      · (try simp only [Vsr_pi_j18 hA, Vsr_pi_j22 hA, Vsr_pi_j30 hA, Vsr_pi_j27 hA, Vsr_pl_j39 hA, Vsr_pr, Vsr_cW1 hA, Vsr_up32, Vsr_up35, Vsr_pia, Vsr_pN, nta, ntb, mt_pi, mt_pl, mt_pr, mt_pN, t_cW])
        exact vsr
      · refine Vc_of (c := 0) vc (by decide) (fun k => ?_) (fun k => ?_) <;> simp only [mi_pi, mi_pl, mi_pr, hAe, Nat.reduceLT, Nat.reduceEqDiff, false_and, true_and, if_false, icw1_j18 hA, icw1_j30 hA, up, mi_pN, mi_pr, mt_pi, mt_pl, mt_pr, mt_pN, t_cW, hta, htb]
      · simp only [Tx_up32, Tx_up35]
        refine Tx_of tx (by simp only [mz_pi, mz_pl, mz_pr, mz_pN, z_cW]) (by simp only [mt_pi, mt_pl, mt_pr, mt_pN, t_cW]; omega) (fun b hb => ?_) ?_ ?_ ?_
        · have q1 : (b = g_t h) = False := eq_false (by omega)
          have q2 : (b = g_t h + 1) = False := eq_false (by omega)
          simp only [mc_pi, mc_pl, mc_pr, mc_pN, mn_pi, mn_pl, mn_pr, mn_pN, mt_pi, mt_pl, mt_pr, mt_pN, c_cW, n_cW, t_cW, q1, q2, if_false, and_self]
        · simp only [cW, mr_pi, mr_pl, mr_pr, mr_pN, mt_pi, mt_pl, mt_pr, mt_pN, hta, htb, hAe, Nat.reduceLT, Nat.reduceEqDiff, and_false, if_false]
        · simp only [cW, mi_pi, mi_pl, mi_pr, mi_pN, mt_pi, mt_pl, mt_pr, mt_pN, hta, htb, mi_pi, mi_pl, mi_pr, hAe, Nat.reduceLT, Nat.reduceEqDiff, and_false, and_true, if_false]
        · simp only [cW, mi_pi, mi_pl, mi_pr, mi_pN, mt_pi, mt_pl, mt_pr, mt_pN, hta, htb, mi_pi, mi_pl, mi_pr, hAe, Nat.reduceLT, Nat.reduceEqDiff, and_false, and_true, if_false]
    · have he := v2.1
      have hm := v2.2
      have hT : mT h (A 27) 2 (A 33) (A 36) = cT h (A 7) (A 12) (A 13) := he.symm
      have he2 := he
      simp only [cT, mT, Prod.mk.injEq] at he2
      obtain ⟨g1, g2, g3, g4, g5, g6, g7⟩ := he2
      replace g1 := g1.symm
      replace g2 := g2.symm
      replace g3 := g3.symm
      replace g4 := g4.symm
      replace g5 := g5.symm
      replace g6 := g6.symm
      replace g7 := g7.symm
      obtain ⟨hmk, har, hl0, hl9⟩ := qA_2 _ hm
      have hark : arok 2 (g_i h (A 7) 3) := fun _ => har
      have n1 : ¬ A 12 = A 13 := fun z => absurd ((hAe 12 13 (by decide) (by decide)).mp z) (by decide)
      simp only [o302_0, o302_1, o302_2, o302_3, o302_6, o302_7, o302_10, o302_16, o302_17, o72_0, o72_1, o72_2, o72_5, o72_6, o72_7, o72_10, o72_11, o72_12, o72_15, o72_16, o72_19, o72_20, o72_23, o195_0, o195_1, o195_2, o195_5, o195_8, o195_9, o195_12, o195_13, o195_16, o195_19, o195_20, o195_21, o195_22, o195_23, o195_26, o195_27, o195_28, o195_29, o195_32, o195_33, o195_34, o195_37, c_X8_isThrown__, c_X8_isQueue, c_queueOf_2, c_X1_lying (w := A 12) (r := A 13), c_X1_clear (w := A 12) (r := A 13) (sz := 6), c_X8_liesOf (x2 := A 25) (x3 := A 26) (a := A 27) (w := A 33) (r := A 36), c_X7_init, c_X0_done (cs := A 18), c_X8_done (cs := A 30), mc_pi, mc_pl, mc_pr, mc_pN, mn_pi, mn_pl, mn_pr, mn_pN, mi_pi, mi_pl, mi_pr, mi_pN, ml_pi, ml_pl, ml_pr, ml_pN, mr_pi, mr_pl, mr_pr, mr_pN, mt_pi, mt_pl, mt_pr, mt_pN, mz_pi, mz_pl, mz_pr, mz_pN, mcs_0, mcs_i, mcs_r, Kn_v, Kn_0, mrf_some, true_and, and_true, or_true, not_true_eq_false, not_false_eq_true, false_implies, implies_true, forall_const, if_true, if_false, and_self, Nat.reduceEqDiff, Nat.reduceLeDiff, Nat.reduceSub, Nat.reduceAdd, Nat.zero_le, Nat.le_refl, i10, kz0, kz1, Int32.reduceLT, cl2, Kc_v, Sum.inl.injEq, Option.some.injEq, Value.int.injEq, exists_eq_left', Nat.reduceLT, hAe, i20, kc0, kc7, kc12, kc13, kc17, kc18, kc22, kc25, kc26, kc27, kc30, kc33, kc36, kc39, kn18, kn25, kn26, kn27, kn30, kr0_4, kr0_9, kr7_0, kr7_1, kr17_0, kr22_2, kr22_3, kr22_4, kr22_8, kr25_2, kr26_2, kz, ki12_2, ki13_2, vq3, hT, Int32.reduceLT, cl2, c_cW, n_cW, r_cW, z_cW, t_cW, l_cW, icw2_j18 hA, icw2_j22 hA, icw2_j30 hA, o159_0, o159_1, o159_4, o159_5, o159_8, o159_9, o159_10, o159_13, o159_15, o159_18, o159_20, o159_21, o159_22, o159_25, o159_26, o159_29, o159_30, o159_31, o159_34, o159_35, o159_38, o159_40, o159_41, o159_42, o159_45, o159_46, o159_49, o159_50, o159_51, o159_52, o159_53, o159_54, o159_57, o159_58, o159_59, o159_62, o159_63, o159_66, o159_67, o159_68, o159_69, o159_70, o159_71, o159_74, o159_75, o159_76, o159_79, o159_80, o159_81, o159_82, vb0, hta, htb, hzt, hzt1, hn2, lne, mT2_pi_j18 hA, mT2_pi_j22 hA, mT2_pl, mT2_cW hA]
      refine ⟨rfl, rfl, ⟨(up (up A 33 (g_t h)) 36 (g_t h + 1)), rfl, rfl, rfl, ⟨?_, ?_, ?_, ?_, ?_, ?_, ?_, ?_, ?_, ?_, ?_, ?_⟩⟩⟩
      · refine ⟨(inj_up (inj_up hA nta) (nt_up ntb (fun z => by omega))), ?_, (Kz1_up (Kz1_up vk.2.2.1 (by simp only [mz_pi, mz_pl, mz_pr, mz_pN, z_cW]) (by simp only [mt_pi, mt_pl, mt_pr, mt_pN, t_cW]; omega) hzt (by simp only [mt_pi, mt_pl, mt_pr, mt_pN, t_cW]; omega)) rfl (Nat.le_refl _) (by simp only [mz_pi, mz_pl, mz_pr, mz_pN, z_cW]; exact hzt1) (by simp only [mt_pi, mt_pl, mt_pr, mt_pN, t_cW]; omega)), ?_, ?_⟩
        · simp only [Kc1, up, mc_pi, mc_pl, mc_pr, mc_pN, mt_pi, mt_pl, mt_pr, mt_pN, c_cW, t_cW, hta, htb, hn1, hn2, Nat.reduceLT, Nat.reduceEqDiff, if_false, if_true, kc0, kc1, kc2, kc3, kc4, kc5, kc6, kc7, kc8, kc9, kc10, kc11, kc12, kc13, kc14, kc15, kc16, kc17, kc18, kc19, kc20, kc21, kc22, kc23, kc24, kc25, kc26, kc27, kc28, kc29, kc30, kc31, kc32, kc34, kc35, kc37, kc38, kc39, c_cW, t_cW, and_self]
        · simp only [Kn1, up, mn_pi, mn_pl, mn_pr, mn_pN, mt_pi, mt_pl, mt_pr, mt_pN, n_cW, t_cW, hta, htb, Nat.reduceLT, Nat.reduceEqDiff, if_false, kn3, kn4, kn18, kn21, kn23, kn24, kn25, kn26, kn27, kn29, kn30, n_cW, t_cW, and_self]
        · simp only [Kr1, up, mr_pi, mr_pl, mr_pr, mr_pN, mt_pi, mt_pl, mt_pr, mt_pN, r_cW, t_cW, hta, htb, hAe, Nat.reduceLT, Nat.reduceEqDiff, and_false, and_true, if_false, if_true, kr0_0, kr0_1, kr0_2, kr0_3, kr0_4, kr0_5, kr0_7, kr0_8, kr0_9, kr0_10, kr1_0, kr2_0, kr5_0, kr5_1, kr6_0, kr6_1, kr7_0, kr7_1, kr8_0, kr9_0, kr10_0, kr11_0, kr12_0, kr13_0, kr14_0, kr15_0, kr16_0, kr17_0, kr19_0, kr19_1, kr22_0, kr22_1, kr22_2, kr22_3, kr22_4, kr22_5, kr22_7, kr22_8, kr25_0, kr25_1, kr25_2, kr26_0, kr26_1, kr26_2, kr29_0, kr29_1, r_cW, t_cW, and_self]
      · simp only [Cn, up, cW, mi_pi, mi_pl, mi_pr, mi_pN, mt_pi, mt_pl, mt_pr, mt_pN, hta, hta2, htb, htb2, hn1, hn2, mi_pi, mi_pl, mi_pr, hAe, Nat.reduceLT, Nat.reduceEqDiff, and_false, and_true, if_false, if_true, ki5_2, ki6_2, ki7_2, ki8_1, ki8_2, ki8_3, ki9_1, ki9_2, ki9_3, ki10_1, ki10_2, ki10_3, ki11_1, ki11_2, ki11_3, ki12_1, ki12_2, ki12_3, ki13_1, ki13_2, ki13_3, ki14_1, ki14_2, ki14_3, ki28_0, ki28_1, ki31_0, ki31_1, ki32_0, ki32_1, ki34_0, ki34_1, ki35_0, ki35_1, and_self]
      · (try simp only [Vq0_pi_j18 hA, Vq0_pi_j22 hA, Vq0_pi_j30 hA, Vq0_pl, Vq0_pr, Vq0_cW2 hA, Vq0_27_2 hA, Vq0_up33, Vq0_up36, Vq0_pia, Vq0_pN, nta, ntb, mt_pi, mt_pl, mt_pr, mt_pN, t_cW])
        exact v0
      · (try simp only [Vq1_pi_j18 hA, Vq1_pi_j22 hA, Vq1_pi_j30 hA, Vq1_pl, Vq1_pr, Vq1_cW2 hA, Vq1_27_2 hA, Vq1_up33, Vq1_up36, Vq1_pia, Vq1_pN, nta, ntb, mt_pi, mt_pl, mt_pr, mt_pN, t_cW])
        exact v1
      · simp only [Vq2, cT, mT, up, mi_pi, mi_pl, mi_pr, mi_pN, mt_pi, mt_pl, mt_pr, mt_pN, t_cW, hta, hta2, htb, htb2, hn1, hn2, mi_pi, mi_pl, mi_pr, hAe, Nat.reduceLT, Nat.reduceEqDiff, and_false, true_and, and_true, if_false, if_true, icx2_0 hA, icx2_1 hA, icx2_2 hA, icx2_3 hA, icx2_4 hA, icx2_5 hA, icx2_6 hA, icw2_j27 hA, clF]
        first | exact qMc_2 | exact ⟨rfl, qMc_2⟩ | exact ⟨trivial, qMc_2⟩
      · (try simp only [Vp_pi_j18 hA, Vp_pi_j30 hA, Vp_pi_j27 hA, Vp_thr hA, Vp_pl, Vp_pr, Vp_cW2 hA, Vp_up33, Vp_up36, Vp_pia, Vp_pN, nta, ntb, mt_pi, mt_pl, mt_pr, mt_pN, t_cW])
        exact vp
      · (try simp only [Vl0_pi_j18 hA, Vl0_pi_j22 hA, Vl0_pi_j30 hA, Vl0_pi_j27 hA, Vl0_pl, Vl0_pr, Vl0_cW2 hA, Vl0_up33, Vl0_up36, Vl0_pia, Vl0_pN, nta, ntb, mt_pi, mt_pl, mt_pr, mt_pN, t_cW])
        exact vl0
      · (try simp only [Vl1_pi_j18 hA, Vl1_pi_j22 hA, Vl1_pi_j30 hA, Vl1_pi_j27 hA, Vl1_pl, Vl1_pr, Vl1_cW2 hA, Vl1_up33, Vl1_up36, Vl1_pia, Vl1_pN, nta, ntb, mt_pi, mt_pl, mt_pr, mt_pN, t_cW])
        exact vl1
      · (try simp only [Vlr_pi_j18 hA, Vlr_pi_j22 hA, Vlr_pi_j30 hA, Vlr_pi_j27 hA, Vlr_pl_j39 hA, Vlr_pr, Vlr_cW2 hA, Vlr_up33, Vlr_up36, Vlr_pia, Vlr_pN, nta, ntb, mt_pi, mt_pl, mt_pr, mt_pN, t_cW])
        exact vlr
      · (try simp only [Vsr_pi_j18 hA, Vsr_pi_j22 hA, Vsr_pi_j30 hA, Vsr_pi_j27 hA, Vsr_pl_j39 hA, Vsr_pr, Vsr_cW2 hA, Vsr_up33, Vsr_up36, Vsr_pia, Vsr_pN, nta, ntb, mt_pi, mt_pl, mt_pr, mt_pN, t_cW])
        exact vsr
      · refine Vc_of (c := 0) vc (by decide) (fun k => ?_) (fun k => ?_) <;> simp only [mi_pi, mi_pl, mi_pr, hAe, Nat.reduceLT, Nat.reduceEqDiff, false_and, true_and, if_false, icw2_j18 hA, icw2_j30 hA, up, mi_pN, mi_pr, mt_pi, mt_pl, mt_pr, mt_pN, t_cW, hta, htb]
      · simp only [Tx_up33, Tx_up36]
        refine Tx_of tx (by simp only [mz_pi, mz_pl, mz_pr, mz_pN, z_cW]) (by simp only [mt_pi, mt_pl, mt_pr, mt_pN, t_cW]; omega) (fun b hb => ?_) ?_ ?_ ?_
        · have q1 : (b = g_t h) = False := eq_false (by omega)
          have q2 : (b = g_t h + 1) = False := eq_false (by omega)
          simp only [mc_pi, mc_pl, mc_pr, mc_pN, mn_pi, mn_pl, mn_pr, mn_pN, mt_pi, mt_pl, mt_pr, mt_pN, c_cW, n_cW, t_cW, q1, q2, if_false, and_self]
        · simp only [cW, mr_pi, mr_pl, mr_pr, mr_pN, mt_pi, mt_pl, mt_pr, mt_pN, hta, htb, hAe, Nat.reduceLT, Nat.reduceEqDiff, and_false, if_false]
        · simp only [cW, mi_pi, mi_pl, mi_pr, mi_pN, mt_pi, mt_pl, mt_pr, mt_pN, hta, htb, mi_pi, mi_pl, mi_pr, hAe, Nat.reduceLT, Nat.reduceEqDiff, and_false, and_true, if_false]
        · simp only [cW, mi_pi, mi_pl, mi_pr, mi_pN, mt_pi, mt_pl, mt_pr, mt_pN, hta, htb, mi_pi, mi_pl, mi_pr, hAe, Nat.reduceLT, Nat.reduceEqDiff, and_false, and_true, if_false]
end

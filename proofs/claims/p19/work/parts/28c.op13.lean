theorem hx_313_1 {l rest : List Value} {bc bs : Nat} {Q : MR → MH → Prop} {h : MH} : Kc Ok 313 4 7 l rest bc bs Q (.inr 1) h ↔ ∀ q : Nat, Ok 313 14 l [.ref q] h bc bs Q := Kc_x (by decide +kernel) (by decide +kernel)
theorem hx_313_2 {l rest : List Value} {bc bs : Nat} {Q : MR → MH → Prop} {h : MH} : Kc Ok 313 4 7 l rest bc bs Q (.inr 2) h ↔ ∀ q : Nat, Ok 313 18 l [.ref q] h bc bs Q := Kc_x (by decide +kernel) (by decide +kernel)
theorem hx_313_3 {l rest : List Value} {bc bs : Nat} {Q : MR → MH → Prop} {h : MH} : Kc Ok 313 4 7 l rest bc bs Q (.inr 3) h ↔ ∀ q : Nat, Ok 313 22 l [.ref q] h bc bs Q := Kc_x (by decide +kernel) (by decide +kernel)
theorem op_pourAll {A : Nat → Nat} {h : MH} (R : Rl A h) {s f : Int32} : Ok 313 0 [.ref (A 0), .int s, .int f, .ref (A 39), mk0] [] h 3 18 (fun r h1 => ∃ k : Int32, r = .inl (some (.int k)) ∧ g_c h1 (A 22) = 9 ∧ Ok 210 0 [.ref (A 22), .int s, .int f, mk0, mk0] [] h1 0 0 (fun r2 h2 => ∃ b : Int32, r2 = .inl (some (.int b)) ∧ Rl A h2 ∧ g_i h2 (A 22) 9 = k ∧ (k = 0 → g_l h2 (A 39) 0 = b.toInt64))) := by
  obtain ⟨vk, vcn, v0, v1, v2, vp, vl0, vl1, vlr, vsr, vc, tx⟩ := R
  have vk0 := vk
  have vcn0 := vcn
  (refine K_el vk0 ?_; intros hA kc0 kc1 kc2 kc3 kc4 kc5 kc6 kc7 kc8 kc9 kc10 kc11 kc12 kc13 kc14 kc15 kc16 kc17 kc18 kc19 kc20 kc21 kc22 kc23 kc24 kc25 kc26 kc27 kc28 kc29 kc30 kc31 kc32 kc33 kc34 kc35 kc36 kc37 kc38 kc39 kz kt kn3 kn4 kn18 kn21 kn23 kn24 kn25 kn26 kn27 kn29 kn30 kr0_0 kr0_1 kr0_2 kr0_3 kr0_4 kr0_5 kr0_7 kr0_8 kr0_9 kr0_10 kr1_0 kr2_0 kr5_0 kr5_1 kr6_0 kr6_1 kr7_0 kr7_1 kr8_0 kr9_0 kr10_0 kr11_0 kr12_0 kr13_0 kr14_0 kr15_0 kr16_0 kr17_0 kr19_0 kr19_1 kr22_0 kr22_1 kr22_2 kr22_3 kr22_4 kr22_5 kr22_7 kr22_8 kr25_0 kr25_1 kr25_2 kr26_0 kr26_1 kr26_2 kr29_0 kr29_1)
  (refine Cn_el vcn0 ?_; intros ki5_2 ki6_2 ki7_2 ki8_1 ki8_2 ki8_3 ki9_1 ki9_2 ki9_3 ki10_1 ki10_2 ki10_3 ki11_1 ki11_2 ki11_3 ki12_1 ki12_2 ki12_3 ki13_1 ki13_2 ki13_3 ki14_1 ki14_2 ki14_3 ki28_0 ki28_1 ki31_0 ki31_1 ki32_0 ki32_1 ki33_0 ki33_1 ki34_0 ki34_1 ki35_0 ki35_1 ki36_0 ki36_1)
  have hAe : ∀ i j, i < 40 → j < 40 → (A i = A j ↔ i = j) := hA
  have hp2 := vp
  obtain ⟨⟨p1, p2, p3, p4⟩, hpm⟩ := hp2
  replace p1 := p1.symm
  replace p2 := p2.symm
  replace p3 := p3.symm
  replace p4 := p4.symm
  rw [p1, p2, p3, p4] at hpm
  obtain ⟨pm, pd⟩ := pA _ hpm
  simp only at pm pd
  by_cases bs : s < 0 ∨ ¬ s < 6
  · have bs2 : (¬ s < 0 ∧ s < 6) = False := nrng bs
    by_cases bf : (¬ f < 0 ∧ f < 4) <;> rcases pd with pd | pd
    all_goals
      simp only [o313_0, o313_1, o313_2, o313_3, o313_4, o313_14, o313_16, o313_17, o313_18, o313_20, o313_21, o313_22, o313_24, o313_25, o82_0, o82_1, o82_4, o82_5, o82_8, o82_9, o82_12, o82_13, o82_14, o82_15, o82_16, o82_19, o210_0, o210_1, o210_2, o210_5, o210_8, o210_9, o210_12, o210_13, o210_14, o210_17, o210_20, o210_21, o210_24, o210_25, o210_26, o210_29, o210_32, o210_35, o210_36, o210_37, o210_38, o210_39, o210_40, o210_42, o210_44, o210_45, o210_48, o210_49, o210_52, o210_85, o210_86, o210_87, hx_313_1, hx_313_2, hx_313_3, c_X5_checkSlot, c_X8_isSlot, c_X8_isThrown, c_X5_checkFourth, c_X8_isFourth, c_X5_checkFilling, mc_pi, mc_pT, mi_pi, mi_pT, ml_pi, ml_pT, mr_pi, mr_pT, mz_pT, mcs_0, mcs_i, mcs_r, Kn_v, Kn_0, Kn_x, mrf_some, true_and, and_true, and_false, or_false, not_true_eq_false, not_false_eq_true, false_implies, forall_const, if_true, if_false, and_self, Nat.reduceLeDiff, Nat.reduceSub, Nat.reduceAdd, Nat.zero_le, Nat.le_refl, i10, lt_le, Classical.not_not, Sum.inl.injEq, Option.some.injEq, Value.int.injEq, exists_eq_left', Nat.reduceLT, i20, i30, kc0, kc14, kc22, kc28, kr0_5, kr22_5, kz, bs, bs2, bf, pd, p4]
      intro t ht
      first | refine ⟨⟨?_, ?_, ?_, ?_, ?_, ?_, ?_, ?_, ?_, ?_, ?_, ?_⟩, rfl⟩ | refine ⟨?_, ?_, ?_, ?_, ?_, ?_, ?_, ?_, ?_, ?_, ?_, ?_⟩
      · (try simp only [K_pi])
        exact K_pT ht vk
      · (try simp only [Cn_pi_j22 hA, Cn_pT])
        exact vcn
      · (try simp only [Vq0_pi_j22 hA, Vq0_pT])
        exact v0
      · (try simp only [Vq1_pi_j22 hA, Vq1_pT])
        exact v1
      · (try simp only [Vq2_pi_j22 hA, Vq2_pT])
        exact v2
      · (try simp only [Vp_thr hA, Vp_pT])
        exact vp
      · (try simp only [Vl0_pi_j22 hA, Vl0_pT])
        exact vl0
      · (try simp only [Vl1_pi_j22 hA, Vl1_pT])
        exact vl1
      · (try simp only [Vlr_pi_j22 hA, Vlr_pT])
        exact vlr
      · (try simp only [Vsr_pi_j22 hA, Vsr_pT])
        exact vsr
      · (try simp only [Vc_pi_j22 hA, Vc_pT])
        exact vc
      · (try simp only [Tx_pi_j22 hA])
        exact Tx_pT ht tx
  · have s1 : ¬ s < 0 := fun z => bs (Or.inl z)
    have s2 : s < 6 := Classical.byContradiction fun z => bs (Or.inr z)
    have hs := ix_ok s1 s2
    have hs2 := hs
    obtain ⟨⟨j0, j1, j2, j3⟩, d01, d02, d03, d10, d12, d13, d20, d21, d23, d30, d31, d32⟩ := hs2
    obtain ⟨l0, l1, l2, l3⟩ := ix_lt hs
    have vs0 := (vsr _ l0).1
    have vs1 := (vsr _ l1).1
    have vs2 := (vsr _ l2).1
    have vs3 := (vsr _ l3).1
    have bs2 : (¬ s < 0 ∧ s < 6) = True := eq_true ⟨s1, s2⟩
    by_cases bf : f < 0 ∨ ¬ f < 4
    · have bf2 : (¬ f < 0 ∧ f < 4) = False := nrng bf
      rcases pd with pd | pd
      all_goals
        simp only [o313_0, o313_1, o313_2, o313_3, o313_4, o313_14, o313_16, o313_17, o313_18, o313_20, o313_21, o313_22, o313_24, o313_25, o82_0, o82_1, o82_4, o82_5, o82_8, o82_9, o82_12, o82_13, o82_14, o82_15, o82_16, o82_19, o210_0, o210_1, o210_2, o210_5, o210_8, o210_9, o210_12, o210_13, o210_14, o210_17, o210_20, o210_21, o210_24, o210_25, o210_26, o210_29, o210_32, o210_35, o210_36, o210_37, o210_38, o210_39, o210_40, o210_42, o210_44, o210_45, o210_48, o210_49, o210_52, o210_85, o210_86, o210_87, hx_313_1, hx_313_2, hx_313_3, c_X5_checkSlot, c_X8_isSlot, c_X8_isThrown, c_X5_checkFourth, c_X8_isFourth, c_X5_checkFilling, mc_pi, mc_pT, mi_pi, mi_pT, ml_pi, ml_pT, mr_pi, mr_pT, mz_pT, mcs_0, mcs_i, mcs_r, Kn_v, Kn_0, Kn_x, mrf_some, true_and, and_true, and_false, or_false, not_true_eq_false, not_false_eq_true, false_implies, forall_const, if_true, if_false, and_self, Nat.reduceLeDiff, Nat.reduceSub, Nat.reduceAdd, Nat.zero_le, Nat.le_refl, i10, lt_le, Classical.not_not, Sum.inl.injEq, Option.some.injEq, Value.int.injEq, exists_eq_left', Nat.reduceLT, i20, i30, kc0, kc14, kc22, kc28, kr0_5, kr22_5, kz, bf, bf2, pd, p4, s1, s2]
        intro t ht
        first | refine ⟨⟨?_, ?_, ?_, ?_, ?_, ?_, ?_, ?_, ?_, ?_, ?_, ?_⟩, rfl⟩ | refine ⟨?_, ?_, ?_, ?_, ?_, ?_, ?_, ?_, ?_, ?_, ?_, ?_⟩
        · (try simp only [K_pi])
          exact K_pT ht vk
        · (try simp only [Cn_pi_j22 hA, Cn_pT])
          exact vcn
        · (try simp only [Vq0_pi_j22 hA, Vq0_pT])
          exact v0
        · (try simp only [Vq1_pi_j22 hA, Vq1_pT])
          exact v1
        · (try simp only [Vq2_pi_j22 hA, Vq2_pT])
          exact v2
        · (try simp only [Vp_thr hA, Vp_pT])
          exact vp
        · (try simp only [Vl0_pi_j22 hA, Vl0_pT])
          exact vl0
        · (try simp only [Vl1_pi_j22 hA, Vl1_pT])
          exact vl1
        · (try simp only [Vlr_pi_j22 hA, Vlr_pT])
          exact vlr
        · (try simp only [Vsr_pi_j22 hA, Vsr_pT])
          exact vsr
        · (try simp only [Vc_pi_j22 hA, Vc_pT])
          exact vc
        · (try simp only [Tx_pi_j22 hA])
          exact Tx_pT ht tx
    · have f1 : ¬ f < 0 := fun z => bf (Or.inl z)
      have f2 : f < 4 := Classical.byContradiction fun z => bf (Or.inr z)
      have bf2 : (¬ f < 0 ∧ f < 4) = True := eq_true ⟨f1, f2⟩
      rcases pd with pd | pd
      · obtain ⟨e4, hlim, hP10, hq8⟩ := pD _ hpm pd
        simp only at e4 hlim hP10 hq8
        generalize hP : (g_i h (A 14) 4).toNatClampNeg = P at *
        obtain ⟨S, rfl, hS⟩ := s_nat s1 s2
        obtain ⟨F, rfl, hF⟩ := f_nat f1 f2
        have hvs : ∀ k, k < 36 → (g_l h (A 4) k).toInt32.toInt64 = g_l h (A 4) k := fun k hk => by rw [(vsr k hk).1, i64_back]
        have w4 : 4 - Int32.ofNat F = Int32.ofNat (4 - F) := n_sub (a := 4) (b := F) (by omega) (by decide)
        have w10 : 10 - Int32.ofNat P = Int32.ofNat (10 - P) := n_sub (a := 10) (b := P) (by omega) (by decide)
        by_cases hc : 10 - P < 4 - F
        · have wc : (Int32.ofNat (10 - P) < Int32.ofNat (4 - F)) = True := by rw [n_lt (by omega) (by omega)]; exact eq_true hc
          have hFn : F + (10 - P) ≤ 4 := by omega
          have hPn : P + (10 - P) ≤ 10 := by omega
          have hen : F + (10 - P) = 4 ∨ P + (10 - P) = 10 := by omega
          have hq9 := hq8 (10 - P) (List.mem_range.mpr (by omega)) hPn
          rw [← pd] at hq9
          simp only [o313_0, o313_1, o313_2, o313_3, o313_4, o313_7, o313_8, o313_11, o313_14, o313_16, o313_17, o313_18, o313_20, o313_21, o313_22, o313_24, o313_25, o313_26, o313_27, o82_0, o82_1, o82_4, o82_5, o82_8, o82_9, o82_12, o82_13, o82_14, o82_15, o82_16, o82_19, o82_22, o82_25, o82_26, o82_27, o82_59, o82_60, o82_63, o82_64, o82_67, o210_0, o210_1, o210_2, o210_5, o210_8, o210_9, o210_12, o210_13, o210_14, o210_17, o210_20, o210_21, o210_24, o210_25, o210_26, o210_29, o210_32, o210_35, o210_36, o210_37, o210_38, o210_39, o210_40, o210_85, o210_86, o210_87, o210_90, hx_313_1, hx_313_2, hx_313_3, c_X5_checkSlot, c_X8_isSlot, c_X8_isThrown, c_X5_checkFourth, c_X8_isFourth, c_X5_checkFilling, c_X3_rests, cpo_all (vs := hvs) (rw := A 2) (cs := A 4) (w := A 14) (n := (10 - P)) (P := P), mpo_all (sr := A 24) (w := A 28) (n := (10 - P)) (P := P), c_X0_done (cs := A 18), c_X8_done (cs := A 30), mc_pi, mc_pl, mc_pT, mn_pi, mn_pl, mn_pT, mi_pi, mi_pl, mi_pT, ml_pi, ml_pl, ml_pT, mr_pi, mr_pl, mr_pT, mz_pi, mz_pl, mz_pT, mcs_0, mcs_i, mcs_r, Kn_v, Kn_0, Kn_x, mrf_some, true_and, and_true, and_false, or_false, not_true_eq_false, not_false_eq_true, false_implies, implies_true, forall_const, if_true, if_false, and_self, Nat.reduceEqDiff, Nat.reduceLeDiff, Nat.reduceSub, Nat.reduceAdd, Nat.zero_le, Nat.le_refl, i10, i01, Kc_v, Sum.inl.injEq, Option.some.injEq, Value.int.injEq, exists_eq_left', Nat.reduceLT, hAe, i20, i30, kc0, kc2, kc4, kc14, kc17, kc18, kc22, kc24, kc28, kc30, kc39, kn4, kn18, kn24, kn30, kr0_1, kr0_5, kr0_9, kr2_0, kr14_0, kr17_0, kr22_1, kr22_5, kr22_8, kz, ki14_1, ki14_2, ki14_3, p1, p2, p4, hlim, e4, pd, f1, f2, s1, s2, hS, hFn, hPn, hen, w4, w10, wc, cpL_c, cpL_n, cpL_r, cpL_i, cpL_z, cpI_c, cpI_n, cpI_r, cpI_l, cpI_z, cpL_i, cpI_w, cpI_l]
          first | refine ⟨⟨?_, ?_, ?_, ?_, ?_, ?_, ?_, ?_, ?_, ?_, ?_, ?_⟩, rfl⟩ | refine ⟨?_, ?_, ?_, ?_, ?_, ?_, ?_, ?_, ?_, ?_, ?_, ?_⟩
          · (try simp only [K_pi, K_pl, K_cpI, K_cpL])
            exact vk
          · (try simp only [Cn_pi_j18 hA, Cn_pi_j22 hA, Cn_pi_j30 hA, Cn_14_4 hA, Cn_28_3 hA, Cn_pl, Cn_cpI24 hA, Cn_cpL4 hA])
            exact vcn
          · (try simp only [Vq0_pi_j18 hA, Vq0_pi_j22 hA, Vq0_pi_j30 hA, Vq0_pi_j14 hA, Vq0_pi_j28 hA, Vq0_pl, Vq0_cpI24 hA, Vq0_cpL4 hA])
            exact v0
          · (try simp only [Vq1_pi_j18 hA, Vq1_pi_j22 hA, Vq1_pi_j30 hA, Vq1_pi_j14 hA, Vq1_pi_j28 hA, Vq1_pl, Vq1_cpI24 hA, Vq1_cpL4 hA])
            exact v1
          · (try simp only [Vq2_pi_j18 hA, Vq2_pi_j22 hA, Vq2_pi_j30 hA, Vq2_pi_j14 hA, Vq2_pi_j28 hA, Vq2_pl, Vq2_cpI24 hA, Vq2_cpL4 hA])
            exact v2
          · simp only [Vp, mi_pi, mi_pl, hAe, Nat.reduceLT, Nat.reduceEqDiff, false_and, and_false, true_and, and_true, if_false, if_true, cpL_i, cpI_i, cpL_i, p1, p2, p3, p4, pco, true_and, and_self, hlim]
            first | exact hq9 | exact ⟨⟨rfl, rfl, rfl, rfl⟩, hq9⟩ | (refine ⟨⟨?_, ?_, ?_, ?_⟩, hq9⟩ <;> first | rfl | trivial)
          · (try simp only [Vl0_pi_j18 hA, Vl0_pi_j22 hA, Vl0_pi_j30 hA, Vl0_pi_j14 hA, Vl0_pi_j28 hA, Vl0_pl, Vl0_cpI24 hA, Vl0_cpL4 hA])
            exact vl0
          · (try simp only [Vl1_pi_j18 hA, Vl1_pi_j22 hA, Vl1_pi_j30 hA, Vl1_pi_j14 hA, Vl1_pi_j28 hA, Vl1_pl, Vl1_cpI24 hA, Vl1_cpL4 hA])
            exact vl1
          · (try simp only [Vlr_pi_j18 hA, Vlr_pi_j22 hA, Vlr_pi_j30 hA, Vlr_pi_j14 hA, Vlr_pi_j28 hA, Vlr_pl_j39 hA, Vlr_cpI24 hA, Vlr_cpL4 hA])
            exact vlr
          · refine Vsr_cp (d := 1 + P) (s := 11 + 4 * S + F) (n := (10 - P)) vsr (by omega) (fun k => ?_) (fun k => ?_) <;> simp only [mi_pi, mi_pl, ml_pi, ml_pl, hAe, Nat.reduceLT, Nat.reduceEqDiff, false_and, true_and, if_false, cpL_l, cpI_i, cpL_i, cpI_l]
          · refine Vc_of (c := 0) vc (by decide) (fun k => ?_) (fun k => ?_) <;> simp only [mi_pi, mi_pl, hAe, Nat.reduceLT, Nat.reduceEqDiff, false_and, true_and, if_false, cpL_i, cpI_i, cpL_i]
          · (try simp only [Tx_pi_j18 hA, Tx_pi_j22 hA, Tx_pi_j30 hA, Tx_pi_j14 hA, Tx_pi_j28 hA, Tx_pl, Tx_cpI24 hA, Tx_cpL4 hA])
            exact tx
        · have wc : (Int32.ofNat (10 - P) < Int32.ofNat (4 - F)) = False := by rw [n_lt (by omega) (by omega)]; exact eq_false hc
          have hFn : F + (4 - F) ≤ 4 := by omega
          have hPn : P + (4 - F) ≤ 10 := by omega
          have hen : F + (4 - F) = 4 ∨ P + (4 - F) = 10 := by omega
          have hq9 := hq8 (4 - F) (List.mem_range.mpr (by omega)) hPn
          rw [← pd] at hq9
          simp only [o313_0, o313_1, o313_2, o313_3, o313_4, o313_7, o313_8, o313_11, o313_14, o313_16, o313_17, o313_18, o313_20, o313_21, o313_22, o313_24, o313_25, o313_26, o313_27, o82_0, o82_1, o82_4, o82_5, o82_8, o82_9, o82_12, o82_13, o82_14, o82_15, o82_16, o82_19, o82_22, o82_25, o82_26, o82_27, o82_59, o82_60, o82_63, o82_64, o82_67, o210_0, o210_1, o210_2, o210_5, o210_8, o210_9, o210_12, o210_13, o210_14, o210_17, o210_20, o210_21, o210_24, o210_25, o210_26, o210_29, o210_32, o210_35, o210_36, o210_37, o210_38, o210_39, o210_40, o210_85, o210_86, o210_87, o210_90, hx_313_1, hx_313_2, hx_313_3, c_X5_checkSlot, c_X8_isSlot, c_X8_isThrown, c_X5_checkFourth, c_X8_isFourth, c_X5_checkFilling, c_X3_rests, cpo_all (vs := hvs) (rw := A 2) (cs := A 4) (w := A 14) (n := (4 - F)) (P := P), mpo_all (sr := A 24) (w := A 28) (n := (4 - F)) (P := P), c_X0_done (cs := A 18), c_X8_done (cs := A 30), mc_pi, mc_pl, mc_pT, mn_pi, mn_pl, mn_pT, mi_pi, mi_pl, mi_pT, ml_pi, ml_pl, ml_pT, mr_pi, mr_pl, mr_pT, mz_pi, mz_pl, mz_pT, mcs_0, mcs_i, mcs_r, Kn_v, Kn_0, Kn_x, mrf_some, true_and, and_true, and_false, or_false, not_true_eq_false, not_false_eq_true, false_implies, implies_true, forall_const, if_true, if_false, and_self, Nat.reduceEqDiff, Nat.reduceLeDiff, Nat.reduceSub, Nat.reduceAdd, Nat.zero_le, Nat.le_refl, i10, i01, Kc_v, Sum.inl.injEq, Option.some.injEq, Value.int.injEq, exists_eq_left', Nat.reduceLT, hAe, i20, i30, kc0, kc2, kc4, kc14, kc17, kc18, kc22, kc24, kc28, kc30, kc39, kn4, kn18, kn24, kn30, kr0_1, kr0_5, kr0_9, kr2_0, kr14_0, kr17_0, kr22_1, kr22_5, kr22_8, kz, ki14_1, ki14_2, ki14_3, p1, p2, p4, hlim, e4, pd, f1, f2, s1, s2, hS, hFn, hPn, hen, w4, w10, wc, cpL_c, cpL_n, cpL_r, cpL_i, cpL_z, cpI_c, cpI_n, cpI_r, cpI_l, cpI_z, cpL_i, cpI_w, cpI_l]
          first | refine ⟨⟨?_, ?_, ?_, ?_, ?_, ?_, ?_, ?_, ?_, ?_, ?_, ?_⟩, rfl⟩ | refine ⟨?_, ?_, ?_, ?_, ?_, ?_, ?_, ?_, ?_, ?_, ?_, ?_⟩
          · (try simp only [K_pi, K_pl, K_cpI, K_cpL])
            exact vk
          · (try simp only [Cn_pi_j18 hA, Cn_pi_j22 hA, Cn_pi_j30 hA, Cn_14_4 hA, Cn_28_3 hA, Cn_pl, Cn_cpI24 hA, Cn_cpL4 hA])
            exact vcn
          · (try simp only [Vq0_pi_j18 hA, Vq0_pi_j22 hA, Vq0_pi_j30 hA, Vq0_pi_j14 hA, Vq0_pi_j28 hA, Vq0_pl, Vq0_cpI24 hA, Vq0_cpL4 hA])
            exact v0
          · (try simp only [Vq1_pi_j18 hA, Vq1_pi_j22 hA, Vq1_pi_j30 hA, Vq1_pi_j14 hA, Vq1_pi_j28 hA, Vq1_pl, Vq1_cpI24 hA, Vq1_cpL4 hA])
            exact v1
          · (try simp only [Vq2_pi_j18 hA, Vq2_pi_j22 hA, Vq2_pi_j30 hA, Vq2_pi_j14 hA, Vq2_pi_j28 hA, Vq2_pl, Vq2_cpI24 hA, Vq2_cpL4 hA])
            exact v2
          · simp only [Vp, mi_pi, mi_pl, hAe, Nat.reduceLT, Nat.reduceEqDiff, false_and, and_false, true_and, and_true, if_false, if_true, cpL_i, cpI_i, cpL_i, p1, p2, p3, p4, pco, true_and, and_self, hlim]
            first | exact hq9 | exact ⟨⟨rfl, rfl, rfl, rfl⟩, hq9⟩ | (refine ⟨⟨?_, ?_, ?_, ?_⟩, hq9⟩ <;> first | rfl | trivial)
          · (try simp only [Vl0_pi_j18 hA, Vl0_pi_j22 hA, Vl0_pi_j30 hA, Vl0_pi_j14 hA, Vl0_pi_j28 hA, Vl0_pl, Vl0_cpI24 hA, Vl0_cpL4 hA])
            exact vl0
          · (try simp only [Vl1_pi_j18 hA, Vl1_pi_j22 hA, Vl1_pi_j30 hA, Vl1_pi_j14 hA, Vl1_pi_j28 hA, Vl1_pl, Vl1_cpI24 hA, Vl1_cpL4 hA])
            exact vl1
          · (try simp only [Vlr_pi_j18 hA, Vlr_pi_j22 hA, Vlr_pi_j30 hA, Vlr_pi_j14 hA, Vlr_pi_j28 hA, Vlr_pl_j39 hA, Vlr_cpI24 hA, Vlr_cpL4 hA])
            exact vlr
          · refine Vsr_cp (d := 1 + P) (s := 11 + 4 * S + F) (n := (4 - F)) vsr (by omega) (fun k => ?_) (fun k => ?_) <;> simp only [mi_pi, mi_pl, ml_pi, ml_pl, hAe, Nat.reduceLT, Nat.reduceEqDiff, false_and, true_and, if_false, cpL_l, cpI_i, cpL_i, cpI_l]
          · refine Vc_of (c := 0) vc (by decide) (fun k => ?_) (fun k => ?_) <;> simp only [mi_pi, mi_pl, hAe, Nat.reduceLT, Nat.reduceEqDiff, false_and, true_and, if_false, cpL_i, cpI_i, cpL_i]
          · (try simp only [Tx_pi_j18 hA, Tx_pi_j22 hA, Tx_pi_j30 hA, Tx_pi_j14 hA, Tx_pi_j28 hA, Tx_pl, Tx_cpI24 hA, Tx_cpL4 hA])
            exact tx
      · skip
        simp only [o313_0, o313_1, o313_2, o313_3, o313_4, o313_14, o313_16, o313_17, o313_18, o313_20, o313_21, o313_22, o313_24, o313_25, o82_0, o82_1, o82_4, o82_5, o82_8, o82_9, o82_12, o82_13, o82_14, o82_15, o82_16, o82_19, o210_0, o210_1, o210_2, o210_5, o210_8, o210_9, o210_12, o210_13, o210_14, o210_17, o210_20, o210_21, o210_24, o210_25, o210_26, o210_29, o210_32, o210_35, o210_36, o210_37, o210_38, o210_39, o210_40, o210_42, o210_44, o210_45, o210_48, o210_49, o210_52, o210_85, o210_86, o210_87, hx_313_1, hx_313_2, hx_313_3, c_X5_checkSlot, c_X8_isSlot, c_X8_isThrown, c_X5_checkFourth, c_X8_isFourth, c_X5_checkFilling, mc_pi, mc_pT, mi_pi, mi_pT, ml_pi, ml_pT, mr_pi, mr_pT, mz_pT, mcs_0, mcs_i, mcs_r, Kn_v, Kn_0, Kn_x, mrf_some, true_and, and_true, and_false, or_false, not_true_eq_false, not_false_eq_true, false_implies, forall_const, if_true, if_false, and_self, Nat.reduceLeDiff, Nat.reduceSub, Nat.reduceAdd, Nat.zero_le, Nat.le_refl, i10, lt_le, Sum.inl.injEq, Option.some.injEq, Value.int.injEq, exists_eq_left', Nat.reduceLT, i20, i30, kc0, kc14, kc22, kc28, kr0_5, kr22_5, kz, p4, f1, f2, pd, s1, s2]
        intro t ht
        first | refine ⟨⟨?_, ?_, ?_, ?_, ?_, ?_, ?_, ?_, ?_, ?_, ?_, ?_⟩, rfl⟩ | refine ⟨?_, ?_, ?_, ?_, ?_, ?_, ?_, ?_, ?_, ?_, ?_, ?_⟩
        · (try simp only [K_pi])
          exact K_pT ht vk
        · (try simp only [Cn_pi_j22 hA, Cn_pT])
          exact vcn
        · (try simp only [Vq0_pi_j22 hA, Vq0_pT])
          exact v0
        · (try simp only [Vq1_pi_j22 hA, Vq1_pT])
          exact v1
        · (try simp only [Vq2_pi_j22 hA, Vq2_pT])
          exact v2
        · (try simp only [Vp_thr hA, Vp_pT])
          exact vp
        · (try simp only [Vl0_pi_j22 hA, Vl0_pT])
          exact vl0
        · (try simp only [Vl1_pi_j22 hA, Vl1_pT])
          exact vl1
        · (try simp only [Vlr_pi_j22 hA, Vlr_pT])
          exact vlr
        · (try simp only [Vsr_pi_j22 hA, Vsr_pT])
          exact vsr
        · (try simp only [Vc_pi_j22 hA, Vc_pT])
          exact vc
        · (try simp only [Tx_pi_j22 hA])
          exact Tx_pT ht tx


theorem hx_315_1 {l rest : List Value} {bc bs : Nat} {Q : MR → MH → Prop} {h : MH} : Kc Ok 315 3 6 l rest bc bs Q (.inr 1) h ↔ ∀ q : Nat, Ok 315 13 l [.ref q] h bc bs Q := Kc_x (by decide +kernel) (by decide +kernel)
theorem hx_315_3 {l rest : List Value} {bc bs : Nat} {Q : MR → MH → Prop} {h : MH} : Kc Ok 315 3 6 l rest bc bs Q (.inr 3) h ↔ ∀ q : Nat, Ok 315 16 l [.ref q] h bc bs Q := Kc_x (by decide +kernel) (by decide +kernel)
theorem op_drawAll {A : Nat → Nat} {h : MH} (R : Rl A h) {s : Int32} : Ok 315 0 [.ref (A 0), .int s, .ref (A 39), mk0] [] h 2 12 (fun r h1 => ∃ k : Int32, r = .inl (some (.int k)) ∧ g_c h1 (A 22) = 9 ∧ Ok 212 0 [.ref (A 22), .int s, mk0, mk0] [] h1 0 0 (fun r2 h2 => ∃ b : Int32, r2 = .inl (some (.int b)) ∧ Rl A h2 ∧ g_i h2 (A 22) 9 = k ∧ (k = 0 → g_l h2 (A 39) 0 = b.toInt64))) := by
  obtain ⟨vk, vcn, v0, v1, v2, vp, vl0, vl1, vlr, vsr, vc, tx⟩ := R
  have vk0 := vk
  have vcn0 := vcn
  (refine K_el vk0 ?_; intros hA kc0 kc1 kc2 kc3 kc4 kc5 kc6 kc7 kc8 kc9 kc10 kc11 kc12 kc13 kc14 kc15 kc16 kc17 kc18 kc19 kc20 kc21 kc22 kc23 kc24 kc25 kc26 kc27 kc28 kc29 kc30 kc31 kc32 kc33 kc34 kc35 kc36 kc37 kc38 kc39 kz kt kn3 kn4 kn18 kn21 kn23 kn24 kn25 kn26 kn27 kn29 kn30 kr0_0 kr0_1 kr0_2 kr0_3 kr0_4 kr0_5 kr0_7 kr0_8 kr0_9 kr0_10 kr1_0 kr2_0 kr5_0 kr5_1 kr6_0 kr6_1 kr7_0 kr7_1 kr8_0 kr9_0 kr10_0 kr11_0 kr12_0 kr13_0 kr14_0 kr15_0 kr16_0 kr17_0 kr19_0 kr19_1 kr22_0 kr22_1 kr22_2 kr22_3 kr22_4 kr22_5 kr22_7 kr22_8 kr25_0 kr25_1 kr25_2 kr26_0 kr26_1 kr26_2 kr29_0 kr29_1)
  (refine Cn_el vcn0 ?_; intros ki5_2 ki6_2 ki7_2 ki8_1 ki8_2 ki8_3 ki9_1 ki9_2 ki9_3 ki10_1 ki10_2 ki10_3 ki11_1 ki11_2 ki11_3 ki12_1 ki12_2 ki12_3 ki13_1 ki13_2 ki13_3 ki14_1 ki14_2 ki14_3 ki28_0 ki28_1 ki31_0 ki31_1 ki32_0 ki32_1 ki33_0 ki33_1 ki34_0 ki34_1 ki35_0 ki35_1 ki36_0 ki36_1)
  have hAe : ∀ i j, i < 40 → j < 40 → (A i = A j ↔ i = j) := hA
  have hp2 := vp
  obtain ⟨⟨p1, p2, p3, p4⟩, hpm⟩ := hp2
  replace p1 := p1.symm
  replace p2 := p2.symm
  replace p3 := p3.symm
  replace p4 := p4.symm
  rw [p1, p2, p3, p4] at hpm
  obtain ⟨pm, pd⟩ := pA _ hpm
  simp only at pm pd
  by_cases bs : s < 0 ∨ ¬ s < 6
  · have bs2 : (¬ s < 0 ∧ s < 6) = False := nrng bs
    rcases pd with pd | pd
    all_goals
      simp only [o315_0, o315_1, o315_2, o315_3, o315_13, o315_14, o315_15, o315_16, o315_17, o315_18, o84_0, o84_1, o84_4, o84_5, o84_8, o84_9, o84_12, o212_0, o212_1, o212_2, o212_5, o212_8, o212_9, o212_12, o212_13, o212_14, o212_17, o212_20, o212_21, o212_24, o212_25, o212_28, o212_31, o212_32, o212_33, o212_34, o212_37, hx_315_1, hx_315_3, c_X5_checkSlot, c_X8_isSlot, c_X8_isThrown_, c_X5_checkDraining, mc_pi, mc_pT, mi_pi, mi_pT, ml_pi, ml_pT, mr_pi, mr_pT, mz_pT, mcs_0, mcs_r, Kn_v, Kn_0, Kn_x, mrf_some, true_and, and_true, not_true_eq_false, not_false_eq_true, false_implies, forall_const, if_true, if_false, and_self, Nat.reduceLeDiff, Nat.reduceSub, Nat.reduceAdd, Nat.zero_le, Nat.le_refl, i10, Sum.inl.injEq, Option.some.injEq, Value.int.injEq, exists_eq_left', Nat.reduceLT, i20, kc0, kc14, kc22, kc28, kr0_5, kr22_5, kz, bs, bs2, pd, p4]
      intro t ht
      first | refine ⟨⟨?_, ?_, ?_, ?_, ?_, ?_, ?_, ?_, ?_, ?_, ?_, ?_⟩, rfl⟩ | refine ⟨?_, ?_, ?_, ?_, ?_, ?_, ?_, ?_, ?_, ?_, ?_, ?_⟩
      · (try simp only [K_pi])
        exact K_pT ht vk
      · (try simp only [Cn_pi_j22 hA, Cn_pT])
        exact vcn
      · (try simp only [Vq0_pi_j22 hA, Vq0_pT])
        exact v0
      · (try simp only [Vq1_pi_j22 hA, Vq1_pT])
        exact v1
      · (try simp only [Vq2_pi_j22 hA, Vq2_pT])
        exact v2
      · (try simp only [Vp_thr hA, Vp_pT])
        exact vp
      · (try simp only [Vl0_pi_j22 hA, Vl0_pT])
        exact vl0
      · (try simp only [Vl1_pi_j22 hA, Vl1_pT])
        exact vl1
      · (try simp only [Vlr_pi_j22 hA, Vlr_pT])
        exact vlr
      · (try simp only [Vsr_pi_j22 hA, Vsr_pT])
        exact vsr
      · (try simp only [Vc_pi_j22 hA, Vc_pT])
        exact vc
      · (try simp only [Tx_pi_j22 hA])
        exact Tx_pT ht tx
  · have s1 : ¬ s < 0 := fun z => bs (Or.inl z)
    have s2 : s < 6 := Classical.byContradiction fun z => bs (Or.inr z)
    have hs := ix_ok s1 s2
    have hs2 := hs
    obtain ⟨⟨j0, j1, j2, j3⟩, d01, d02, d03, d10, d12, d13, d20, d21, d23, d30, d31, d32⟩ := hs2
    obtain ⟨l0, l1, l2, l3⟩ := ix_lt hs
    have vs0 := (vsr _ l0).1
    have vs1 := (vsr _ l1).1
    have vs2 := (vsr _ l2).1
    have vs3 := (vsr _ l3).1
    have bs2 : (¬ s < 0 ∧ s < 6) = True := eq_true ⟨s1, s2⟩
    rcases pd with pd | pd
    · skip
      simp only [o315_0, o315_1, o315_2, o315_3, o315_13, o315_14, o315_15, o315_16, o315_17, o315_18, o84_0, o84_1, o84_4, o84_5, o84_8, o84_9, o84_12, o212_0, o212_1, o212_2, o212_5, o212_8, o212_9, o212_12, o212_13, o212_14, o212_17, o212_20, o212_21, o212_24, o212_25, o212_28, o212_31, o212_32, o212_33, o212_34, o212_37, hx_315_1, hx_315_3, c_X5_checkSlot, c_X8_isSlot, c_X8_isThrown_, c_X5_checkDraining, mc_pi, mc_pT, mi_pi, mi_pT, ml_pi, ml_pT, mr_pi, mr_pT, mz_pT, mcs_0, mcs_r, Kn_v, Kn_0, Kn_x, mrf_some, true_and, and_true, and_false, or_false, not_true_eq_false, not_false_eq_true, false_implies, forall_const, if_true, if_false, and_self, Nat.reduceLeDiff, Nat.reduceSub, Nat.reduceAdd, Nat.zero_le, Nat.le_refl, i10, Sum.inl.injEq, Option.some.injEq, Value.int.injEq, exists_eq_left', Nat.reduceLT, i20, kc0, kc14, kc22, kc28, kr0_5, kr22_5, kz, p4, pd, s1, s2]
      intro t ht
      first | refine ⟨⟨?_, ?_, ?_, ?_, ?_, ?_, ?_, ?_, ?_, ?_, ?_, ?_⟩, rfl⟩ | refine ⟨?_, ?_, ?_, ?_, ?_, ?_, ?_, ?_, ?_, ?_, ?_, ?_⟩
      · (try simp only [K_pi])
        exact K_pT ht vk
      · (try simp only [Cn_pi_j22 hA, Cn_pT])
        exact vcn
      · (try simp only [Vq0_pi_j22 hA, Vq0_pT])
        exact v0
      · (try simp only [Vq1_pi_j22 hA, Vq1_pT])
        exact v1
      · (try simp only [Vq2_pi_j22 hA, Vq2_pT])
        exact v2
      · (try simp only [Vp_thr hA, Vp_pT])
        exact vp
      · (try simp only [Vl0_pi_j22 hA, Vl0_pT])
        exact vl0
      · (try simp only [Vl1_pi_j22 hA, Vl1_pT])
        exact vl1
      · (try simp only [Vlr_pi_j22 hA, Vlr_pT])
        exact vlr
      · (try simp only [Vsr_pi_j22 hA, Vsr_pT])
        exact vsr
      · (try simp only [Vc_pi_j22 hA, Vc_pT])
        exact vc
      · (try simp only [Tx_pi_j22 hA])
        exact Tx_pT ht tx
    · obtain ⟨e4, e5, hPL, hL10, hq8⟩ := pE _ hpm pd
      simp only at e4 e5 hPL hL10 hq8
      generalize hP : (g_i h (A 14) 4).toNatClampNeg = P at *
      generalize hL : (g_i h (A 14) 5).toNatClampNeg = L at *
      obtain ⟨S, rfl, hS⟩ := s_nat s1 s2
      have wr : Int32.ofNat L - Int32.ofNat P = Int32.ofNat (L - P) := n_sub hPL (by omega)
      have hvk : oL h (A 4) (11 + 4 * S) (1 + P) 4 = oI h (A 24) (11 + 4 * S) (1 + P) 4 ∨ ¬ P + 4 ≤ L := by
        by_cases z : P + 4 ≤ L
        · exact Or.inl (oLI vsr (fun _ => rfl) 4 (by omega) (by omega))
        · exact Or.inr z
      by_cases hc : L - P < 4
      · have wc : (Int32.ofNat (L - P) < 4) = True := by rw [show (4 : Int32) = Int32.ofNat 4 from rfl, n_lt (by omega) (by omega)]; exact eq_true hc
        simp only [o315_0, o315_1, o315_2, o315_3, o315_6, o315_7, o315_10, o315_13, o315_14, o315_15, o315_16, o315_17, o315_18, o315_19, o315_20, o84_0, o84_1, o84_4, o84_5, o84_8, o84_9, o84_12, o84_15, o84_16, o84_19, o84_20, o84_23, o84_24, o84_27, o84_28, o84_29, o84_30, o84_31, o84_32, o84_33, o84_34, o84_37, o84_38, o84_39, o84_40, o84_41, o84_42, o84_45, o84_67, o84_68, o84_71, o84_72, o212_0, o212_1, o212_2, o212_5, o212_8, o212_9, o212_12, o212_13, o212_14, o212_17, o212_20, o212_21, o212_24, o212_25, o212_28, o212_31, o212_32, o212_33, o212_34, o212_37, o212_40, o212_41, o212_44, o212_45, o212_46, o212_49, o212_50, o212_51, o212_52, o212_53, o212_54, o212_55, o212_56, o212_59, o212_60, o212_61, o212_63, o212_64, o212_65, o212_66, o212_67, o212_68, o212_69, o212_70, o212_84, o212_85, o212_86, hx_315_1, hx_315_3, c_X5_checkSlot, c_X8_isSlot, c_X8_isThrown_, c_X5_checkDraining, c_X3_rests, c_X7_rests, c_ref_2 (cs := A 18), c_X8_no (cs := A 30), mc_pi, mc_pl, mc_pT, mn_pi, mn_pl, mn_pT, mi_pi, mi_pl, mi_pT, ml_pi, ml_pl, ml_pT, mr_pi, mr_pl, mr_pT, mz_pi, mz_pl, mz_pT, mcs_0, mcs_i, mcs_r, Kn_v, Kn_0, Kn_x, mrf_some, true_and, and_true, and_false, or_false, not_true_eq_false, not_false_eq_true, false_implies, implies_true, forall_const, if_true, if_false, and_self, Nat.reduceEqDiff, Nat.reduceLeDiff, Nat.reduceSub, Nat.reduceAdd, Nat.zero_le, Nat.le_refl, i10, i01, lt_le, Int32.reduceLT, Int32.reduceSub, cl2, Kc_v, Sum.inl.injEq, Option.some.injEq, Value.int.injEq, exists_eq_left', Nat.reduceLT, hAe, i20, kc0, kc14, kc17, kc18, kc22, kc28, kc30, kc39, kn18, kn30, kr0_5, kr0_9, kr17_0, kr22_5, kr22_8, kz, p1, p2, p4, e4, e5, pd, s1, s2, wr, wc, v18, cl2]
        first | refine ⟨⟨?_, ?_, ?_, ?_, ?_, ?_, ?_, ?_, ?_, ?_, ?_, ?_⟩, rfl⟩ | refine ⟨?_, ?_, ?_, ?_, ?_, ?_, ?_, ?_, ?_, ?_, ?_, ?_⟩
        · (try simp only [K_pi, K_pl])
          exact vk
        · (try simp only [Cn_pi_j18 hA, Cn_pi_j22 hA, Cn_pi_j30 hA, Cn_pl])
          exact vcn
        · (try simp only [Vq0_pi_j18 hA, Vq0_pi_j22 hA, Vq0_pi_j30 hA, Vq0_pl])
          exact v0
        · (try simp only [Vq1_pi_j18 hA, Vq1_pi_j22 hA, Vq1_pi_j30 hA, Vq1_pl])
          exact v1
        · (try simp only [Vq2_pi_j18 hA, Vq2_pi_j22 hA, Vq2_pi_j30 hA, Vq2_pl])
          exact v2
        · (try simp only [Vp_pi_j18 hA, Vp_pi_j30 hA, Vp_thr hA, Vp_pl])
          exact vp
        · (try simp only [Vl0_pi_j18 hA, Vl0_pi_j22 hA, Vl0_pi_j30 hA, Vl0_pl])
          exact vl0
        · (try simp only [Vl1_pi_j18 hA, Vl1_pi_j22 hA, Vl1_pi_j30 hA, Vl1_pl])
          exact vl1
        · (try simp only [Vlr_pi_j18 hA, Vlr_pi_j22 hA, Vlr_pi_j30 hA, Vlr_pl_j39 hA])
          exact vlr
        · (try simp only [Vsr_pi_j18 hA, Vsr_pi_j22 hA, Vsr_pi_j30 hA, Vsr_pl_j39 hA])
          exact vsr
        · refine Vc_of (c := 2) vc (by decide) (fun k => ?_) (fun k => ?_) <;> simp only [mi_pi, mi_pl, hAe, Nat.reduceLT, Nat.reduceEqDiff, false_and, true_and, if_false, pco]
        · (try simp only [Tx_pi_j18 hA, Tx_pi_j22 hA, Tx_pi_j30 hA, Tx_pl])
          exact tx
      · have wc : (Int32.ofNat (L - P) < 4) = False := by rw [show (4 : Int32) = Int32.ofNat 4 from rfl, n_lt (by omega) (by omega)]; exact eq_false hc
        have hPn : P + 4 ≤ L := by omega
        have hv2 := hvk.resolve_right (fun z => z hPn)
        have hq9 := hq8 4 (by decide) hPn
        rw [← pd, e5] at hq9
        simp only [o315_0, o315_1, o315_2, o315_3, o315_6, o315_7, o315_10, o315_13, o315_14, o315_15, o315_16, o315_17, o315_18, o315_19, o315_20, o84_0, o84_1, o84_4, o84_5, o84_8, o84_9, o84_12, o84_15, o84_16, o84_19, o84_20, o84_23, o84_24, o84_28, o84_29, o84_30, o84_31, o84_67, o84_68, o84_71, o84_72, o84_75, o212_0, o212_1, o212_2, o212_5, o212_8, o212_9, o212_12, o212_13, o212_14, o212_17, o212_20, o212_21, o212_24, o212_25, o212_28, o212_31, o212_32, o212_33, o212_34, o212_37, o212_40, o212_41, o212_44, o212_45, o212_46, o212_50, o212_51, o212_52, o212_53, o212_84, o212_85, o212_86, o212_89, hx_315_1, hx_315_3, c_X5_checkSlot, c_X8_isSlot, c_X8_isThrown_, c_X5_checkDraining, c_X3_rests, c_X7_rests, cdr_all (rw := A 2) (cs := A 4) (w := A 14) (P := P) (L := L), mdr_all (sr := A 24) (w := A 28) (P := P) (L := L), c_X0_done (cs := A 18), c_X8_done (cs := A 30), mc_pi, mc_pl, mc_pT, mn_pi, mn_pl, mn_pT, mi_pi, mi_pl, mi_pT, ml_pi, ml_pl, ml_pT, mr_pi, mr_pl, mr_pT, mz_pi, mz_pl, mz_pT, mcs_0, mcs_r, Kn_v, Kn_0, Kn_x, mrf_some, true_and, and_true, and_false, or_false, not_true_eq_false, not_false_eq_true, false_implies, implies_true, forall_const, if_true, if_false, and_self, Nat.reduceEqDiff, Nat.reduceLeDiff, Nat.reduceSub, Nat.reduceAdd, Nat.zero_le, Nat.le_refl, i10, i01, lt_le, Kc_v, Sum.inl.injEq, Option.some.injEq, Value.int.injEq, exists_eq_left', Nat.reduceLT, hAe, i20, kc0, kc2, kc4, kc14, kc17, kc18, kc22, kc24, kc28, kc30, kc39, kn4, kn18, kn24, kn30, kr0_1, kr0_5, kr0_9, kr2_0, kr14_0, kr17_0, kr22_1, kr22_5, kr22_8, kz, ki14_1, ki14_2, p1, p2, p4, e4, e5, pd, s1, s2, hS, hPn, hL10, wr, wc, hv2, cpL_c, cpL_n, cpL_r, cpL_i, cpL_z, cpI_c, cpI_n, cpI_r, cpI_l, cpI_z, cpL_i, cpI_w, cpI_l, oI_pi, oI_pl, oI_cp]
        first | refine ⟨⟨?_, ?_, ?_, ?_, ?_, ?_, ?_, ?_, ?_, ?_, ?_, ?_⟩, rfl⟩ | refine ⟨?_, ?_, ?_, ?_, ?_, ?_, ?_, ?_, ?_, ?_, ?_, ?_⟩
        · (try simp only [K_pi, K_pl, K_cpI, K_cpL])
          exact vk
        · (try simp only [Cn_pi_j18 hA, Cn_pi_j22 hA, Cn_pi_j30 hA, Cn_14_4 hA, Cn_28_3 hA, Cn_pl, Cn_cpI24 hA, Cn_cpL4 hA])
          exact vcn
        · (try simp only [Vq0_pi_j18 hA, Vq0_pi_j22 hA, Vq0_pi_j30 hA, Vq0_pi_j14 hA, Vq0_pi_j28 hA, Vq0_pl, Vq0_cpI24 hA, Vq0_cpL4 hA])
          exact v0
        · (try simp only [Vq1_pi_j18 hA, Vq1_pi_j22 hA, Vq1_pi_j30 hA, Vq1_pi_j14 hA, Vq1_pi_j28 hA, Vq1_pl, Vq1_cpI24 hA, Vq1_cpL4 hA])
          exact v1
        · (try simp only [Vq2_pi_j18 hA, Vq2_pi_j22 hA, Vq2_pi_j30 hA, Vq2_pi_j14 hA, Vq2_pi_j28 hA, Vq2_pl, Vq2_cpI24 hA, Vq2_cpL4 hA])
          exact v2
        · simp only [Vp, mi_pi, mi_pl, hAe, Nat.reduceLT, Nat.reduceEqDiff, false_and, and_false, true_and, and_true, if_false, if_true, cpL_i, cpI_i, cpL_i, p1, p2, p3, p4, pco, true_and, and_self, e5]
          first | exact hq9 | exact ⟨⟨rfl, rfl, rfl, rfl⟩, hq9⟩ | (refine ⟨⟨?_, ?_, ?_, ?_⟩, hq9⟩ <;> first | rfl | trivial)
        · (try simp only [Vl0_pi_j18 hA, Vl0_pi_j22 hA, Vl0_pi_j30 hA, Vl0_pi_j14 hA, Vl0_pi_j28 hA, Vl0_pl, Vl0_cpI24 hA, Vl0_cpL4 hA])
          exact vl0
        · (try simp only [Vl1_pi_j18 hA, Vl1_pi_j22 hA, Vl1_pi_j30 hA, Vl1_pi_j14 hA, Vl1_pi_j28 hA, Vl1_pl, Vl1_cpI24 hA, Vl1_cpL4 hA])
          exact vl1
        · (try simp only [Vlr_pi_j18 hA, Vlr_pi_j22 hA, Vlr_pi_j30 hA, Vlr_pi_j14 hA, Vlr_pi_j28 hA, Vlr_pl_j39 hA, Vlr_cpI24 hA, Vlr_cpL4 hA])
          exact vlr
        · refine Vsr_cp (d := 11 + 4 * S) (s := 1 + P) (n := 4) vsr (by omega) (fun k => ?_) (fun k => ?_) <;> simp only [mi_pi, mi_pl, ml_pi, ml_pl, hAe, Nat.reduceLT, Nat.reduceEqDiff, false_and, true_and, if_false, cpL_l, cpI_i, cpL_i, cpI_l]
        · refine Vc_of (c := 0) vc (by decide) (fun k => ?_) (fun k => ?_) <;> simp only [mi_pi, mi_pl, hAe, Nat.reduceLT, Nat.reduceEqDiff, false_and, true_and, if_false, cpL_i, cpI_i, cpL_i]
        · (try simp only [Tx_pi_j18 hA, Tx_pi_j22 hA, Tx_pi_j30 hA, Tx_pi_j14 hA, Tx_pi_j28 hA, Tx_pl, Tx_cpI24 hA, Tx_cpL4 hA])
          exact tx


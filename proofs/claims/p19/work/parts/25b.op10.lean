theorem op_turn {A : Nat → Nat} {h : MH} (R : Rl A h) : Ok 85 0 [.ref (A 0)] [] h 0 0 (fun r h1 => ∃ k : Int32, r = .inl (some (.int k)) ∧ g_c h1 (A 22) = 9 ∧ Ok 214 0 [.ref (A 22)] [] h1 0 0 (fun r2 h2 => ∃ b : Int32, r2 = .inl (some (.int b)) ∧ Rl A h2 ∧ g_i h2 (A 22) 9 = 0 ∧ k = b)) := by
  obtain ⟨vk, vcn, v0, v1, v2, vp, vl0, vl1, vlr, vsr, vc, tx⟩ := R
  have vk0 := vk
  have vcn0 := vcn
  (refine K_el vk0 ?_; intros hA kc0 kc1 kc2 kc3 kc4 kc5 kc6 kc7 kc8 kc9 kc10 kc11 kc12 kc13 kc14 kc15 kc16 kc17 kc18 kc19 kc20 kc21 kc22 kc23 kc24 kc25 kc26 kc27 kc28 kc29 kc30 kc31 kc32 kc33 kc34 kc35 kc36 kc37 kc38 kc39 kz kt kn3 kn4 kn18 kn21 kn23 kn24 kn25 kn26 kn27 kn29 kn30 kr0_0 kr0_1 kr0_2 kr0_3 kr0_4 kr0_5 kr0_7 kr0_8 kr0_9 kr0_10 kr1_0 kr2_0 kr5_0 kr5_1 kr6_0 kr6_1 kr7_0 kr7_1 kr8_0 kr9_0 kr10_0 kr11_0 kr12_0 kr13_0 kr14_0 kr15_0 kr16_0 kr17_0 kr19_0 kr19_1 kr22_0 kr22_1 kr22_2 kr22_3 kr22_4 kr22_5 kr22_7 kr22_8 kr25_0 kr25_1 kr25_2 kr26_0 kr26_1 kr26_2 kr29_0 kr29_1)
  (refine Cn_el vcn0 ?_; intros ki5_2 ki6_2 ki7_2 ki8_1 ki8_2 ki8_3 ki9_1 ki9_2 ki9_3 ki10_1 ki10_2 ki10_3 ki11_1 ki11_2 ki11_3 ki12_1 ki12_2 ki12_3 ki13_1 ki13_2 ki13_3 ki14_1 ki14_2 ki14_3 ki28_0 ki28_1 ki31_0 ki31_1 ki32_0 ki32_1 ki33_0 ki33_1 ki34_0 ki34_1 ki35_0 ki35_1 ki36_0 ki36_1)
  have hAe : ∀ i j, i < 40 → j < 40 → (A i = A j ↔ i = j) := hA
  have hp2 := vp
  obtain ⟨⟨p1, p2, p3, p4⟩, hpm⟩ := hp2
  replace p1 := p1.symm
  replace p2 := p2.symm
  replace p3 := p3.symm
  replace p4 := p4.symm
  rw [p1, p2, p3, p4] at hpm
  obtain ⟨pm, pd⟩ := pA _ hpm
  simp only at pm pd
  obtain ⟨e4, e5, hPL, hL10, hq8, hq9⟩ := pN _ hpm
  simp only at e4 e5 hPL hL10 hq8 hq9
  rcases pd with pd | pd
  · have hq9 := hq8
    simp only [o85_0, o85_1, o85_4, o85_7, o85_8, o85_11, o85_17, o85_18, o85_21, o85_24, o85_25, o85_26, o85_29, o85_32, o85_33, o85_36, o85_37, o85_40, o85_41, o85_44, o85_45, o85_48, o85_51, o85_54, o214_0, o214_1, o214_2, o214_5, o214_6, o214_9, o214_12, o214_13, o214_14, o214_17, o214_23, o214_24, o214_27, o214_30, o214_31, o214_32, o214_35, o214_38, o214_39, o214_42, o214_43, o214_46, o214_47, o214_48, o214_51, o214_54, o214_57, c_X3_flip, c_X7_flipped, c_X3_rests, c_X7_rests, c_X0_done (cs := A 18), c_X8_done (cs := A 30), mc_pi, mn_pi, mi_pi, mr_pi, mz_pi, mcs_0, mcs_r, Kn_v, Kn_0, mrf_some, kok_0, true_and, and_true, and_false, not_true_eq_false, false_implies, forall_const, if_true, if_false, and_self, Nat.reduceEqDiff, Nat.reduceLeDiff, Nat.reduceAdd, Nat.zero_le, kz0, kz1, Sum.inl.injEq, Option.some.injEq, Value.int.injEq, exists_eq_left', Nat.reduceLT, hAe, kc0, kc14, kc17, kc18, kc22, kc28, kc30, kn18, kn30, kr0_5, kr0_9, kr17_0, kr22_5, kr22_8, kz, p1, p2, p4, pco, pd, kz1, kz0]
    first | refine ⟨⟨?_, ?_, ?_, ?_, ?_, ?_, ?_, ?_, ?_, ?_, ?_, ?_⟩, rfl⟩ | refine ⟨?_, ?_, ?_, ?_, ?_, ?_, ?_, ?_, ?_, ?_, ?_, ?_⟩
    · (try simp only [K_pi])
      exact vk
    · (try simp only [Cn_pi_j18 hA, Cn_pi_j22 hA, Cn_pi_j30 hA, Cn_pi_j0 hA, Cn_14_4 hA, Cn_14_5 hA, Cn_14_6 hA, Cn_28_3 hA, Cn_28_4 hA, Cn_28_5 hA])
      exact vcn
    · (try simp only [Vq0_pi_j18 hA, Vq0_pi_j22 hA, Vq0_pi_j30 hA, Vq0_pi_j14 hA, Vq0_pi_j28 hA, Vq0_pi_j0 hA])
      exact v0
    · (try simp only [Vq1_pi_j18 hA, Vq1_pi_j22 hA, Vq1_pi_j30 hA, Vq1_pi_j14 hA, Vq1_pi_j28 hA, Vq1_pi_j0 hA])
      exact v1
    · (try simp only [Vq2_pi_j18 hA, Vq2_pi_j22 hA, Vq2_pi_j30 hA, Vq2_pi_j14 hA, Vq2_pi_j28 hA, Vq2_pi_j0 hA])
      exact v2
    · simp only [Vp, mi_pi, hAe, Nat.reduceLT, Nat.reduceEqDiff, and_false, true_and, and_true, if_false, if_true, p1, p2, p3, p4, true_and, and_self]
      first | exact hq9 | exact ⟨⟨rfl, rfl, rfl, rfl⟩, hq9⟩ | (refine ⟨⟨?_, ?_, ?_, ?_⟩, hq9⟩ <;> first | rfl | trivial)
    · (try simp only [Vl0_pi_j18 hA, Vl0_pi_j22 hA, Vl0_pi_j30 hA, Vl0_pi_j14 hA, Vl0_pi_j28 hA, Vl0_pi_j0 hA])
      exact vl0
    · (try simp only [Vl1_pi_j18 hA, Vl1_pi_j22 hA, Vl1_pi_j30 hA, Vl1_pi_j14 hA, Vl1_pi_j28 hA, Vl1_pi_j0 hA])
      exact vl1
    · (try simp only [Vlr_pi_j18 hA, Vlr_pi_j22 hA, Vlr_pi_j30 hA, Vlr_pi_j14 hA, Vlr_pi_j28 hA, Vlr_pi_j0 hA])
      exact vlr
    · (try simp only [Vsr_pi_j18 hA, Vsr_pi_j22 hA, Vsr_pi_j30 hA, Vsr_pi_j14 hA, Vsr_pi_j28 hA, Vsr_pi_j0 hA])
      exact vsr
    · refine Vc_of (c := 0) vc (by decide) (fun k => ?_) (fun k => ?_) <;> simp only [mi_pi, hAe, Nat.reduceLT, Nat.reduceEqDiff, false_and, true_and, if_false, pco]
    · (try simp only [Tx_pi_j18 hA, Tx_pi_j22 hA, Tx_pi_j30 hA, Tx_pi_j14 hA, Tx_pi_j28 hA, Tx_pi_j0 hA])
      exact tx
  · generalize hP : (g_i h (A 14) 4).toNatClampNeg = P at *
    generalize hL : (g_i h (A 14) 5).toNatClampNeg = L at *
    have c0 : (36 : Nat) < 1000 := by decide
    have c1 : 1 + L ≤ 36 := by omega
    have c2 : ¬ A 28 = A 24 := fun z => absurd ((hAe 28 24 (by decide) (by decide)).mp z) (by decide)
    simp only [o85_0, o85_1, o85_4, o85_7, o85_8, o85_11, o85_14, o85_17, o85_18, o85_21, o85_24, o85_25, o85_26, o85_29, o85_32, o85_33, o85_36, o85_37, o85_40, o85_41, o85_44, o85_45, o85_48, o85_51, o85_54, o214_0, o214_1, o214_2, o214_5, o214_6, o214_9, o214_12, o214_13, o214_14, o214_17, o214_20, o214_23, o214_24, o214_27, o214_30, o214_31, o214_32, o214_35, o214_38, o214_39, o214_42, o214_43, o214_46, o214_47, o214_48, o214_51, o214_54, o214_57, c_X3_compact (rw := A 2) (cs := A 4) (R := 36) (F := 1) (N := 10) (P := P) (L := L), c_X8_compacted (sr := A 24) (F := 1) (P := P) (L := L), c_X3_rests, c_X7_rests, c_X0_done (cs := A 18), c_X8_done (cs := A 30), mc_pi, mn_pi, mi_pi, mr_pi, mz_pi, mcs_0, mcs_r, Kn_v, Kn_0, mrf_some, kok_0, true_and, and_true, false_and, and_false, not_false_eq_true, false_implies, forall_const, if_true, if_false, and_self, Nat.reduceEqDiff, Nat.reduceLeDiff, Nat.reduceAdd, Nat.zero_le, i10, kz0, kz1, Sum.inl.injEq, Option.some.injEq, Value.int.injEq, exists_eq_left', Nat.reduceLT, hAe, kc0, kc2, kc4, kc14, kc17, kc18, kc22, kc24, kc28, kc30, kn4, kn18, kn24, kn30, kr0_5, kr0_9, kr2_0, kr14_0, kr17_0, kr22_1, kr22_5, kr22_8, kz, ki14_1, ki14_2, ki14_3, ki28_0, ki28_1, p1, p2, p4, pco, pd, kz1, kz0, e4, e5, hPL, hL10, c0, c1, on0, mvL_c, mvL_n, mvL_r, mvL_i, mvL_z, mvI_c, mvI_n, mvI_r, mvI_i, mvI_z]
    first | refine ⟨⟨?_, ?_, ?_, ?_, ?_, ?_, ?_, ?_, ?_, ?_, ?_, ?_⟩, rfl⟩ | refine ⟨?_, ?_, ?_, ?_, ?_, ?_, ?_, ?_, ?_, ?_, ?_, ?_⟩
    · (try simp only [K_pi, K_mvI, K_mvL])
      exact vk
    · (try simp only [Cn_pi_j18 hA, Cn_pi_j22 hA, Cn_pi_j30 hA, Cn_pi_j0 hA, Cn_14_4 hA, Cn_14_5 hA, Cn_14_6 hA, Cn_28_3 hA, Cn_28_4 hA, Cn_28_5 hA, Cn_mvI24 hA, Cn_mvL4 hA])
      exact vcn
    · (try simp only [Vq0_pi_j18 hA, Vq0_pi_j22 hA, Vq0_pi_j30 hA, Vq0_pi_j14 hA, Vq0_pi_j28 hA, Vq0_pi_j0 hA, Vq0_mvI24 hA, Vq0_mvL4 hA])
      exact v0
    · (try simp only [Vq1_pi_j18 hA, Vq1_pi_j22 hA, Vq1_pi_j30 hA, Vq1_pi_j14 hA, Vq1_pi_j28 hA, Vq1_pi_j0 hA, Vq1_mvI24 hA, Vq1_mvL4 hA])
      exact v1
    · (try simp only [Vq2_pi_j18 hA, Vq2_pi_j22 hA, Vq2_pi_j30 hA, Vq2_pi_j14 hA, Vq2_pi_j28 hA, Vq2_pi_j0 hA, Vq2_mvI24 hA, Vq2_mvL4 hA])
      exact v2
    · simp only [Vp, mi_pi, hAe, Nat.reduceLT, Nat.reduceEqDiff, false_and, and_false, true_and, and_true, if_false, if_true, mvL_i, mvI_i, p1, p2, p3, p4, true_and, and_self]
      first | exact hq9 | exact ⟨⟨rfl, rfl, rfl, rfl⟩, hq9⟩ | (refine ⟨⟨?_, ?_, ?_, ?_⟩, hq9⟩ <;> first | rfl | trivial)
    · (try simp only [Vl0_pi_j18 hA, Vl0_pi_j22 hA, Vl0_pi_j30 hA, Vl0_pi_j14 hA, Vl0_pi_j28 hA, Vl0_pi_j0 hA, Vl0_mvI24 hA, Vl0_mvL4 hA])
      exact vl0
    · (try simp only [Vl1_pi_j18 hA, Vl1_pi_j22 hA, Vl1_pi_j30 hA, Vl1_pi_j14 hA, Vl1_pi_j28 hA, Vl1_pi_j0 hA, Vl1_mvI24 hA, Vl1_mvL4 hA])
      exact vl1
    · (try simp only [Vlr_pi_j18 hA, Vlr_pi_j22 hA, Vlr_pi_j30 hA, Vlr_pi_j14 hA, Vlr_pi_j28 hA, Vlr_pi_j0 hA, Vlr_mvI24 hA, Vlr_mvL4 hA])
      exact vlr
    · refine Vsr_mv (F := 1) (P := P) (n := L - P) vsr (by omega) (fun k => ?_) (fun k => ?_) <;> simp only [mi_pi, ml_pi, hAe, Nat.reduceLT, Nat.reduceEqDiff, false_and, true_and, if_false, mvL_i, mvL_l, mvI_i, mvI_l]
    · refine Vc_of (c := 0) vc (by decide) (fun k => ?_) (fun k => ?_) <;> simp only [mi_pi, hAe, Nat.reduceLT, Nat.reduceEqDiff, false_and, true_and, if_false, mvL_i, mvI_i, pco]
    · (try simp only [Tx_pi_j18 hA, Tx_pi_j22 hA, Tx_pi_j30 hA, Tx_pi_j14 hA, Tx_pi_j28 hA, Tx_pi_j0 hA, Tx_mvI24 hA, Tx_mvL4 hA])
      exact tx


theorem op_squeeze {A : Nat → Nat} {h : MH} (R : Rl A h) : Ok 71 0 [.ref (A 0), mk0] [] h 0 0 (fun r h1 => ∃ k : Int32, r = .inl (some (.int k)) ∧ g_c h1 (A 22) = 9 ∧ Ok 195 0 [.ref (A 22), mk0, mk0, mk0] [] h1 0 0 (fun r2 h2 => ∃ b : Int32, r2 = .inl (some (.int b)) ∧ Rl A h2 ∧ g_i h2 (A 22) 9 = 0 ∧ k = b)) := by
  obtain ⟨vk, vcn, v0, v1, v2, vp, vl0, vl1, vlr, vsr, vc, tx⟩ := R
  have vk0 := vk
  have vcn0 := vcn
  (refine K_el vk0 ?_; intros hA kc0 kc1 kc2 kc3 kc4 kc5 kc6 kc7 kc8 kc9 kc10 kc11 kc12 kc13 kc14 kc15 kc16 kc17 kc18 kc19 kc20 kc21 kc22 kc23 kc24 kc25 kc26 kc27 kc28 kc29 kc30 kc31 kc32 kc33 kc34 kc35 kc36 kc37 kc38 kc39 kz kt kn3 kn4 kn18 kn21 kn23 kn24 kn25 kn26 kn27 kn29 kn30 kr0_0 kr0_1 kr0_2 kr0_3 kr0_4 kr0_5 kr0_7 kr0_8 kr0_9 kr0_10 kr1_0 kr2_0 kr5_0 kr5_1 kr6_0 kr6_1 kr7_0 kr7_1 kr8_0 kr9_0 kr10_0 kr11_0 kr12_0 kr13_0 kr14_0 kr15_0 kr16_0 kr17_0 kr19_0 kr19_1 kr22_0 kr22_1 kr22_2 kr22_3 kr22_4 kr22_5 kr22_7 kr22_8 kr25_0 kr25_1 kr25_2 kr26_0 kr26_1 kr26_2 kr29_0 kr29_1)
  (refine Cn_el vcn0 ?_; intros ki5_2 ki6_2 ki7_2 ki8_1 ki8_2 ki8_3 ki9_1 ki9_2 ki9_3 ki10_1 ki10_2 ki10_3 ki11_1 ki11_2 ki11_3 ki12_1 ki12_2 ki12_3 ki13_1 ki13_2 ki13_3 ki14_1 ki14_2 ki14_3 ki28_0 ki28_1 ki31_0 ki31_1 ki32_0 ki32_1 ki33_0 ki33_1 ki34_0 ki34_1 ki35_0 ki35_1 ki36_0 ki36_1)
  have hAe : ∀ i j, i < 40 → j < 40 → (A i = A j ↔ i = j) := hA
  have he := v2.1
  have hm := v2.2
  have hT : mT h (A 27) 2 (A 33) (A 36) = cT h (A 7) (A 12) (A 13) := he.symm
  have he2 := he
  simp only [cT, mT, Prod.mk.injEq] at he2
  obtain ⟨g1, g2, g3, g4, g5, g6, g7⟩ := he2
  replace g1 := g1.symm
  replace g2 := g2.symm
  replace g3 := g3.symm
  replace g4 := g4.symm
  replace g5 := g5.symm
  replace g6 := g6.symm
  replace g7 := g7.symm
  obtain ⟨hmk, har, hl0, hl9⟩ := qA_2 _ hm
  have hark : arok 2 (g_i h (A 7) 3) := fun _ => har
  have n1 : ¬ A 12 = A 13 := fun z => absurd ((hAe 12 13 (by decide) (by decide)).mp z) (by decide)
  obtain ⟨t1, t2, t3, t4, t5, t7, hPL, hL6, hly, hq9⟩ := qSq _ hm
  have hlc : lyF (cT h (A 7) (A 12) (A 13)) = Int32.ofNat ((g_i h (A 12) 4).toNatClampNeg - (g_i h (A 13) 4).toNatClampNeg) := hly
  clear hly
  simp only [cT] at t1 t2 t3 t4 t5 t7 hPL hL6 hq9
  rw [t1] at t5
  generalize hP : (g_i h (A 13) 4).toNatClampNeg = P at *
  generalize hL : (g_i h (A 12) 4).toNatClampNeg = L at *
  have c0 : (16 : Nat) < 1000 := by decide
  have c1 : 9 + P + (L - P) ≤ 16 := by omega
  have ns : ∀ i, i < 40 → ¬ i = 36 → (A 36 = A i) = False := fun i hi hn => eq_false (fun z => hn ((hAe 36 i (by decide) hi).mp z).symm)
  simp only [o71_0, o71_1, o71_4, o71_7, o71_10, o71_11, o71_12, o71_15, o71_18, o71_19, o71_22, o71_23, o71_26, o195_0, o195_1, o195_2, o195_5, o195_6, o195_9, o195_10, o195_11, o195_14, o195_15, o195_16, o195_17, o195_20, o195_21, o195_22, o195_54, o195_55, o195_58, o195_59, o195_60, o195_61, o195_64, o195_65, o195_68, o195_69, o195_70, o195_73, o195_74, o195_77, o195_78, o195_79, o195_80, o195_83, o195_84, o195_85, o195_88, c_X1_compact (w := A 12) (r := A 13) (rw := A 1) (cs := A 3) (R := 16) (F := 9) (N := 6) (P := P) (L := L), msq_all (lr := A 23), c_X8_liesOf (x2 := A 25) (x3 := A 26) (a := A 27) (w := A 33) (r := A 36), c_X7_rewound, c_X0_done (cs := A 18), c_X8_done (cs := A 30), mc_pi, mn_pi, mi_pi, mr_pi, mz_pi, mcs_0, Kn_v, Kn_0, mrf_some, kok_0, true_and, and_true, not_false_eq_true, if_true, if_false, and_self, Nat.reduceEqDiff, Nat.reduceLeDiff, Nat.reduceAdd, Nat.zero_le, cl2, Sum.inl.injEq, Option.some.injEq, Value.int.injEq, exists_eq_left', Nat.reduceLT, hAe, kc0, kc1, kc3, kc7, kc12, kc13, kc17, kc18, kc22, kc23, kc25, kc26, kc27, kc30, kc33, kc36, kn3, kn18, kn23, kn25, kn26, kn27, kn30, kr0_4, kr0_9, kr1_0, kr7_0, kr7_1, kr12_0, kr17_0, kr22_0, kr22_2, kr22_3, kr22_4, kr22_8, kr25_2, kr26_2, kz, ki7_2, ki12_1, ki12_2, ki12_3, ki13_2, hT, g4, cl2, c_cW, n_cW, r_cW, z_cW, icw2_j18 hA, icw2_j22 hA, icw2_j30 hA, icw2_j36 hA, mvL_c, mvL_n, mvL_r, mvL_i, mvL_z, mT2_pi_j18 hA, mT2_pi_j22 hA, mT2_cW hA, vq3, on0, t1, t3, t4, t5, t7, hPL, hL6, hlc, c0, c1, mT_mvL]
  first | refine ⟨⟨?_, ?_, ?_, ?_, ?_, ?_, ?_, ?_, ?_, ?_, ?_, ?_⟩, rfl⟩ | refine ⟨?_, ?_, ?_, ?_, ?_, ?_, ?_, ?_, ?_, ?_, ?_, ?_⟩
  · (try simp only [K_pi, K_mvL, K_cW])
    exact vk
  · (try simp only [Cn_pi_j18 hA, Cn_pi_j22 hA, Cn_pi_j30 hA, Cn_cW2 hA, Cn_mvL3 hA, Cn_mvL23 hA, Cn_33_3 hA, Cn_36_3 hA, Cn_36_4 hA, Cn_36_5 hA])
    exact vcn
  · (try simp only [Vq0_pi_j18 hA, Vq0_pi_j22 hA, Vq0_pi_j30 hA, Vq0_pi_j33 hA, Vq0_pi_j36 hA, Vq0_cW2 hA, Vq0_mvL3 hA, Vq0_mvL23 hA])
    exact v0
  · (try simp only [Vq1_pi_j18 hA, Vq1_pi_j22 hA, Vq1_pi_j30 hA, Vq1_pi_j33 hA, Vq1_pi_j36 hA, Vq1_cW2 hA, Vq1_mvL3 hA, Vq1_mvL23 hA])
    exact v1
  · simp only [Vq2, cT, mT, icx2_0 hA, icx2_1 hA, icx2_2 hA, icx2_3 hA, icx2_4 hA, icx2_5 hA, icx2_6 hA, mi_pi, hAe, Nat.reduceLT, Nat.reduceEqDiff, and_false, and_true, if_false, if_true, mvL_i, icw2_j27 hA, icw2_j33 hA, icw2_j36 hA, g7, g3, t3, t7]
    exact ⟨by simp only [g2, t2], hq9⟩
  · (try simp only [Vp_pi_j18 hA, Vp_pi_j30 hA, Vp_pi_j33 hA, Vp_pi_j36 hA, Vp_thr hA, Vp_cW2 hA, Vp_mvL3 hA, Vp_mvL23 hA])
    exact vp
  · (try simp only [Vl0_pi_j18 hA, Vl0_pi_j22 hA, Vl0_pi_j30 hA, Vl0_pi_j33 hA, Vl0_pi_j36 hA, Vl0_cW2 hA, Vl0_mvL3 hA, Vl0_mvL23 hA])
    exact vl0
  · (try simp only [Vl1_pi_j18 hA, Vl1_pi_j22 hA, Vl1_pi_j30 hA, Vl1_pi_j33 hA, Vl1_pi_j36 hA, Vl1_cW2 hA, Vl1_mvL3 hA, Vl1_mvL23 hA])
    exact vl1
  · refine Vlr_mv (F := 9) (P := P) (n := L - P) vlr (by omega) (fun k => ?_) (fun k => ?_) <;> simp only [l_cW, ml_pi, hAe, Nat.reduceLT, Nat.reduceEqDiff, false_and, true_and, if_false, mvL_l]
  · (try simp only [Vsr_pi_j18 hA, Vsr_pi_j22 hA, Vsr_pi_j30 hA, Vsr_pi_j33 hA, Vsr_pi_j36 hA, Vsr_cW2 hA, Vsr_mvL3 hA, Vsr_mvL23 hA])
    exact vsr
  · refine Vc_of (c := 0) vc (by decide) (fun k => ?_) (fun k => ?_) <;> simp only [mi_pi, hAe, Nat.reduceLT, Nat.reduceEqDiff, false_and, true_and, if_false, mvL_i, icw2_j18 hA, icw2_j30 hA]
  · (try simp only [Tx_pi_j18 hA, Tx_pi_j22 hA, Tx_pi_j30 hA, Tx_pi_j33 hA, Tx_pi_j36 hA, Tx_cW2 hA, Tx_mvL3 hA, Tx_mvL23 hA])
    exact tx


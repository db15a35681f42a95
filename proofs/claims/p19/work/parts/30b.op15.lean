theorem hx_303_1 {l rest : List Value} {bc bs : Nat} {Q : MR → MH → Prop} {h : MH} : Kc Ok 303 3 6 l rest bc bs Q (.inr 1) h ↔ ∀ q : Nat, Ok 303 13 l [.ref q] h bc bs Q := Kc_x (by decide +kernel) (by decide +kernel)
theorem op_empty {A : Nat → Nat} {h : MH} (R : Rl A h) {q : Int32} : Ok 303 0 [.ref (A 0), .int q, .ref (A 39), mk0] [] h 1 6 (fun r h1 => ∃ k : Int32, r = .inl (some (.int k)) ∧ g_c h1 (A 22) = 9 ∧ Ok 196 0 [.ref (A 22), .int q, mk0] [] h1 2 12 (fun r2 h2 => ∃ b : Int32, r2 = .inl (some (.int b)) ∧ RlX A h2 ∧ g_i h2 (A 22) 9 = k ∧ (k = 0 → g_l h2 (A 39) 0 = b.toInt64))) := by
  obtain ⟨vk, vcn, v0, v1, v2, vp, vl0, vl1, vlr, vsr, vc, tx⟩ := R
  have vk0 := vk
  have vcn0 := vcn
  (refine K_el vk0 ?_; intros hA kc0 kc1 kc2 kc3 kc4 kc5 kc6 kc7 kc8 kc9 kc10 kc11 kc12 kc13 kc14 kc15 kc16 kc17 kc18 kc19 kc20 kc21 kc22 kc23 kc24 kc25 kc26 kc27 kc28 kc29 kc30 kc31 kc32 kc33 kc34 kc35 kc36 kc37 kc38 kc39 kz kt kn3 kn4 kn18 kn21 kn23 kn24 kn25 kn26 kn27 kn29 kn30 kr0_0 kr0_1 kr0_2 kr0_3 kr0_4 kr0_5 kr0_7 kr0_8 kr0_9 kr0_10 kr1_0 kr2_0 kr5_0 kr5_1 kr6_0 kr6_1 kr7_0 kr7_1 kr8_0 kr9_0 kr10_0 kr11_0 kr12_0 kr13_0 kr14_0 kr15_0 kr16_0 kr17_0 kr19_0 kr19_1 kr22_0 kr22_1 kr22_2 kr22_3 kr22_4 kr22_5 kr22_7 kr22_8 kr25_0 kr25_1 kr25_2 kr26_0 kr26_1 kr26_2 kr29_0 kr29_1)
  (refine Cn_el vcn0 ?_; intros ki5_2 ki6_2 ki7_2 ki8_1 ki8_2 ki8_3 ki9_1 ki9_2 ki9_3 ki10_1 ki10_2 ki10_3 ki11_1 ki11_2 ki11_3 ki12_1 ki12_2 ki12_3 ki13_1 ki13_2 ki13_3 ki14_1 ki14_2 ki14_3 ki28_0 ki28_1 ki31_0 ki31_1 ki32_0 ki32_1 ki33_0 ki33_1 ki34_0 ki34_1 ki35_0 ki35_1 ki36_0 ki36_1)
  have hAe : ∀ i j, i < 40 → j < 40 → (A i = A j ↔ i = j) := hA
  have hta : ∀ i, i < 40 → (A i = g_t h) = False := fun i hi => eq_false (fun z => by have := kt i hi; omega)
  have hta2 : ∀ i, i < 40 → (g_t h = A i) = False := fun i hi => eq_false (fun z => by have := kt i hi; omega)
  have htb : ∀ i, i < 40 → (A i = g_t h + 1) = False := fun i hi => eq_false (fun z => by have := kt i hi; omega)
  have htb2 : ∀ i, i < 40 → (g_t h + 1 = A i) = False := fun i hi => eq_false (fun z => by have := kt i hi; omega)
  have hzt : g_z h ≤ g_t h := Nat.le_trans (kz 0 (by decide)) (Nat.le_of_lt (kt 0 (by decide)))
  have hzt1 : g_z h ≤ g_t h + 1 := Nat.le_trans hzt (Nat.le_succ _)
  have hn1 : (g_t h = g_t h + 1) = False := eq_false (fun z => by omega)
  have hn2 : (g_t h + 1 = g_t h) = False := eq_false (fun z => by omega)
  have nta : nt A (g_t h) := fun j hj z => by have := kt j hj; omega
  have ntb : nt A (g_t h + 1) := fun j hj z => by have := kt j hj; omega
  by_cases bq : q < 0 ∨ ¬ q < 3
  · have bq2 : (¬ q < 0 ∧ q < 3) = False := nrng bq
    simp only [o303_0, o303_1, o303_2, o303_3, o303_13, o303_14, o303_15, o72_0, o72_1, o72_2, o196_0, o196_1, o196_2, o196_5, o196_8, o196_9, o196_12, o196_13, o196_16, o196_19, o196_20, o196_21, o196_22, o196_23, hx_303_1, c_X8_isThrown__, c_X8_isQueue, c_queueOf_bad, mc_pi, mc_pT, mi_pi, mi_pT, ml_pi, ml_pT, mz_pT, mcs_0, mcs_r, Kn_v, Kn_x, true_and, and_true, not_true_eq_false, not_false_eq_true, false_implies, forall_const, if_true, if_false, and_self, Nat.reduceLeDiff, Nat.reduceSub, Nat.reduceAdd, Nat.zero_le, Nat.le_refl, i10, Sum.inl.injEq, Option.some.injEq, Value.int.injEq, exists_eq_left', Nat.reduceLT, kc0, kc22, kz, bq, bq2]
    intro t ht
    first | refine ⟨RlX_of ⟨?_, ?_, ?_, ?_, ?_, ?_, ?_, ?_, ?_, ?_, ?_, ?_⟩, rfl⟩ | refine RlX_of ⟨?_, ?_, ?_, ?_, ?_, ?_, ?_, ?_, ?_, ?_, ?_, ?_⟩
    · (try simp only [K_pi])
      exact K_pT ht vk
    · (try simp only [Cn_pi_j22 hA, Cn_pT])
      exact vcn
    · (try simp only [Vq0_pi_j22 hA, Vq0_pT])
      exact v0
    · (try simp only [Vq1_pi_j22 hA, Vq1_pT])
      exact v1
    · (try simp only [Vq2_pi_j22 hA, Vq2_pT])
      exact v2
    · (try simp only [Vp_thr hA, Vp_pT])
      exact vp
    · (try simp only [Vl0_pi_j22 hA, Vl0_pT])
      exact vl0
    · (try simp only [Vl1_pi_j22 hA, Vl1_pT])
      exact vl1
    · (try simp only [Vlr_pi_j22 hA, Vlr_pT])
      exact vlr
    · (try simp only [Vsr_pi_j22 hA, Vsr_pT])
      exact vsr
    · (try simp only [Vc_pi_j22 hA, Vc_pT])
      exact vc
    · (try simp only [Tx_pi_j22 hA])
      exact Tx_pT ht tx
  · have y1 : ¬ q < 0 := fun z => bq (Or.inl z)
    have y2 : q < 3 := Classical.byContradiction fun z => bq (Or.inr z)
    have bq2 : (¬ q < 0 ∧ q < 3) = True := eq_true ⟨y1, y2⟩
    rcases q_cases y1 y2 with rfl | rfl | rfl
    · have he := v0.1
      have hm := v0.2
      have hT : mT h (A 27) 0 (A 31) (A 34) = cT h (A 5) (A 8) (A 9) := he.symm
      have he2 := he
      simp only [cT, mT, Prod.mk.injEq] at he2
      obtain ⟨g1, g2, g3, g4, g5, g6, g7⟩ := he2
      replace g1 := g1.symm
      replace g2 := g2.symm
      replace g3 := g3.symm
      replace g4 := g4.symm
      replace g5 := g5.symm
      replace g6 := g6.symm
      replace g7 := g7.symm
      obtain ⟨hmk, har, hl0, hl9⟩ := qA_0 _ hm
      have hark : arok 0 (g_i h (A 5) 3) := fun z => absurd (by decide) z
      have n1 : ¬ A 8 = A 9 := fun z => absurd ((hAe 8 9 (by decide) (by decide)).mp z) (by decide)
      simp only [o303_0, o303_1, o303_2, o303_3, o303_6, o303_7, o303_10, o303_16, o303_17, o72_0, o72_1, o72_2, o72_5, o72_6, o72_7, o72_10, o72_11, o72_12, o72_15, o72_16, o72_19, o72_20, o72_23, o196_0, o196_1, o196_2, o196_5, o196_8, o196_9, o196_12, o196_13, o196_16, o196_19, o196_20, o196_21, o196_22, o196_23, o196_26, o196_27, o196_28, o196_29, o196_32, o196_33, o196_34, o196_37, c_X8_isThrown__, c_X8_isQueue, c_queueOf_0, c_X1_lying (w := A 8) (r := A 9), c_X1_clear (w := A 8) (r := A 9) (sz := 5), c_X8_liesOf (x2 := A 25) (x3 := A 26) (a := A 27) (w := A 31) (r := A 34), c_X7_init, c_X0_done (cs := A 18), c_X8_done (cs := A 30), mc_pi, mc_pl, mc_pr, mc_pN, mn_pi, mn_pl, mn_pr, mn_pN, mi_pi, mi_pl, mi_pr, mi_pN, ml_pi, ml_pl, ml_pr, ml_pN, mr_pi, mr_pl, mr_pr, mr_pN, mt_pi, mt_pl, mt_pr, mt_pN, mz_pi, mz_pl, mz_pr, mz_pN, mcs_0, mcs_i, mcs_r, Kn_v, Kn_0, mrf_some, true_and, and_true, or_true, not_true_eq_false, not_false_eq_true, false_implies, implies_true, forall_const, if_true, if_false, and_self, Nat.reduceEqDiff, Nat.reduceLeDiff, Nat.reduceSub, Nat.reduceAdd, Nat.zero_le, Nat.le_refl, i10, i01, kz0, kz1, Int32.reduceLT, cl0, Kc_v, Sum.inl.injEq, Option.some.injEq, Value.int.injEq, exists_eq_left', Nat.reduceLT, hAe, kc0, kc5, kc8, kc9, kc17, kc18, kc22, kc25, kc26, kc27, kc30, kc31, kc34, kc39, kn18, kn25, kn26, kn27, kn30, kr0_2, kr0_9, kr5_0, kr5_1, kr17_0, kr22_2, kr22_3, kr22_4, kr22_8, kr25_0, kr26_0, kz, ki8_2, ki9_2, vq3, hT, Int32.reduceLT, cl0, c_cW, n_cW, r_cW, z_cW, t_cW, l_cW, icw0_j18 hA, icw0_j22 hA, icw0_j30 hA, o160_0, o160_1, o160_4, o160_5, o160_8, o160_9, o160_10, o160_13, o160_15, o160_18, o160_20, o160_21, o160_22, o160_25, o160_26, o160_29, o160_30, o160_31, o160_34, o160_35, o160_38, o160_40, o160_41, o160_42, o160_45, o160_46, o160_49, o160_50, o160_51, o160_52, o160_53, o160_54, o160_57, o160_58, o160_59, o160_62, o160_63, o160_66, o160_67, o160_68, o160_69, o160_70, o160_71, o160_74, o160_75, o160_76, o160_79, o160_80, o160_81, o160_82, vb0, hta, htb, hzt, hzt1, hn2, mT0_pi_j18 hA, mT0_pi_j22 hA, mT0_pl, mT0_cW hA]
      refine ⟨rfl, rfl, ⟨(up (up A 31 (g_t h)) 34 (g_t h + 1)), rfl, rfl, rfl, ⟨?_, ?_, ?_, ?_, ?_, ?_, ?_, ?_, ?_, ?_, ?_, ?_⟩⟩⟩
      · refine ⟨(inj_up (inj_up hA nta) (nt_up ntb (fun z => by omega))), ?_, (Kz1_up (Kz1_up vk.2.2.1 (by simp only [mz_pi, mz_pl, mz_pr, mz_pN, z_cW]) (by simp only [mt_pi, mt_pl, mt_pr, mt_pN, t_cW]; omega) hzt (by simp only [mt_pi, mt_pl, mt_pr, mt_pN, t_cW]; omega)) rfl (Nat.le_refl _) (by simp only [mz_pi, mz_pl, mz_pr, mz_pN, z_cW]; exact hzt1) (by simp only [mt_pi, mt_pl, mt_pr, mt_pN, t_cW]; omega)), ?_, ?_⟩
        · simp only [Kc1, up, mc_pi, mc_pl, mc_pr, mc_pN, mt_pi, mt_pl, mt_pr, mt_pN, c_cW, t_cW, hta, htb, hn1, hn2, Nat.reduceLT, Nat.reduceEqDiff, if_false, if_true, kc0, kc1, kc2, kc3, kc4, kc5, kc6, kc7, kc8, kc9, kc10, kc11, kc12, kc13, kc14, kc15, kc16, kc17, kc18, kc19, kc20, kc21, kc22, kc23, kc24, kc25, kc26, kc27, kc28, kc29, kc30, kc32, kc33, kc35, kc36, kc37, kc38, kc39, c_cW, t_cW, and_self]
        · simp only [Kn1, up, mn_pi, mn_pl, mn_pr, mn_pN, mt_pi, mt_pl, mt_pr, mt_pN, n_cW, t_cW, hta, htb, Nat.reduceLT, Nat.reduceEqDiff, if_false, kn3, kn4, kn18, kn21, kn23, kn24, kn25, kn26, kn27, kn29, kn30, n_cW, t_cW, and_self]
        · simp only [Kr1, up, mr_pi, mr_pl, mr_pr, mr_pN, mt_pi, mt_pl, mt_pr, mt_pN, r_cW, t_cW, hta, htb, hAe, Nat.reduceLT, Nat.reduceEqDiff, and_false, and_true, if_false, if_true, kr0_0, kr0_1, kr0_2, kr0_3, kr0_4, kr0_5, kr0_7, kr0_8, kr0_9, kr0_10, kr1_0, kr2_0, kr5_0, kr5_1, kr6_0, kr6_1, kr7_0, kr7_1, kr8_0, kr9_0, kr10_0, kr11_0, kr12_0, kr13_0, kr14_0, kr15_0, kr16_0, kr17_0, kr19_0, kr19_1, kr22_0, kr22_1, kr22_2, kr22_3, kr22_4, kr22_5, kr22_7, kr22_8, kr25_0, kr25_1, kr25_2, kr26_0, kr26_1, kr26_2, kr29_0, kr29_1, r_cW, t_cW, and_self]
      · simp only [Cn, up, cW, mi_pi, mi_pl, mi_pr, mi_pN, mt_pi, mt_pl, mt_pr, mt_pN, hta, hta2, htb, htb2, hn1, hn2, mi_pi, mi_pl, mi_pr, hAe, Nat.reduceLT, Nat.reduceEqDiff, and_false, and_true, if_false, if_true, ki5_2, ki6_2, ki7_2, ki8_1, ki8_2, ki8_3, ki9_1, ki9_2, ki9_3, ki10_1, ki10_2, ki10_3, ki11_1, ki11_2, ki11_3, ki12_1, ki12_2, ki12_3, ki13_1, ki13_2, ki13_3, ki14_1, ki14_2, ki14_3, ki28_0, ki28_1, ki32_0, ki32_1, ki33_0, ki33_1, ki35_0, ki35_1, ki36_0, ki36_1, and_self]
      · simp only [Vq0, cT, mT, up, mi_pi, mi_pl, mi_pr, mi_pN, mt_pi, mt_pl, mt_pr, mt_pN, t_cW, hta, hta2, htb, htb2, hn1, hn2, mi_pi, mi_pl, mi_pr, hAe, Nat.reduceLT, Nat.reduceEqDiff, and_false, true_and, and_true, if_false, if_true, icx0_0 hA, icx0_1 hA, icx0_2 hA, icx0_3 hA, icx0_4 hA, icx0_5 hA, icx0_6 hA, icw0_j27 hA, clF]
        first | exact qMc_0 | exact ⟨rfl, qMc_0⟩ | exact ⟨trivial, qMc_0⟩
      · (try simp only [Vq1_pi_j18 hA, Vq1_pi_j22 hA, Vq1_pi_j30 hA, Vq1_pl, Vq1_pr, Vq1_cW0 hA, Vq1_27_0 hA, Vq1_up31, Vq1_up34, Vq1_pia, Vq1_pN, nta, ntb, mt_pi, mt_pl, mt_pr, mt_pN, t_cW])
        exact v1
      · (try simp only [Vq2_pi_j18 hA, Vq2_pi_j22 hA, Vq2_pi_j30 hA, Vq2_pl, Vq2_pr, Vq2_cW0 hA, Vq2_27_0 hA, Vq2_up31, Vq2_up34, Vq2_pia, Vq2_pN, nta, ntb, mt_pi, mt_pl, mt_pr, mt_pN, t_cW])
        exact v2
      · (try simp only [Vp_pi_j18 hA, Vp_pi_j30 hA, Vp_pi_j27 hA, Vp_thr hA, Vp_pl, Vp_pr, Vp_cW0 hA, Vp_up31, Vp_up34, Vp_pia, Vp_pN, nta, ntb, mt_pi, mt_pl, mt_pr, mt_pN, t_cW])
        exact vp
      · (try simp only [Vl0_pi_j18 hA, Vl0_pi_j22 hA, Vl0_pi_j30 hA, Vl0_pi_j27 hA, Vl0_pl, Vl0_pr, Vl0_cW0 hA, Vl0_up31, Vl0_up34, Vl0_pia, Vl0_pN, nta, ntb, mt_pi, mt_pl, mt_pr, mt_pN, t_cW])
        exact vl0
      · (try simp only [Vl1_pi_j18 hA, Vl1_pi_j22 hA, Vl1_pi_j30 hA, Vl1_pi_j27 hA, Vl1_pl, Vl1_pr, Vl1_cW0 hA, Vl1_up31, Vl1_up34, Vl1_pia, Vl1_pN, nta, ntb, mt_pi, mt_pl, mt_pr, mt_pN, t_cW])
        exact vl1
      · (try simp only [Vlr_pi_j18 hA, Vlr_pi_j22 hA, Vlr_pi_j30 hA, Vlr_pi_j27 hA, Vlr_pl_j39 hA, Vlr_pr, Vlr_cW0 hA, Vlr_up31, Vlr_up34, Vlr_pia, Vlr_pN, nta, ntb, mt_pi, mt_pl, mt_pr, mt_pN, t_cW])
        exact vlr
      · (try simp only [Vsr_pi_j18 hA, Vsr_pi_j22 hA, Vsr_pi_j30 hA, Vsr_pi_j27 hA, Vsr_pl_j39 hA, Vsr_pr, Vsr_cW0 hA, Vsr_up31, Vsr_up34, Vsr_pia, Vsr_pN, nta, ntb, mt_pi, mt_pl, mt_pr, mt_pN, t_cW])
        exact vsr
      · refine Vc_of (c := 0) vc (by decide) (fun k => ?_) (fun k => ?_) <;> simp only [mi_pi, mi_pl, mi_pr, hAe, Nat.reduceLT, Nat.reduceEqDiff, false_and, true_and, if_false, icw0_j18 hA, icw0_j30 hA, up, mi_pN, mi_pr, mt_pi, mt_pl, mt_pr, mt_pN, t_cW, hta, htb]
      · simp only [Tx_up31, Tx_up34]
        refine Tx_of tx (by simp only [mz_pi, mz_pl, mz_pr, mz_pN, z_cW]) (by simp only [mt_pi, mt_pl, mt_pr, mt_pN, t_cW]; omega) (fun b hb => ?_) ?_ ?_ ?_
        · have q1 : (b = g_t h) = False := eq_false (by omega)
          have q2 : (b = g_t h + 1) = False := eq_false (by omega)
          simp only [mc_pi, mc_pl, mc_pr, mc_pN, mn_pi, mn_pl, mn_pr, mn_pN, mt_pi, mt_pl, mt_pr, mt_pN, c_cW, n_cW, t_cW, q1, q2, if_false, and_self]
        · simp only [cW, mr_pi, mr_pl, mr_pr, mr_pN, mt_pi, mt_pl, mt_pr, mt_pN, hta, htb, hAe, Nat.reduceLT, Nat.reduceEqDiff, and_true, if_false]
        · simp only [cW, mi_pi, mi_pl, mi_pr, mi_pN, mt_pi, mt_pl, mt_pr, mt_pN, hta, htb, mi_pi, mi_pl, mi_pr, hAe, Nat.reduceLT, Nat.reduceEqDiff, and_false, and_true, if_false]
        · simp only [cW, mi_pi, mi_pl, mi_pr, mi_pN, mt_pi, mt_pl, mt_pr, mt_pN, hta, htb, mi_pi, mi_pl, mi_pr, hAe, Nat.reduceLT, Nat.reduceEqDiff, and_false, and_true, if_false]
    · have he := v1.1
      have hm := v1.2
      have hT : mT h (A 27) 1 (A 32) (A 35) = cT h (A 6) (A 10) (A 11) := he.symm
      have he2 := he
      simp only [cT, mT, Prod.mk.injEq] at he2
      obtain ⟨g1, g2, g3, g4, g5, g6, g7⟩ := he2
      replace g1 := g1.symm
      replace g2 := g2.symm
      replace g3 := g3.symm
      replace g4 := g4.symm
      replace g5 := g5.symm
      replace g6 := g6.symm
      replace g7 := g7.symm
      obtain ⟨hmk, har, hl0, hl9⟩ := qA_1 _ hm
      have hark : arok 1 (g_i h (A 6) 3) := fun z => absurd (by decide) z
      have n1 : ¬ A 10 = A 11 := fun z => absurd ((hAe 10 11 (by decide) (by decide)).mp z) (by decide)
      simp only [o303_0, o303_1, o303_2, o303_3, o303_6, o303_7, o303_10, o303_16, o303_17, o72_0, o72_1, o72_2, o72_5, o72_6, o72_7, o72_10, o72_11, o72_12, o72_15, o72_16, o72_19, o72_20, o72_23, o196_0, o196_1, o196_2, o196_5, o196_8, o196_9, o196_12, o196_13, o196_16, o196_19, o196_20, o196_21, o196_22, o196_23, o196_26, o196_27, o196_28, o196_29, o196_32, o196_33, o196_34, o196_37, c_X8_isThrown__, c_X8_isQueue, c_queueOf_1, c_X1_lying (w := A 10) (r := A 11), c_X1_clear (w := A 10) (r := A 11) (sz := 3), c_X8_liesOf (x2 := A 25) (x3 := A 26) (a := A 27) (w := A 32) (r := A 35), c_X7_init, c_X0_done (cs := A 18), c_X8_done (cs := A 30), mc_pi, mc_pl, mc_pr, mc_pN, mn_pi, mn_pl, mn_pr, mn_pN, mi_pi, mi_pl, mi_pr, mi_pN, ml_pi, ml_pl, ml_pr, ml_pN, mr_pi, mr_pl, mr_pr, mr_pN, mt_pi, mt_pl, mt_pr, mt_pN, mz_pi, mz_pl, mz_pr, mz_pN, mcs_0, mcs_i, mcs_r, Kn_v, Kn_0, mrf_some, true_and, and_true, or_true, not_true_eq_false, not_false_eq_true, false_implies, implies_true, forall_const, if_true, if_false, and_self, Nat.reduceEqDiff, Nat.reduceLeDiff, Nat.reduceSub, Nat.reduceAdd, Nat.zero_le, Nat.le_refl, i10, kz0, kz1, Int32.reduceLT, cl1, Kc_v, Sum.inl.injEq, Option.some.injEq, Value.int.injEq, exists_eq_left', Nat.reduceLT, hAe, kc0, kc6, kc10, kc11, kc17, kc18, kc22, kc25, kc26, kc27, kc30, kc32, kc35, kc39, kn18, kn25, kn26, kn27, kn30, kr0_3, kr0_9, kr6_0, kr6_1, kr17_0, kr22_2, kr22_3, kr22_4, kr22_8, kr25_1, kr26_1, kz, ki10_2, ki11_2, vq3, hT, Int32.reduceLT, cl1, c_cW, n_cW, r_cW, z_cW, t_cW, l_cW, icw1_j18 hA, icw1_j22 hA, icw1_j30 hA, o160_0, o160_1, o160_4, o160_5, o160_8, o160_9, o160_10, o160_13, o160_15, o160_18, o160_20, o160_21, o160_22, o160_25, o160_26, o160_29, o160_30, o160_31, o160_34, o160_35, o160_38, o160_40, o160_41, o160_42, o160_45, o160_46, o160_49, o160_50, o160_51, o160_52, o160_53, o160_54, o160_57, o160_58, o160_59, o160_62, o160_63, o160_66, o160_67, o160_68, o160_69, o160_70, o160_71, o160_74, o160_75, o160_76, o160_79, o160_80, o160_81, o160_82, vb0, hta, htb, hzt, hzt1, hn2, mT1_pi_j18 hA, mT1_pi_j22 hA, mT1_pl, mT1_cW hA]
      refine ⟨rfl, rfl, ⟨(up (up A 32 (g_t h)) 35 (g_t h + 1)), rfl, rfl, rfl, ⟨?_, ?_, ?_, ?_, ?_, ?_, ?_, ?_, ?_, ?_, ?_, ?_⟩⟩⟩
      · refine ⟨(inj_up (inj_up hA nta) (nt_up ntb (fun z => by omega))), ?_, (Kz1_up (Kz1_up vk.2.2.1 (by simp only [mz_pi, mz_pl, mz_pr, mz_pN, z_cW]) (by simp only [mt_pi, mt_pl, mt_pr, mt_pN, t_cW]; omega) hzt (by simp only [mt_pi, mt_pl, mt_pr, mt_pN, t_cW]; omega)) rfl (Nat.le_refl _) (by simp only [mz_pi, mz_pl, mz_pr, mz_pN, z_cW]; exact hzt1) (by simp only [mt_pi, mt_pl, mt_pr, mt_pN, t_cW]; omega)), ?_, ?_⟩
        · simp only [Kc1, up, mc_pi, mc_pl, mc_pr, mc_pN, mt_pi, mt_pl, mt_pr, mt_pN, c_cW, t_cW, hta, htb, hn1, hn2, Nat.reduceLT, Nat.reduceEqDiff, if_false, if_true, kc0, kc1, kc2, kc3, kc4, kc5, kc6, kc7, kc8, kc9, kc10, kc11, kc12, kc13, kc14, kc15, kc16, kc17, kc18, kc19, kc20, kc21, kc22, kc23, kc24, kc25, kc26, kc27, kc28, kc29, kc30, kc31, kc33, kc34, kc36, kc37, kc38, kc39, c_cW, t_cW, and_self]
        · simp only [Kn1, up, mn_pi, mn_pl, mn_pr, mn_pN, mt_pi, mt_pl, mt_pr, mt_pN, n_cW, t_cW, hta, htb, Nat.reduceLT, Nat.reduceEqDiff, if_false, kn3, kn4, kn18, kn21, kn23, kn24, kn25, kn26, kn27, kn29, kn30, n_cW, t_cW, and_self]
        · simp only [Kr1, up, mr_pi, mr_pl, mr_pr, mr_pN, mt_pi, mt_pl, mt_pr, mt_pN, r_cW, t_cW, hta, htb, hAe, Nat.reduceLT, Nat.reduceEqDiff, and_false, and_true, if_false, if_true, kr0_0, kr0_1, kr0_2, kr0_3, kr0_4, kr0_5, kr0_7, kr0_8, kr0_9, kr0_10, kr1_0, kr2_0, kr5_0, kr5_1, kr6_0, kr6_1, kr7_0, kr7_1, kr8_0, kr9_0, kr10_0, kr11_0, kr12_0, kr13_0, kr14_0, kr15_0, kr16_0, kr17_0, kr19_0, kr19_1, kr22_0, kr22_1, kr22_2, kr22_3, kr22_4, kr22_5, kr22_7, kr22_8, kr25_0, kr25_1, kr25_2, kr26_0, kr26_1, kr26_2, kr29_0, kr29_1, r_cW, t_cW, and_self]
      · simp only [Cn, up, cW, mi_pi, mi_pl, mi_pr, mi_pN, mt_pi, mt_pl, mt_pr, mt_pN, hta, hta2, htb, htb2, hn1, hn2, mi_pi, mi_pl, mi_pr, hAe, Nat.reduceLT, Nat.reduceEqDiff, and_false, and_true, if_false, if_true, ki5_2, ki6_2, ki7_2, ki8_1, ki8_2, ki8_3, ki9_1, ki9_2, ki9_3, ki10_1, ki10_2, ki10_3, ki11_1, ki11_2, ki11_3, ki12_1, ki12_2, ki12_3, ki13_1, ki13_2, ki13_3, ki14_1, ki14_2, ki14_3, ki28_0, ki28_1, ki31_0, ki31_1, ki33_0, ki33_1, ki34_0, ki34_1, ki36_0, ki36_1, and_self]
      · (try simp only [Vq0_pi_j18 hA, Vq0_pi_j22 hA, Vq0_pi_j30 hA, Vq0_pl, Vq0_pr, Vq0_cW1 hA, Vq0_27_1 hA, Vq0_up32, Vq0_up35, Vq0_pia, Vq0_pN, nta, ntb, mt_pi, mt_pl, mt_pr, mt_pN, t_cW])
        exact v0
      · simp only [Vq1, cT, mT, up, mi_pi, mi_pl, mi_pr, mi_pN, mt_pi, mt_pl, mt_pr, mt_pN, t_cW, hta, hta2, htb, htb2, hn1, hn2, mi_pi, mi_pl, mi_pr, hAe, Nat.reduceLT, Nat.reduceEqDiff, and_false, true_and, and_true, if_false, if_true, icx1_0 hA, icx1_1 hA, icx1_2 hA, icx1_3 hA, icx1_4 hA, icx1_5 hA, icx1_6 hA, icw1_j27 hA, clF]
        first | exact qMc_1 | exact ⟨rfl, qMc_1⟩ | exact ⟨trivial, qMc_1⟩
      · (try simp only [Vq2_pi_j18 hA, Vq2_pi_j22 hA, Vq2_pi_j30 hA, Vq2_pl, Vq2_pr, Vq2_cW1 hA, Vq2_27_1 hA, Vq2_up32, Vq2_up35, Vq2_pia, Vq2_pN, nta, ntb, mt_pi, mt_pl, mt_pr, mt_pN, t_cW])
        exact v2
      · (try simp only [Vp_pi_j18 hA, Vp_pi_j30 hA, Vp_pi_j27 hA, Vp_thr hA, Vp_pl, Vp_pr, Vp_cW1 hA, Vp_up32, Vp_up35, Vp_pia, Vp_pN, nta, ntb, mt_pi, mt_pl, mt_pr, mt_pN, t_cW])
        exact vp
      · (try simp only [Vl0_pi_j18 hA, Vl0_pi_j22 hA, Vl0_pi_j30 hA, Vl0_pi_j27 hA, Vl0_pl, Vl0_pr, Vl0_cW1 hA, Vl0_up32, Vl0_up35, Vl0_pia, Vl0_pN, nta, ntb, mt_pi, mt_pl, mt_pr, mt_pN, t_cW])
        exact vl0
      · (try simp only [Vl1_pi_j18 hA, Vl1_pi_j22 hA, Vl1_pi_j30 hA, Vl1_pi_j27 hA, Vl1_pl, Vl1_pr, Vl1_cW1 hA, Vl1_up32, Vl1_up35, Vl1_pia, Vl1_pN, nta, ntb, mt_pi, mt_pl, mt_pr, mt_pN, t_cW])
        exact vl1
      · (try simp only [Vlr_pi_j18 hA, Vlr_pi_j22 hA, Vlr_pi_j30 hA, Vlr_pi_j27 hA, Vlr_pl_j39 hA, Vlr_pr, Vlr_cW1 hA, Vlr_up32, Vlr_up35, Vlr_pia, Vlr_pN, nta, ntb, mt_pi, mt_pl, mt_pr, mt_pN, t_cW])
        exact vlr
      · (try simp only [Vsr_pi_j18 hA, Vsr_pi_j22 hA, Vsr_pi_j30 hA, Vsr_pi_j27 hA, Vsr_pl_j39 hA, Vsr_pr, Vsr_cW1 hA, Vsr_up32, Vsr_up35, Vsr_pia, Vsr_pN, nta, ntb, mt_pi, mt_pl, mt_pr, mt_pN, t_cW])
        exact vsr
      · refine Vc_of (c := 0) vc (by decide) (fun k => ?_) (fun k => ?_) <;> simp only [mi_pi, mi_pl, mi_pr, hAe, Nat.reduceLT, Nat.reduceEqDiff, false_and, true_and, if_false, icw1_j18 hA, icw1_j30 hA, up, mi_pN, mi_pr, mt_pi, mt_pl, mt_pr, mt_pN, t_cW, hta, htb]
      · simp only [Tx_up32, Tx_up35]
        refine Tx_of tx (by simp only [mz_pi, mz_pl, mz_pr, mz_pN, z_cW]) (by simp only [mt_pi, mt_pl, mt_pr, mt_pN, t_cW]; omega) (fun b hb => ?_) ?_ ?_ ?_
        · have q1 : (b = g_t h) = False := eq_false (by omega)
          have q2 : (b = g_t h + 1) = False := eq_false (by omega)
          simp only [mc_pi, mc_pl, mc_pr, mc_pN, mn_pi, mn_pl, mn_pr, mn_pN, mt_pi, mt_pl, mt_pr, mt_pN, c_cW, n_cW, t_cW, q1, q2, if_false, and_self]
        · simp only [cW, mr_pi, mr_pl, mr_pr, mr_pN, mt_pi, mt_pl, mt_pr, mt_pN, hta, htb, hAe, Nat.reduceLT, Nat.reduceEqDiff, and_false, if_false]
        · simp only [cW, mi_pi, mi_pl, mi_pr, mi_pN, mt_pi, mt_pl, mt_pr, mt_pN, hta, htb, mi_pi, mi_pl, mi_pr, hAe, Nat.reduceLT, Nat.reduceEqDiff, and_false, and_true, if_false]
        · simp only [cW, mi_pi, mi_pl, mi_pr, mi_pN, mt_pi, mt_pl, mt_pr, mt_pN, hta, htb, mi_pi, mi_pl, mi_pr, hAe, Nat.reduceLT, Nat.reduceEqDiff, and_false, and_true, if_false]
    · have he := v2.1
      have hm := v2.2
      have hT : mT h (A 27) 2 (A 33) (A 36) = cT h (A 7) (A 12) (A 13) := he.symm
      have he2 := he
      simp only [cT, mT, Prod.mk.injEq] at he2
      obtain ⟨g1, g2, g3, g4, g5, g6, g7⟩ := he2
      replace g1 := g1.symm
      replace g2 := g2.symm
      replace g3 := g3.symm
      replace g4 := g4.symm
      replace g5 := g5.symm
      replace g6 := g6.symm
      replace g7 := g7.symm
      obtain ⟨hmk, har, hl0, hl9⟩ := qA_2 _ hm
      have hark : arok 2 (g_i h (A 7) 3) := fun _ => har
      have n1 : ¬ A 12 = A 13 := fun z => absurd ((hAe 12 13 (by decide) (by decide)).mp z) (by decide)
      simp only [o303_0, o303_1, o303_2, o303_3, o303_6, o303_7, o303_10, o303_16, o303_17, o72_0, o72_1, o72_2, o72_5, o72_6, o72_7, o72_10, o72_11, o72_12, o72_15, o72_16, o72_19, o72_20, o72_23, o196_0, o196_1, o196_2, o196_5, o196_8, o196_9, o196_12, o196_13, o196_16, o196_19, o196_20, o196_21, o196_22, o196_23, o196_26, o196_27, o196_28, o196_29, o196_32, o196_33, o196_34, o196_37, c_X8_isThrown__, c_X8_isQueue, c_queueOf_2, c_X1_lying (w := A 12) (r := A 13), c_X1_clear (w := A 12) (r := A 13) (sz := 6), c_X8_liesOf (x2 := A 25) (x3 := A 26) (a := A 27) (w := A 33) (r := A 36), c_X7_init, c_X0_done (cs := A 18), c_X8_done (cs := A 30), mc_pi, mc_pl, mc_pr, mc_pN, mn_pi, mn_pl, mn_pr, mn_pN, mi_pi, mi_pl, mi_pr, mi_pN, ml_pi, ml_pl, ml_pr, ml_pN, mr_pi, mr_pl, mr_pr, mr_pN, mt_pi, mt_pl, mt_pr, mt_pN, mz_pi, mz_pl, mz_pr, mz_pN, mcs_0, mcs_i, mcs_r, Kn_v, Kn_0, mrf_some, true_and, and_true, or_true, not_true_eq_false, not_false_eq_true, false_implies, implies_true, forall_const, if_true, if_false, and_self, Nat.reduceEqDiff, Nat.reduceLeDiff, Nat.reduceSub, Nat.reduceAdd, Nat.zero_le, Nat.le_refl, i10, kz0, kz1, Int32.reduceLT, cl2, Kc_v, Sum.inl.injEq, Option.some.injEq, Value.int.injEq, exists_eq_left', Nat.reduceLT, hAe, i20, kc0, kc7, kc12, kc13, kc17, kc18, kc22, kc25, kc26, kc27, kc30, kc33, kc36, kc39, kn18, kn25, kn26, kn27, kn30, kr0_4, kr0_9, kr7_0, kr7_1, kr17_0, kr22_2, kr22_3, kr22_4, kr22_8, kr25_2, kr26_2, kz, ki12_2, ki13_2, vq3, hT, Int32.reduceLT, cl2, c_cW, n_cW, r_cW, z_cW, t_cW, l_cW, icw2_j18 hA, icw2_j22 hA, icw2_j30 hA, o160_0, o160_1, o160_4, o160_5, o160_8, o160_9, o160_10, o160_13, o160_15, o160_18, o160_20, o160_21, o160_22, o160_25, o160_26, o160_29, o160_30, o160_31, o160_34, o160_35, o160_38, o160_40, o160_41, o160_42, o160_45, o160_46, o160_49, o160_50, o160_51, o160_52, o160_53, o160_54, o160_57, o160_58, o160_59, o160_62, o160_63, o160_66, o160_67, o160_68, o160_69, o160_70, o160_71, o160_74, o160_75, o160_76, o160_79, o160_80, o160_81, o160_82, vb0, hta, htb, hzt, hzt1, hn2, lne, mT2_pi_j18 hA, mT2_pi_j22 hA, mT2_pl, mT2_cW hA]
      refine ⟨rfl, rfl, ⟨(up (up A 33 (g_t h)) 36 (g_t h + 1)), rfl, rfl, rfl, ⟨?_, ?_, ?_, ?_, ?_, ?_, ?_, ?_, ?_, ?_, ?_, ?_⟩⟩⟩
      · refine ⟨(inj_up (inj_up hA nta) (nt_up ntb (fun z => by omega))), ?_, (Kz1_up (Kz1_up vk.2.2.1 (by simp only [mz_pi, mz_pl, mz_pr, mz_pN, z_cW]) (by simp only [mt_pi, mt_pl, mt_pr, mt_pN, t_cW]; omega) hzt (by simp only [mt_pi, mt_pl, mt_pr, mt_pN, t_cW]; omega)) rfl (Nat.le_refl _) (by simp only [mz_pi, mz_pl, mz_pr, mz_pN, z_cW]; exact hzt1) (by simp only [mt_pi, mt_pl, mt_pr, mt_pN, t_cW]; omega)), ?_, ?_⟩
        · simp only [Kc1, up, mc_pi, mc_pl, mc_pr, mc_pN, mt_pi, mt_pl, mt_pr, mt_pN, c_cW, t_cW, hta, htb, hn1, hn2, Nat.reduceLT, Nat.reduceEqDiff, if_false, if_true, kc0, kc1, kc2, kc3, kc4, kc5, kc6, kc7, kc8, kc9, kc10, kc11, kc12, kc13, kc14, kc15, kc16, kc17, kc18, kc19, kc20, kc21, kc22, kc23, kc24, kc25, kc26, kc27, kc28, kc29, kc30, kc31, kc32, kc34, kc35, kc37, kc38, kc39, c_cW, t_cW, and_self]
        · simp only [Kn1, up, mn_pi, mn_pl, mn_pr, mn_pN, mt_pi, mt_pl, mt_pr, mt_pN, n_cW, t_cW, hta, htb, Nat.reduceLT, Nat.reduceEqDiff, if_false, kn3, kn4, kn18, kn21, kn23, kn24, kn25, kn26, kn27, kn29, kn30, n_cW, t_cW, and_self]
        · simp only [Kr1, up, mr_pi, mr_pl, mr_pr, mr_pN, mt_pi, mt_pl, mt_pr, mt_pN, r_cW, t_cW, hta, htb, hAe, Nat.reduceLT, Nat.reduceEqDiff, and_false, and_true, if_false, if_true, kr0_0, kr0_1, kr0_2, kr0_3, kr0_4, kr0_5, kr0_7, kr0_8, kr0_9, kr0_10, kr1_0, kr2_0, kr5_0, kr5_1, kr6_0, kr6_1, kr7_0, kr7_1, kr8_0, kr9_0, kr10_0, kr11_0, kr12_0, kr13_0, kr14_0, kr15_0, kr16_0, kr17_0, kr19_0, kr19_1, kr22_0, kr22_1, kr22_2, kr22_3, kr22_4, kr22_5, kr22_7, kr22_8, kr25_0, kr25_1, kr25_2, kr26_0, kr26_1, kr26_2, kr29_0, kr29_1, r_cW, t_cW, and_self]
      · simp only [Cn, up, cW, mi_pi, mi_pl, mi_pr, mi_pN, mt_pi, mt_pl, mt_pr, mt_pN, hta, hta2, htb, htb2, hn1, hn2, mi_pi, mi_pl, mi_pr, hAe, Nat.reduceLT, Nat.reduceEqDiff, and_false, and_true, if_false, if_true, ki5_2, ki6_2, ki7_2, ki8_1, ki8_2, ki8_3, ki9_1, ki9_2, ki9_3, ki10_1, ki10_2, ki10_3, ki11_1, ki11_2, ki11_3, ki12_1, ki12_2, ki12_3, ki13_1, ki13_2, ki13_3, ki14_1, ki14_2, ki14_3, ki28_0, ki28_1, ki31_0, ki31_1, ki32_0, ki32_1, ki34_0, ki34_1, ki35_0, ki35_1, and_self]
      · (try simp only [Vq0_pi_j18 hA, Vq0_pi_j22 hA, Vq0_pi_j30 hA, Vq0_pl, Vq0_pr, Vq0_cW2 hA, Vq0_27_2 hA, Vq0_up33, Vq0_up36, Vq0_pia, Vq0_pN, nta, ntb, mt_pi, mt_pl, mt_pr, mt_pN, t_cW])
        exact v0
      · (try simp only [Vq1_pi_j18 hA, Vq1_pi_j22 hA, Vq1_pi_j30 hA, Vq1_pl, Vq1_pr, Vq1_cW2 hA, Vq1_27_2 hA, Vq1_up33, Vq1_up36, Vq1_pia, Vq1_pN, nta, ntb, mt_pi, mt_pl, mt_pr, mt_pN, t_cW])
        exact v1
      · simp only [Vq2, cT, mT, up, mi_pi, mi_pl, mi_pr, mi_pN, mt_pi, mt_pl, mt_pr, mt_pN, t_cW, hta, hta2, htb, htb2, hn1, hn2, mi_pi, mi_pl, mi_pr, hAe, Nat.reduceLT, Nat.reduceEqDiff, and_false, true_and, and_true, if_false, if_true, icx2_0 hA, icx2_1 hA, icx2_2 hA, icx2_3 hA, icx2_4 hA, icx2_5 hA, icx2_6 hA, icw2_j27 hA, clF]
        first | exact qMc_2 | exact ⟨rfl, qMc_2⟩ | exact ⟨trivial, qMc_2⟩
      · (try simp only [Vp_pi_j18 hA, Vp_pi_j30 hA, Vp_pi_j27 hA, Vp_thr hA, Vp_pl, Vp_pr, Vp_cW2 hA, Vp_up33, Vp_up36, Vp_pia, Vp_pN, nta, ntb, mt_pi, mt_pl, mt_pr, mt_pN, t_cW])
        exact vp
      · (try simp only [Vl0_pi_j18 hA, Vl0_pi_j22 hA, Vl0_pi_j30 hA, Vl0_pi_j27 hA, Vl0_pl, Vl0_pr, Vl0_cW2 hA, Vl0_up33, Vl0_up36, Vl0_pia, Vl0_pN, nta, ntb, mt_pi, mt_pl, mt_pr, mt_pN, t_cW])
        exact vl0
      · (try simp only [Vl1_pi_j18 hA, Vl1_pi_j22 hA, Vl1_pi_j30 hA, Vl1_pi_j27 hA, Vl1_pl, Vl1_pr, Vl1_cW2 hA, Vl1_up33, Vl1_up36, Vl1_pia, Vl1_pN, nta, ntb, mt_pi, mt_pl, mt_pr, mt_pN, t_cW])
        exact vl1
      · (try simp only [Vlr_pi_j18 hA, Vlr_pi_j22 hA, Vlr_pi_j30 hA, Vlr_pi_j27 hA, Vlr_pl_j39 hA, Vlr_pr, Vlr_cW2 hA, Vlr_up33, Vlr_up36, Vlr_pia, Vlr_pN, nta, ntb, mt_pi, mt_pl, mt_pr, mt_pN, t_cW])
        exact vlr
      · (try simp only [Vsr_pi_j18 hA, Vsr_pi_j22 hA, Vsr_pi_j30 hA, Vsr_pi_j27 hA, Vsr_pl_j39 hA, Vsr_pr, Vsr_cW2 hA, Vsr_up33, Vsr_up36, Vsr_pia, Vsr_pN, nta, ntb, mt_pi, mt_pl, mt_pr, mt_pN, t_cW])
        exact vsr
      · refine Vc_of (c := 0) vc (by decide) (fun k => ?_) (fun k => ?_) <;> simp only [mi_pi, mi_pl, mi_pr, hAe, Nat.reduceLT, Nat.reduceEqDiff, false_and, true_and, if_false, icw2_j18 hA, icw2_j30 hA, up, mi_pN, mi_pr, mt_pi, mt_pl, mt_pr, mt_pN, t_cW, hta, htb]
      · simp only [Tx_up33, Tx_up36]
        refine Tx_of tx (by simp only [mz_pi, mz_pl, mz_pr, mz_pN, z_cW]) (by simp only [mt_pi, mt_pl, mt_pr, mt_pN, t_cW]; omega) (fun b hb => ?_) ?_ ?_ ?_
        · have q1 : (b = g_t h) = False := eq_false (by omega)
          have q2 : (b = g_t h + 1) = False := eq_false (by omega)
          simp only [mc_pi, mc_pl, mc_pr, mc_pN, mn_pi, mn_pl, mn_pr, mn_pN, mt_pi, mt_pl, mt_pr, mt_pN, c_cW, n_cW, t_cW, q1, q2, if_false, and_self]
        · simp only [cW, mr_pi, mr_pl, mr_pr, mr_pN, mt_pi, mt_pl, mt_pr, mt_pN, hta, htb, hAe, Nat.reduceLT, Nat.reduceEqDiff, and_false, if_false]
        · simp only [cW, mi_pi, mi_pl, mi_pr, mi_pN, mt_pi, mt_pl, mt_pr, mt_pN, hta, htb, mi_pi, mi_pl, mi_pr, hAe, Nat.reduceLT, Nat.reduceEqDiff, and_false, and_true, if_false]
        · simp only [cW, mi_pi, mi_pl, mi_pr, mi_pN, mt_pi, mt_pl, mt_pr, mt_pN, hta, htb, mi_pi, mi_pl, mi_pr, hAe, Nat.reduceLT, Nat.reduceEqDiff, and_false, and_true, if_false]


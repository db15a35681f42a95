/-! lensMake, lensCut -/
theorem lnCut {lo hi : Int} {z : Nat} {f n s p l m x y : Int32} (k : lnOk lo hi z f n s p l m) (h0 : 0 ≤ lo) (h9 : hi ≤ 100) (e1 : ¬ x < 0) (e2 : ¬ l < x) (e3 : ¬ y < 0) (e4 : ¬ l - x < y) : lnOk lo hi z (f + x) y s 0 y (-1) := by
  obtain ⟨k1, k2, k3, k4, k5, k6, k7, k8, k9, k10⟩ := k
  rw [Int32.lt_iff_toInt_lt] at e1 e2 e3 e4
  have z0 : (0 : Int32).toInt = 0 := rfl
  have zm : (-1 : Int32).toInt = -1 := rfl
  have s1 : (l - x).toInt = l.toInt - x.toInt := t_sub (by omega) (by omega)
  have s2 : (f + x).toInt = f.toInt + x.toInt := t_add (by omega) (by omega)
  exact ⟨by omega, by omega, by omega, k4, k5, by omega, by omega, by omega, by omega, by omega⟩
theorem lnCut2 {lo hi : Int} {z : Nat} {f n s p l m : Int32} (k : lnOk lo hi z f n s p l m) (h0 : 0 ≤ lo) (h9 : hi ≤ 100) : lnOk lo hi z (f + p) (l - p) s 0 (l - p) (-1) := by
  have k0 := k
  obtain ⟨k1, k2, k3, k4, k5, k6, k7, k8, k9, k10⟩ := k0
  have z0 : (0 : Int32).toInt = 0 := rfl
  have s1 : (l - p).toInt = l.toInt - p.toInt := t_sub (by omega) (by omega)
  exact lnCut k h0 h9 (by rw [Int32.lt_iff_toInt_lt]; omega) (by rw [Int32.lt_iff_toInt_lt]; omega) (by rw [Int32.lt_iff_toInt_lt]; omega) (by rw [Int32.lt_iff_toInt_lt]; omega)
theorem lnSeal {lo hi : Int} {z : Nat} {f n s p l m : Int32} (k : lnOk lo hi z f n s p l m) : lnOk lo hi z f n 1 p l m := by
  obtain ⟨k1, k2, k3, k4, k5, k6, k7, k8, k9, k10⟩ := k
  exact ⟨k1, k2, k3, Or.inr rfl, fun _ => rfl, k6, k7, k8, k9, k10⟩
theorem ln30 : lnOk 0 16 0 0 16 1 1 15 (-1) := by unfold lnOk; decide
theorem ln31 : lnOk 11 35 1 11 24 0 0 24 (-1) := by unfold lnOk; decide
theorem hx_320_1 {l rest : List Value} {bc bs : Nat} {Q : MR → MH → Prop} {h : MH} : Kc Ok 320 6 9 l rest bc bs Q (.inr 1) h ↔ ∀ q : Nat, Ok 320 16 l [.ref q] h bc bs Q := Kc_x (by decide +kernel) (by decide +kernel)
theorem op_lensCut {A : Nat → Nat} {h : MH} (R : Rl A h) {e x y : Int32} : Ok 320 0 [.ref (A 0), .int e, .int x, .int y, .ref (A 39), mk0] [] h 2 13 (fun r h1 => ∃ k : Int32, r = .inl (some (.int k)) ∧ g_c h1 (A 22) = 9 ∧ Ok 226 0 [.ref (A 22), .int e, .int x, .int y, mk0] [] h1 1 6 (fun r2 h2 => ∃ b : Int32, r2 = .inl (some (.int b)) ∧ RlX A h2 ∧ g_i h2 (A 22) 9 = k ∧ (k = 0 → g_l h2 (A 39) 0 = b.toInt64))) := by
  obtain ⟨vk, vcn, v0, v1, v2, vp, vl0, vl1, vlr, vsr, vc, tx⟩ := R
  have vk0 := vk
  have vcn0 := vcn
  (refine K_el vk0 ?_; intros hA kc0 kc1 kc2 kc3 kc4 kc5 kc6 kc7 kc8 kc9 kc10 kc11 kc12 kc13 kc14 kc15 kc16 kc17 kc18 kc19 kc20 kc21 kc22 kc23 kc24 kc25 kc26 kc27 kc28 kc29 kc30 kc31 kc32 kc33 kc34 kc35 kc36 kc37 kc38 kc39 kz kt kn3 kn4 kn18 kn21 kn23 kn24 kn25 kn26 kn27 kn29 kn30 kr0_0 kr0_1 kr0_2 kr0_3 kr0_4 kr0_5 kr0_7 kr0_8 kr0_9 kr0_10 kr1_0 kr2_0 kr5_0 kr5_1 kr6_0 kr6_1 kr7_0 kr7_1 kr8_0 kr9_0 kr10_0 kr11_0 kr12_0 kr13_0 kr14_0 kr15_0 kr16_0 kr17_0 kr19_0 kr19_1 kr22_0 kr22_1 kr22_2 kr22_3 kr22_4 kr22_5 kr22_7 kr22_8 kr25_0 kr25_1 kr25_2 kr26_0 kr26_1 kr26_2 kr29_0 kr29_1)
  (refine Cn_el vcn0 ?_; intros ki5_2 ki6_2 ki7_2 ki8_1 ki8_2 ki8_3 ki9_1 ki9_2 ki9_3 ki10_1 ki10_2 ki10_3 ki11_1 ki11_2 ki11_3 ki12_1 ki12_2 ki12_3 ki13_1 ki13_2 ki13_3 ki14_1 ki14_2 ki14_3 ki28_0 ki28_1 ki31_0 ki31_1 ki32_0 ki32_1 ki33_0 ki33_1 ki34_0 ki34_1 ki35_0 ki35_1 ki36_0 ki36_1)
  have hAe : ∀ i j, i < 40 → j < 40 → (A i = A j ↔ i = j) := hA
  have hta : ∀ i, i < 40 → (A i = g_t h) = False := fun i hi => eq_false (fun z => by have := kt i hi; omega)
  have hta2 : ∀ i, i < 40 → (g_t h = A i) = False := fun i hi => eq_false (fun z => by have := kt i hi; omega)
  have htb : ∀ i, i < 40 → (A i = g_t h + 1) = False := fun i hi => eq_false (fun z => by have := kt i hi; omega)
  have htb2 : ∀ i, i < 40 → (g_t h + 1 = A i) = False := fun i hi => eq_false (fun z => by have := kt i hi; omega)
  have hzt : g_z h ≤ g_t h := Nat.le_trans (kz 0 (by decide)) (Nat.le_of_lt (kt 0 (by decide)))
  have hzt1 : g_z h ≤ g_t h + 1 := Nat.le_trans hzt (Nat.le_succ _)
  have hn1 : (g_t h = g_t h + 1) = False := eq_false (fun z => by omega)
  have hn2 : (g_t h + 1 = g_t h) = False := eq_false (fun z => by omega)
  have nta : nt A (g_t h) := fun j hj z => by have := kt j hj; omega
  have ntb : nt A (g_t h + 1) := fun j hj z => by have := kt j hj; omega
  by_cases be : e < 0 ∨ ¬ e < 2
  · have be2 := e_bad be
    simp only [↓ar_ite, ↓ar_ite2, ↓reduceIte, o320_0, o320_2, o320_3, o320_4, o320_5, o320_6, o320_16, o320_18, o320_19, o95_0, o95_1, o95_2, o226_0, o226_1, o226_2, o226_5, o226_8, o226_9, o226_13, o226_16, o226_19, o226_20, hx_320_1, c_X8_isThrown__, c_X8_isLens, c_lensOf_bad, mc_pT, mi_pi, ml_pi, ml_pT, mz_pT, mcs_0, mcs_r, Kn_v, Kn_x, true_and, and_true, false_implies, forall_const, and_self, Nat.reduceLeDiff, Nat.reduceSub, Nat.reduceAdd, Nat.zero_le, Nat.le_refl, i10, Sum.inl.injEq, Option.some.injEq, Value.int.injEq, exists_eq_left', Nat.reduceLT, kc0, kc22, kz, be, be2]
    (try simp only [ite_ar, implies_true, true_and, and_true, Classical.not_not])
    intro t ht
    first | refine ⟨RlX_of ⟨?_, ?_, ?_, ?_, ?_, ?_, ?_, ?_, ?_, ?_, ?_, ?_⟩, rfl⟩ | refine RlX_of ⟨?_, ?_, ?_, ?_, ?_, ?_, ?_, ?_, ?_, ?_, ?_, ?_⟩
    · (try simp only [K_pi])
      exact K_pT ht vk
    · (try simp only [Cn_pi_j22 hA, Cn_pT])
      exact vcn
    · (try simp only [Vq0_pi_j22 hA, Vq0_pT])
      exact v0
    · (try simp only [Vq1_pi_j22 hA, Vq1_pT])
      exact v1
    · (try simp only [Vq2_pi_j22 hA, Vq2_pT])
      exact v2
    · (try simp only [Vp_thr hA, Vp_pT])
      exact vp
    · (try simp only [Vl0_pi_j22 hA, Vl0_pT])
      exact vl0
    · (try simp only [Vl1_pi_j22 hA, Vl1_pT])
      exact vl1
    · (try simp only [Vlr_pi_j22 hA, Vlr_pT])
      exact vlr
    · (try simp only [Vsr_pi_j22 hA, Vsr_pT])
      exact vsr
    · (try simp only [Vc_pi_j22 hA, Vc_pT])
      exact vc
    · (try simp only [Tx_pi_j22 hA])
      exact Tx_pT ht tx
  · have y1 : ¬ e < 0 := fun z => be (Or.inl z)
    have y2 : e < 2 := Classical.byContradiction fun z => be (Or.inr z)
    rcases e_cases y1 y2 with rfl | rfl
    · have hl2 := vl0
      obtain ⟨⟨b1, b2, b3, b4, b5, b6⟩, ln⟩ := hl2
      replace b1 := b1.symm
      replace b2 := b2.symm
      replace b3 := b3.symm
      replace b4 := b4.symm
      replace b5 := b5.symm
      replace b6 := b6.symm
      rw [b1, b2, b3, b4, b5, b6] at ln
      by_cases x0 : x < 0
      · skip
        simp only [↓ar_ite, ↓ar_ite2, ↓reduceIte, o320_0, o320_2, o320_3, o320_4, o320_5, o320_6, o320_9, o320_10, o320_13, o320_20, o320_21, o95_0, o95_1, o95_2, o95_5, o95_7, o95_8, o95_35, o95_36, o95_39, o95_40, o95_43, o226_0, o226_1, o226_2, o226_5, o226_12, o226_13, o226_16, o226_21, o226_22, o226_25, o226_26, o226_27, o226_29, o226_30, o226_57, o226_58, o226_59, o226_62, c_X8_isThrown__, c_X8_isLens, c_lensOf_0, c_ref_5 (cs := A 18), c_X8_no (cs := A 30), mc_pi, mc_pl, mn_pi, mn_pl, mi_pi, mi_pl, ml_pi, ml_pl, mr_pi, mr_pl, mz_pi, mz_pl, mcs_0, mcs_r, Kn_v, mrf_some, true_and, and_true, or_false, implies_true, and_self, Nat.reduceEqDiff, Nat.reduceLeDiff, Nat.reduceSub, Nat.reduceAdd, Nat.zero_le, Nat.le_refl, i10, i01, Int32.reduceSub, cl0, cl5, Kc_v, Sum.inl.injEq, Option.some.injEq, Value.int.injEq, exists_eq_left', Nat.reduceLT, hAe, kc0, kc17, kc18, kc22, kc29, kc30, kc39, kn18, kn29, kn30, kr0_7, kr0_9, kr17_0, kr22_7, kr22_8, kr29_0, kz, be0, v18, cl5, x0]
        (try simp only [ite_ar, implies_true, true_and, and_true, Classical.not_not])
        first | refine ⟨RlX_of ⟨?_, ?_, ?_, ?_, ?_, ?_, ?_, ?_, ?_, ?_, ?_, ?_⟩, rfl⟩ | refine RlX_of ⟨?_, ?_, ?_, ?_, ?_, ?_, ?_, ?_, ?_, ?_, ?_, ?_⟩
        · (try simp only [K_pi, K_pl])
          exact vk
        · (try simp only [Cn_pi_j18 hA, Cn_pi_j22 hA, Cn_pi_j30 hA, Cn_pl])
          exact vcn
        · (try simp only [Vq0_pi_j18 hA, Vq0_pi_j22 hA, Vq0_pi_j30 hA, Vq0_pl])
          exact v0
        · (try simp only [Vq1_pi_j18 hA, Vq1_pi_j22 hA, Vq1_pi_j30 hA, Vq1_pl])
          exact v1
        · (try simp only [Vq2_pi_j18 hA, Vq2_pi_j22 hA, Vq2_pi_j30 hA, Vq2_pl])
          exact v2
        · (try simp only [Vp_pi_j18 hA, Vp_pi_j30 hA, Vp_thr hA, Vp_pl])
          exact vp
        · (try simp only [Vl0_pi_j18 hA, Vl0_pi_j22 hA, Vl0_pi_j30 hA, Vl0_pl])
          exact vl0
        · (try simp only [Vl1_pi_j18 hA, Vl1_pi_j22 hA, Vl1_pi_j30 hA, Vl1_pl])
          exact vl1
        · (try simp only [Vlr_pi_j18 hA, Vlr_pi_j22 hA, Vlr_pi_j30 hA, Vlr_pl_j39 hA])
          exact vlr
        · (try simp only [Vsr_pi_j18 hA, Vsr_pi_j22 hA, Vsr_pi_j30 hA, Vsr_pl_j39 hA])
          exact vsr
        · refine Vc_of (c := 5) vc (by decide) (fun k => ?_) (fun k => ?_) <;> simp only [mi_pi, mi_pl, hAe, Nat.reduceLT, Nat.reduceEqDiff, false_and, true_and, if_false]
        · (try simp only [Tx_pi_j18 hA, Tx_pi_j22 hA, Tx_pi_j30 hA, Tx_pl])
          exact tx
      · skip
        by_cases x1 : g_i h (A 15) 5 < x
        · skip
          simp only [↓ar_ite, ↓ar_ite2, ↓reduceIte, o320_0, o320_2, o320_3, o320_4, o320_5, o320_6, o320_9, o320_10, o320_13, o320_20, o320_21, o95_0, o95_1, o95_2, o95_5, o95_7, o95_8, o95_11, o95_12, o95_14, o95_17, o95_35, o95_36, o95_39, o95_40, o95_43, o226_0, o226_1, o226_2, o226_5, o226_12, o226_13, o226_16, o226_21, o226_22, o226_25, o226_26, o226_27, o226_29, o226_30, o226_33, o226_34, o226_36, o226_39, o226_57, o226_58, o226_59, o226_62, c_X8_isThrown__, c_X8_isLens, c_lensOf_0, c_ref_5 (cs := A 18), c_X8_no (cs := A 30), mc_pi, mc_pl, mn_pi, mn_pl, mi_pi, mi_pl, ml_pi, ml_pl, mr_pi, mr_pl, mz_pi, mz_pl, mcs_0, mcs_r, Kn_v, mrf_some, true_and, and_true, or_false, implies_true, and_self, Nat.reduceEqDiff, Nat.reduceLeDiff, Nat.reduceSub, Nat.reduceAdd, Nat.zero_le, Nat.le_refl, i10, i01, Int32.reduceSub, cl0, cl5, Kc_v, Sum.inl.injEq, Option.some.injEq, Value.int.injEq, exists_eq_left', Nat.reduceLT, hAe, kc0, kc15, kc17, kc18, kc22, kc29, kc30, kc37, kc39, kn18, kn29, kn30, kr0_7, kr0_9, kr17_0, kr22_7, kr22_8, kr29_0, kz, be0, b5, v18, cl5, x0, x1]
          (try simp only [ite_ar, implies_true, true_and, and_true, Classical.not_not])
          first | refine ⟨RlX_of ⟨?_, ?_, ?_, ?_, ?_, ?_, ?_, ?_, ?_, ?_, ?_, ?_⟩, rfl⟩ | refine RlX_of ⟨?_, ?_, ?_, ?_, ?_, ?_, ?_, ?_, ?_, ?_, ?_, ?_⟩
          · (try simp only [K_pi, K_pl])
            exact vk
          · (try simp only [Cn_pi_j18 hA, Cn_pi_j22 hA, Cn_pi_j30 hA, Cn_pl])
            exact vcn
          · (try simp only [Vq0_pi_j18 hA, Vq0_pi_j22 hA, Vq0_pi_j30 hA, Vq0_pl])
            exact v0
          · (try simp only [Vq1_pi_j18 hA, Vq1_pi_j22 hA, Vq1_pi_j30 hA, Vq1_pl])
            exact v1
          · (try simp only [Vq2_pi_j18 hA, Vq2_pi_j22 hA, Vq2_pi_j30 hA, Vq2_pl])
            exact v2
          · (try simp only [Vp_pi_j18 hA, Vp_pi_j30 hA, Vp_thr hA, Vp_pl])
            exact vp
          · (try simp only [Vl0_pi_j18 hA, Vl0_pi_j22 hA, Vl0_pi_j30 hA, Vl0_pl])
            exact vl0
          · (try simp only [Vl1_pi_j18 hA, Vl1_pi_j22 hA, Vl1_pi_j30 hA, Vl1_pl])
            exact vl1
          · (try simp only [Vlr_pi_j18 hA, Vlr_pi_j22 hA, Vlr_pi_j30 hA, Vlr_pl_j39 hA])
            exact vlr
          · (try simp only [Vsr_pi_j18 hA, Vsr_pi_j22 hA, Vsr_pi_j30 hA, Vsr_pl_j39 hA])
            exact vsr
          · refine Vc_of (c := 5) vc (by decide) (fun k => ?_) (fun k => ?_) <;> simp only [mi_pi, mi_pl, hAe, Nat.reduceLT, Nat.reduceEqDiff, false_and, true_and, if_false]
          · (try simp only [Tx_pi_j18 hA, Tx_pi_j22 hA, Tx_pi_j30 hA, Tx_pl])
            exact tx
        · skip
          by_cases x2 : y < 0
          · skip
            simp only [↓ar_ite, ↓ar_ite2, ↓reduceIte, o320_0, o320_2, o320_3, o320_4, o320_5, o320_6, o320_9, o320_10, o320_13, o320_20, o320_21, o95_0, o95_1, o95_2, o95_5, o95_7, o95_8, o95_11, o95_12, o95_14, o95_17, o95_20, o95_21, o95_35, o95_36, o95_39, o95_40, o95_43, o226_0, o226_1, o226_2, o226_5, o226_12, o226_13, o226_16, o226_21, o226_22, o226_25, o226_26, o226_27, o226_29, o226_30, o226_33, o226_34, o226_36, o226_39, o226_42, o226_43, o226_57, o226_58, o226_59, o226_62, c_X8_isThrown__, c_X8_isLens, c_lensOf_0, c_ref_5 (cs := A 18), c_X8_no (cs := A 30), mc_pi, mc_pl, mn_pi, mn_pl, mi_pi, mi_pl, ml_pi, ml_pl, mr_pi, mr_pl, mz_pi, mz_pl, mcs_0, mcs_r, Kn_v, mrf_some, true_and, and_true, or_false, implies_true, and_self, Nat.reduceEqDiff, Nat.reduceLeDiff, Nat.reduceSub, Nat.reduceAdd, Nat.zero_le, Nat.le_refl, i10, i01, Int32.reduceSub, cl0, cl5, Kc_v, Sum.inl.injEq, Option.some.injEq, Value.int.injEq, exists_eq_left', Nat.reduceLT, hAe, kc0, kc15, kc17, kc18, kc22, kc29, kc30, kc37, kc39, kn18, kn29, kn30, kr0_7, kr0_9, kr17_0, kr22_7, kr22_8, kr29_0, kz, be0, b5, v18, cl5, x0, x1, x2]
            (try simp only [ite_ar, implies_true, true_and, and_true, Classical.not_not])
            first | refine ⟨RlX_of ⟨?_, ?_, ?_, ?_, ?_, ?_, ?_, ?_, ?_, ?_, ?_, ?_⟩, rfl⟩ | refine RlX_of ⟨?_, ?_, ?_, ?_, ?_, ?_, ?_, ?_, ?_, ?_, ?_, ?_⟩
            · (try simp only [K_pi, K_pl])
              exact vk
            · (try simp only [Cn_pi_j18 hA, Cn_pi_j22 hA, Cn_pi_j30 hA, Cn_pl])
              exact vcn
            · (try simp only [Vq0_pi_j18 hA, Vq0_pi_j22 hA, Vq0_pi_j30 hA, Vq0_pl])
              exact v0
            · (try simp only [Vq1_pi_j18 hA, Vq1_pi_j22 hA, Vq1_pi_j30 hA, Vq1_pl])
              exact v1
            · (try simp only [Vq2_pi_j18 hA, Vq2_pi_j22 hA, Vq2_pi_j30 hA, Vq2_pl])
              exact v2
            · (try simp only [Vp_pi_j18 hA, Vp_pi_j30 hA, Vp_thr hA, Vp_pl])
              exact vp
            · (try simp only [Vl0_pi_j18 hA, Vl0_pi_j22 hA, Vl0_pi_j30 hA, Vl0_pl])
              exact vl0
            · (try simp only [Vl1_pi_j18 hA, Vl1_pi_j22 hA, Vl1_pi_j30 hA, Vl1_pl])
              exact vl1
            · (try simp only [Vlr_pi_j18 hA, Vlr_pi_j22 hA, Vlr_pi_j30 hA, Vlr_pl_j39 hA])
              exact vlr
            · (try simp only [Vsr_pi_j18 hA, Vsr_pi_j22 hA, Vsr_pi_j30 hA, Vsr_pl_j39 hA])
              exact vsr
            · refine Vc_of (c := 5) vc (by decide) (fun k => ?_) (fun k => ?_) <;> simp only [mi_pi, mi_pl, hAe, Nat.reduceLT, Nat.reduceEqDiff, false_and, true_and, if_false]
            · (try simp only [Tx_pi_j18 hA, Tx_pi_j22 hA, Tx_pi_j30 hA, Tx_pl])
              exact tx
          · skip
            by_cases x3 : g_i h (A 15) 5 - x < y
            · skip
              simp only [↓ar_ite, ↓ar_ite2, ↓reduceIte, o320_0, o320_2, o320_3, o320_4, o320_5, o320_6, o320_9, o320_10, o320_13, o320_20, o320_21, o95_0, o95_1, o95_2, o95_5, o95_7, o95_8, o95_11, o95_12, o95_14, o95_17, o95_20, o95_21, o95_24, o95_25, o95_27, o95_30, o95_31, o95_32, o95_35, o95_36, o95_39, o95_40, o95_43, o226_0, o226_1, o226_2, o226_5, o226_12, o226_13, o226_16, o226_21, o226_22, o226_25, o226_26, o226_27, o226_29, o226_30, o226_33, o226_34, o226_36, o226_39, o226_42, o226_43, o226_46, o226_47, o226_49, o226_52, o226_53, o226_54, o226_57, o226_58, o226_59, o226_62, c_X8_isThrown__, c_X8_isLens, c_lensOf_0, c_ref_5 (cs := A 18), c_X8_no (cs := A 30), mc_pi, mc_pl, mn_pi, mn_pl, mi_pi, mi_pl, ml_pi, ml_pl, mr_pi, mr_pl, mz_pi, mz_pl, mcs_0, mcs_r, Kn_v, mrf_some, true_and, and_true, or_false, not_true_eq_false, implies_true, and_self, Nat.reduceEqDiff, Nat.reduceLeDiff, Nat.reduceSub, Nat.reduceAdd, Nat.zero_le, Nat.le_refl, i10, i01, lt_le, Int32.reduceSub, cl0, cl5, Kc_v, Sum.inl.injEq, Option.some.injEq, Value.int.injEq, exists_eq_left', Nat.reduceLT, hAe, kc0, kc15, kc17, kc18, kc22, kc29, kc30, kc37, kc39, kn18, kn29, kn30, kr0_7, kr0_9, kr17_0, kr22_7, kr22_8, kr29_0, kz, be0, b5, v18, cl5, x0, x1, x2, x3]
              (try simp only [ite_ar, implies_true, true_and, and_true, Classical.not_not])
              first | refine ⟨RlX_of ⟨?_, ?_, ?_, ?_, ?_, ?_, ?_, ?_, ?_, ?_, ?_, ?_⟩, rfl⟩ | refine RlX_of ⟨?_, ?_, ?_, ?_, ?_, ?_, ?_, ?_, ?_, ?_, ?_, ?_⟩
              · (try simp only [K_pi, K_pl])
                exact vk
              · (try simp only [Cn_pi_j18 hA, Cn_pi_j22 hA, Cn_pi_j30 hA, Cn_pl])
                exact vcn
              · (try simp only [Vq0_pi_j18 hA, Vq0_pi_j22 hA, Vq0_pi_j30 hA, Vq0_pl])
                exact v0
              · (try simp only [Vq1_pi_j18 hA, Vq1_pi_j22 hA, Vq1_pi_j30 hA, Vq1_pl])
                exact v1
              · (try simp only [Vq2_pi_j18 hA, Vq2_pi_j22 hA, Vq2_pi_j30 hA, Vq2_pl])
                exact v2
              · (try simp only [Vp_pi_j18 hA, Vp_pi_j30 hA, Vp_thr hA, Vp_pl])
                exact vp
              · (try simp only [Vl0_pi_j18 hA, Vl0_pi_j22 hA, Vl0_pi_j30 hA, Vl0_pl])
                exact vl0
              · (try simp only [Vl1_pi_j18 hA, Vl1_pi_j22 hA, Vl1_pi_j30 hA, Vl1_pl])
                exact vl1
              · (try simp only [Vlr_pi_j18 hA, Vlr_pi_j22 hA, Vlr_pi_j30 hA, Vlr_pl_j39 hA])
                exact vlr
              · (try simp only [Vsr_pi_j18 hA, Vsr_pi_j22 hA, Vsr_pi_j30 hA, Vsr_pl_j39 hA])
                exact vsr
              · refine Vc_of (c := 5) vc (by decide) (fun k => ?_) (fun k => ?_) <;> simp only [mi_pi, mi_pl, hAe, Nat.reduceLT, Nat.reduceEqDiff, false_and, true_and, if_false]
              · (try simp only [Tx_pi_j18 hA, Tx_pi_j22 hA, Tx_pi_j30 hA, Tx_pl])
                exact tx
            · have hq9 := lnCut ln (by decide) (by decide) x0 x1 x2 x3
              have s0 := ln.2.2.2.2.1 rfl
              simp only [↓ar_ite, ↓ar_ite2, ↓reduceIte, o320_0, o320_2, o320_3, o320_4, o320_5, o320_6, o320_9, o320_10, o320_13, o320_20, o320_21, o95_0, o95_1, o95_2, o95_5, o95_7, o95_8, o95_11, o95_12, o95_14, o95_17, o95_20, o95_21, o95_24, o95_25, o95_27, o95_30, o95_31, o95_32, o95_44, o95_45, o95_46, o95_48, o95_49, o95_50, o95_53, o95_56, o95_57, o95_60, o95_61, o95_64, o226_0, o226_1, o226_2, o226_5, o226_12, o226_13, o226_16, o226_21, o226_22, o226_25, o226_26, o226_27, o226_29, o226_30, o226_33, o226_34, o226_36, o226_39, o226_42, o226_43, o226_46, o226_47, o226_49, o226_52, o226_53, o226_54, o226_63, o226_64, o226_67, o226_68, o226_70, o226_71, o226_72, o226_75, o226_76, o226_77, o226_78, o226_81, c_X8_isThrown__, c_X8_isLens, c_lensOf_0, c_X3_init, c_X7_init, c_X0_done (cs := A 18), c_X8_done (cs := A 30), mc_pi, mc_pl, mc_pr, mc_pN, mn_pi, mn_pl, mn_pr, mn_pN, mi_pi, mi_pl, mi_pr, mi_pN, ml_pi, ml_pl, ml_pr, ml_pN, mr_pi, mr_pl, mr_pr, mr_pN, mt_pi, mt_pl, mt_pr, mt_pN, mz_pi, mz_pl, mz_pr, mz_pN, mcs_0, mcs_i, mcs_r, Kn_v, Kn_0, mrf_some, true_and, and_true, and_false, or_false, not_false_eq_true, implies_true, and_self, Nat.reduceEqDiff, Nat.reduceLeDiff, Nat.reduceSub, Nat.reduceAdd, Nat.zero_le, Nat.le_refl, i10, i01, kz1, lt_le, cl0, Kc_v, Sum.inl.injEq, Option.some.injEq, Value.int.injEq, exists_eq_left', Nat.reduceLT, hAe, kc0, kc15, kc17, kc18, kc22, kc29, kc30, kc37, kc39, kn18, kn29, kn30, kr0_7, kr0_9, kr15_0, kr17_0, kr22_7, kr22_8, kr29_0, kz, be0, b1, b3, b5, x0, x1, x2, x3, s0, kz1, hta, htb, hzt, hzt1, or_false, o48_0, o48_3, o48_4, o48_5, o48_8, o48_9, o48_12, o48_13, o48_14, o48_15, o48_16, o48_19, o48_22, o137_0, o137_1, o137_4, o137_5, o137_6, o137_9, o137_17, o224_0, o224_3, o224_4, o224_5, o224_8, o224_9, o224_10, o224_11, o224_12, o224_15, o224_16, o224_19]
              (try simp only [ite_ar, implies_true, true_and, and_true, Classical.not_not])
              rw [s0] at hq9
              refine ⟨rfl, ⟨(up (up A 15 (g_t h)) 37 (g_t h + 1)), rfl, rfl, rfl, ⟨?_, ?_, ?_, ?_, ?_, ?_, ?_, ?_, ?_, ?_, ?_, ?_⟩⟩⟩
              · refine ⟨(inj_up (inj_up hA nta) (nt_up ntb (fun z => by omega))), ?_, (Kz1_up (Kz1_up vk.2.2.1 (by simp only [mz_pi, mz_pl, mz_pr, mz_pN]) (by simp only [mt_pi, mt_pl, mt_pr, mt_pN]; omega) hzt (by simp only [mt_pi, mt_pl, mt_pr, mt_pN]; omega)) rfl (Nat.le_refl _) (by simp only [mz_pi, mz_pl, mz_pr, mz_pN]; exact hzt1) (by simp only [mt_pi, mt_pl, mt_pr, mt_pN]; omega)), ?_, ?_⟩
                · simp only [Kc1, up, mc_pi, mc_pl, mc_pr, mc_pN, mt_pi, mt_pl, mt_pr, mt_pN, hta, htb, hn1, hn2, Nat.reduceLT, Nat.reduceEqDiff, if_false, if_true, kc0, kc1, kc2, kc3, kc4, kc5, kc6, kc7, kc8, kc9, kc10, kc11, kc12, kc13, kc14, kc16, kc17, kc18, kc19, kc20, kc21, kc22, kc23, kc24, kc25, kc26, kc27, kc28, kc29, kc30, kc31, kc32, kc33, kc34, kc35, kc36, kc38, kc39, and_self]
                · simp only [Kn1, up, mn_pi, mn_pl, mn_pr, mn_pN, mt_pi, mt_pl, mt_pr, mt_pN, hta, htb, Nat.reduceLT, Nat.reduceEqDiff, if_false, kn3, kn4, kn18, kn21, kn23, kn24, kn25, kn26, kn27, kn29, kn30, and_self]
                · simp only [Kr1, up, mr_pi, mr_pl, mr_pr, mr_pN, mt_pi, mt_pl, mt_pr, mt_pN, hta, hta2, htb, hn1, hAe, Nat.reduceLT, Nat.reduceEqDiff, and_false, and_true, if_false, if_true, kr0_0, kr0_1, kr0_2, kr0_3, kr0_4, kr0_5, kr0_7, kr0_8, kr0_9, kr0_10, kr1_0, kr2_0, kr5_0, kr5_1, kr6_0, kr6_1, kr7_0, kr7_1, kr8_0, kr9_0, kr10_0, kr11_0, kr12_0, kr13_0, kr14_0, kr16_0, kr17_0, kr19_0, kr19_1, kr22_0, kr22_1, kr22_2, kr22_3, kr22_4, kr22_5, kr22_7, kr22_8, kr25_0, kr25_1, kr25_2, kr26_0, kr26_1, kr26_2, kr29_0, kr29_1, and_self]
              · simp only [Cn, up, mi_pi, mi_pl, mi_pr, mi_pN, mt_pi, mt_pl, mt_pr, mt_pN, hta, htb, mi_pi, mi_pl, mi_pr, hAe, Nat.reduceLT, Nat.reduceEqDiff, and_true, if_false, ki5_2, ki6_2, ki7_2, ki8_1, ki8_2, ki8_3, ki9_1, ki9_2, ki9_3, ki10_1, ki10_2, ki10_3, ki11_1, ki11_2, ki11_3, ki12_1, ki12_2, ki12_3, ki13_1, ki13_2, ki13_3, ki14_1, ki14_2, ki14_3, ki28_0, ki28_1, ki31_0, ki31_1, ki32_0, ki32_1, ki33_0, ki33_1, ki34_0, ki34_1, ki35_0, ki35_1, ki36_0, ki36_1, and_self]
              · (try simp only [Vq0_pi_j18 hA, Vq0_pi_j22 hA, Vq0_pi_j30 hA, Vq0_pl, Vq0_pr, Vq0_up15, Vq0_up37, Vq0_pia, Vq0_pN, nta, ntb, mt_pi, mt_pl, mt_pr, mt_pN])
                exact v0
              · (try simp only [Vq1_pi_j18 hA, Vq1_pi_j22 hA, Vq1_pi_j30 hA, Vq1_pl, Vq1_pr, Vq1_up15, Vq1_up37, Vq1_pia, Vq1_pN, nta, ntb, mt_pi, mt_pl, mt_pr, mt_pN])
                exact v1
              · (try simp only [Vq2_pi_j18 hA, Vq2_pi_j22 hA, Vq2_pi_j30 hA, Vq2_pl, Vq2_pr, Vq2_up15, Vq2_up37, Vq2_pia, Vq2_pN, nta, ntb, mt_pi, mt_pl, mt_pr, mt_pN])
                exact v2
              · (try simp only [Vp_pi_j18 hA, Vp_pi_j30 hA, Vp_thr hA, Vp_pl, Vp_pr, Vp_up15, Vp_up37, Vp_pia, Vp_pN, nta, ntb, mt_pi, mt_pl, mt_pr, mt_pN])
                exact vp
              · simp only [Vl0, up, mi_pi, mi_pl, mi_pr, mi_pN, mt_pi, mt_pl, mt_pr, mt_pN, hta2, htb2, hn1, hn2, mi_pi, mi_pl, mi_pr, Nat.reduceLT, Nat.reduceEqDiff, and_false, true_and, and_true, if_false, if_true, true_and, and_self, and_true]
                first | exact hq9 | exact ⟨⟨rfl, rfl, rfl, rfl, rfl, rfl⟩, hq9⟩ | exact ⟨trivial, hq9⟩
              · (try simp only [Vl1_pi_j18 hA, Vl1_pi_j22 hA, Vl1_pi_j30 hA, Vl1_pl, Vl1_pr, Vl1_up15, Vl1_up37, Vl1_pia, Vl1_pN, nta, ntb, mt_pi, mt_pl, mt_pr, mt_pN])
                exact vl1
              · (try simp only [Vlr_pi_j18 hA, Vlr_pi_j22 hA, Vlr_pi_j30 hA, Vlr_pl_j39 hA, Vlr_pr, Vlr_up15, Vlr_up37, Vlr_pia, Vlr_pN, nta, ntb, mt_pi, mt_pl, mt_pr, mt_pN])
                exact vlr
              · (try simp only [Vsr_pi_j18 hA, Vsr_pi_j22 hA, Vsr_pi_j30 hA, Vsr_pl_j39 hA, Vsr_pr, Vsr_up15, Vsr_up37, Vsr_pia, Vsr_pN, nta, ntb, mt_pi, mt_pl, mt_pr, mt_pN])
                exact vsr
              · refine Vc_of (c := 0) vc (by decide) (fun k => ?_) (fun k => ?_) <;> simp only [mi_pi, mi_pl, mi_pr, hAe, Nat.reduceLT, Nat.reduceEqDiff, false_and, true_and, if_false, up, mi_pi, mi_pl, mi_pr, mi_pN, mt_pi, mt_pl, mt_pr, mt_pN, hta, htb]
              · simp only [Tx_up15, Tx_up37]
                refine Tx_of tx (by simp only [mz_pi, mz_pl, mz_pr, mz_pN]) (by simp only [mt_pi, mt_pl, mt_pr, mt_pN]; omega) (fun b hb => ?_) ?_ ?_ ?_
                · have q1 : (b = g_t h) = False := eq_false (by omega)
                  have q2 : (b = g_t h + 1) = False := eq_false (by omega)
                  simp only [mc_pi, mc_pl, mc_pr, mc_pN, mn_pi, mn_pl, mn_pr, mn_pN, mt_pi, mt_pl, mt_pr, mt_pN, q1, q2, if_false, and_self]
                · simp only [mr_pi, mr_pl, mr_pr, mr_pN, mt_pi, mt_pl, mt_pr, mt_pN, hta, htb, hAe, Nat.reduceLT, Nat.reduceEqDiff, and_false, and_true, if_false]
                · simp only [mi_pi, mi_pl, mi_pr, mi_pN, mt_pi, mt_pl, mt_pr, mt_pN, hta, htb, mi_pi, mi_pl, mi_pr, hAe, Nat.reduceLT, Nat.reduceEqDiff, and_false, and_true, if_false]
                · simp only [mi_pi, mi_pl, mi_pr, mi_pN, mt_pi, mt_pl, mt_pr, mt_pN, hta, htb, mi_pi, mi_pl, mi_pr, hAe, Nat.reduceLT, Nat.reduceEqDiff, and_false, and_true, if_false]
    · have hl2 := vl1
      obtain ⟨⟨b1, b2, b3, b4, b5, b6⟩, ln⟩ := hl2
      replace b1 := b1.symm
      replace b2 := b2.symm
      replace b3 := b3.symm
      replace b4 := b4.symm
      replace b5 := b5.symm
      replace b6 := b6.symm
      rw [b1, b2, b3, b4, b5, b6] at ln
      by_cases x0 : x < 0
      · skip
        simp only [↓ar_ite, ↓ar_ite2, ↓reduceIte, o320_0, o320_2, o320_3, o320_4, o320_5, o320_6, o320_9, o320_10, o320_13, o320_20, o320_21, o95_0, o95_1, o95_2, o95_5, o95_7, o95_8, o95_35, o95_36, o95_39, o95_40, o95_43, o226_0, o226_1, o226_2, o226_5, o226_12, o226_13, o226_16, o226_21, o226_22, o226_25, o226_26, o226_27, o226_29, o226_30, o226_57, o226_58, o226_59, o226_62, c_X8_isThrown__, c_X8_isLens, c_lensOf_1, c_ref_5 (cs := A 18), c_X8_no (cs := A 30), mc_pi, mc_pl, mn_pi, mn_pl, mi_pi, mi_pl, ml_pi, ml_pl, mr_pi, mr_pl, mz_pi, mz_pl, mcs_0, mcs_r, Kn_v, mrf_some, true_and, and_true, or_true, implies_true, and_self, Nat.reduceEqDiff, Nat.reduceLeDiff, Nat.reduceSub, Nat.reduceAdd, Nat.zero_le, Nat.le_refl, i10, Int32.reduceSub, cl1, cl5, Kc_v, Sum.inl.injEq, Option.some.injEq, Value.int.injEq, exists_eq_left', Nat.reduceLT, hAe, kc0, kc17, kc18, kc22, kc29, kc30, kc39, kn18, kn29, kn30, kr0_8, kr0_9, kr17_0, kr22_7, kr22_8, kr29_1, kz, be0, v18, cl5, x0]
        (try simp only [ite_ar, implies_true, true_and, and_true, Classical.not_not])
        first | refine ⟨RlX_of ⟨?_, ?_, ?_, ?_, ?_, ?_, ?_, ?_, ?_, ?_, ?_, ?_⟩, rfl⟩ | refine RlX_of ⟨?_, ?_, ?_, ?_, ?_, ?_, ?_, ?_, ?_, ?_, ?_, ?_⟩
        · (try simp only [K_pi, K_pl])
          exact vk
        · (try simp only [Cn_pi_j18 hA, Cn_pi_j22 hA, Cn_pi_j30 hA, Cn_pl])
          exact vcn
        · (try simp only [Vq0_pi_j18 hA, Vq0_pi_j22 hA, Vq0_pi_j30 hA, Vq0_pl])
          exact v0
        · (try simp only [Vq1_pi_j18 hA, Vq1_pi_j22 hA, Vq1_pi_j30 hA, Vq1_pl])
          exact v1
        · (try simp only [Vq2_pi_j18 hA, Vq2_pi_j22 hA, Vq2_pi_j30 hA, Vq2_pl])
          exact v2
        · (try simp only [Vp_pi_j18 hA, Vp_pi_j30 hA, Vp_thr hA, Vp_pl])
          exact vp
        · (try simp only [Vl0_pi_j18 hA, Vl0_pi_j22 hA, Vl0_pi_j30 hA, Vl0_pl])
          exact vl0
        · (try simp only [Vl1_pi_j18 hA, Vl1_pi_j22 hA, Vl1_pi_j30 hA, Vl1_pl])
          exact vl1
        · (try simp only [Vlr_pi_j18 hA, Vlr_pi_j22 hA, Vlr_pi_j30 hA, Vlr_pl_j39 hA])
          exact vlr
        · (try simp only [Vsr_pi_j18 hA, Vsr_pi_j22 hA, Vsr_pi_j30 hA, Vsr_pl_j39 hA])
          exact vsr
        · refine Vc_of (c := 5) vc (by decide) (fun k => ?_) (fun k => ?_) <;> simp only [mi_pi, mi_pl, hAe, Nat.reduceLT, Nat.reduceEqDiff, false_and, true_and, if_false]
        · (try simp only [Tx_pi_j18 hA, Tx_pi_j22 hA, Tx_pi_j30 hA, Tx_pl])
          exact tx
      · skip
        by_cases x1 : g_i h (A 16) 5 < x
        · skip
          simp only [↓ar_ite, ↓ar_ite2, ↓reduceIte, o320_0, o320_2, o320_3, o320_4, o320_5, o320_6, o320_9, o320_10, o320_13, o320_20, o320_21, o95_0, o95_1, o95_2, o95_5, o95_7, o95_8, o95_11, o95_12, o95_14, o95_17, o95_35, o95_36, o95_39, o95_40, o95_43, o226_0, o226_1, o226_2, o226_5, o226_12, o226_13, o226_16, o226_21, o226_22, o226_25, o226_26, o226_27, o226_29, o226_30, o226_33, o226_34, o226_36, o226_39, o226_57, o226_58, o226_59, o226_62, c_X8_isThrown__, c_X8_isLens, c_lensOf_1, c_ref_5 (cs := A 18), c_X8_no (cs := A 30), mc_pi, mc_pl, mn_pi, mn_pl, mi_pi, mi_pl, ml_pi, ml_pl, mr_pi, mr_pl, mz_pi, mz_pl, mcs_0, mcs_r, Kn_v, mrf_some, true_and, and_true, or_true, implies_true, and_self, Nat.reduceEqDiff, Nat.reduceLeDiff, Nat.reduceSub, Nat.reduceAdd, Nat.zero_le, Nat.le_refl, i10, Int32.reduceSub, cl1, cl5, Kc_v, Sum.inl.injEq, Option.some.injEq, Value.int.injEq, exists_eq_left', Nat.reduceLT, hAe, kc0, kc16, kc17, kc18, kc22, kc29, kc30, kc38, kc39, kn18, kn29, kn30, kr0_8, kr0_9, kr17_0, kr22_7, kr22_8, kr29_1, kz, be0, b5, v18, cl5, x0, x1]
          (try simp only [ite_ar, implies_true, true_and, and_true, Classical.not_not])
          first | refine ⟨RlX_of ⟨?_, ?_, ?_, ?_, ?_, ?_, ?_, ?_, ?_, ?_, ?_, ?_⟩, rfl⟩ | refine RlX_of ⟨?_, ?_, ?_, ?_, ?_, ?_, ?_, ?_, ?_, ?_, ?_, ?_⟩
          · (try simp only [K_pi, K_pl])
            exact vk
          · (try simp only [Cn_pi_j18 hA, Cn_pi_j22 hA, Cn_pi_j30 hA, Cn_pl])
            exact vcn
          · (try simp only [Vq0_pi_j18 hA, Vq0_pi_j22 hA, Vq0_pi_j30 hA, Vq0_pl])
            exact v0
          · (try simp only [Vq1_pi_j18 hA, Vq1_pi_j22 hA, Vq1_pi_j30 hA, Vq1_pl])
            exact v1
          · (try simp only [Vq2_pi_j18 hA, Vq2_pi_j22 hA, Vq2_pi_j30 hA, Vq2_pl])
            exact v2
          · (try simp only [Vp_pi_j18 hA, Vp_pi_j30 hA, Vp_thr hA, Vp_pl])
            exact vp
          · (try simp only [Vl0_pi_j18 hA, Vl0_pi_j22 hA, Vl0_pi_j30 hA, Vl0_pl])
            exact vl0
          · (try simp only [Vl1_pi_j18 hA, Vl1_pi_j22 hA, Vl1_pi_j30 hA, Vl1_pl])
            exact vl1
          · (try simp only [Vlr_pi_j18 hA, Vlr_pi_j22 hA, Vlr_pi_j30 hA, Vlr_pl_j39 hA])
            exact vlr
          · (try simp only [Vsr_pi_j18 hA, Vsr_pi_j22 hA, Vsr_pi_j30 hA, Vsr_pl_j39 hA])
            exact vsr
          · refine Vc_of (c := 5) vc (by decide) (fun k => ?_) (fun k => ?_) <;> simp only [mi_pi, mi_pl, hAe, Nat.reduceLT, Nat.reduceEqDiff, false_and, true_and, if_false]
          · (try simp only [Tx_pi_j18 hA, Tx_pi_j22 hA, Tx_pi_j30 hA, Tx_pl])
            exact tx
        · skip
          by_cases x2 : y < 0
          · skip
            simp only [↓ar_ite, ↓ar_ite2, ↓reduceIte, o320_0, o320_2, o320_3, o320_4, o320_5, o320_6, o320_9, o320_10, o320_13, o320_20, o320_21, o95_0, o95_1, o95_2, o95_5, o95_7, o95_8, o95_11, o95_12, o95_14, o95_17, o95_20, o95_21, o95_35, o95_36, o95_39, o95_40, o95_43, o226_0, o226_1, o226_2, o226_5, o226_12, o226_13, o226_16, o226_21, o226_22, o226_25, o226_26, o226_27, o226_29, o226_30, o226_33, o226_34, o226_36, o226_39, o226_42, o226_43, o226_57, o226_58, o226_59, o226_62, c_X8_isThrown__, c_X8_isLens, c_lensOf_1, c_ref_5 (cs := A 18), c_X8_no (cs := A 30), mc_pi, mc_pl, mn_pi, mn_pl, mi_pi, mi_pl, ml_pi, ml_pl, mr_pi, mr_pl, mz_pi, mz_pl, mcs_0, mcs_r, Kn_v, mrf_some, true_and, and_true, or_true, implies_true, and_self, Nat.reduceEqDiff, Nat.reduceLeDiff, Nat.reduceSub, Nat.reduceAdd, Nat.zero_le, Nat.le_refl, i10, Int32.reduceSub, cl1, cl5, Kc_v, Sum.inl.injEq, Option.some.injEq, Value.int.injEq, exists_eq_left', Nat.reduceLT, hAe, kc0, kc16, kc17, kc18, kc22, kc29, kc30, kc38, kc39, kn18, kn29, kn30, kr0_8, kr0_9, kr17_0, kr22_7, kr22_8, kr29_1, kz, be0, b5, v18, cl5, x0, x1, x2]
            (try simp only [ite_ar, implies_true, true_and, and_true, Classical.not_not])
            first | refine ⟨RlX_of ⟨?_, ?_, ?_, ?_, ?_, ?_, ?_, ?_, ?_, ?_, ?_, ?_⟩, rfl⟩ | refine RlX_of ⟨?_, ?_, ?_, ?_, ?_, ?_, ?_, ?_, ?_, ?_, ?_, ?_⟩
            · (try simp only [K_pi, K_pl])
              exact vk
            · (try simp only [Cn_pi_j18 hA, Cn_pi_j22 hA, Cn_pi_j30 hA, Cn_pl])
              exact vcn
            · (try simp only [Vq0_pi_j18 hA, Vq0_pi_j22 hA, Vq0_pi_j30 hA, Vq0_pl])
              exact v0
            · (try simp only [Vq1_pi_j18 hA, Vq1_pi_j22 hA, Vq1_pi_j30 hA, Vq1_pl])
              exact v1
            · (try simp only [Vq2_pi_j18 hA, Vq2_pi_j22 hA, Vq2_pi_j30 hA, Vq2_pl])
              exact v2
            · (try simp only [Vp_pi_j18 hA, Vp_pi_j30 hA, Vp_thr hA, Vp_pl])
              exact vp
            · (try simp only [Vl0_pi_j18 hA, Vl0_pi_j22 hA, Vl0_pi_j30 hA, Vl0_pl])
              exact vl0
            · (try simp only [Vl1_pi_j18 hA, Vl1_pi_j22 hA, Vl1_pi_j30 hA, Vl1_pl])
              exact vl1
            · (try simp only [Vlr_pi_j18 hA, Vlr_pi_j22 hA, Vlr_pi_j30 hA, Vlr_pl_j39 hA])
              exact vlr
            · (try simp only [Vsr_pi_j18 hA, Vsr_pi_j22 hA, Vsr_pi_j30 hA, Vsr_pl_j39 hA])
              exact vsr
            · refine Vc_of (c := 5) vc (by decide) (fun k => ?_) (fun k => ?_) <;> simp only [mi_pi, mi_pl, hAe, Nat.reduceLT, Nat.reduceEqDiff, false_and, true_and, if_false]
            · (try simp only [Tx_pi_j18 hA, Tx_pi_j22 hA, Tx_pi_j30 hA, Tx_pl])
              exact tx
          · skip
            by_cases x3 : g_i h (A 16) 5 - x < y
            · skip
              simp only [↓ar_ite, ↓ar_ite2, ↓reduceIte, o320_0, o320_2, o320_3, o320_4, o320_5, o320_6, o320_9, o320_10, o320_13, o320_20, o320_21, o95_0, o95_1, o95_2, o95_5, o95_7, o95_8, o95_11, o95_12, o95_14, o95_17, o95_20, o95_21, o95_24, o95_25, o95_27, o95_30, o95_31, o95_32, o95_35, o95_36, o95_39, o95_40, o95_43, o226_0, o226_1, o226_2, o226_5, o226_12, o226_13, o226_16, o226_21, o226_22, o226_25, o226_26, o226_27, o226_29, o226_30, o226_33, o226_34, o226_36, o226_39, o226_42, o226_43, o226_46, o226_47, o226_49, o226_52, o226_53, o226_54, o226_57, o226_58, o226_59, o226_62, c_X8_isThrown__, c_X8_isLens, c_lensOf_1, c_ref_5 (cs := A 18), c_X8_no (cs := A 30), mc_pi, mc_pl, mn_pi, mn_pl, mi_pi, mi_pl, ml_pi, ml_pl, mr_pi, mr_pl, mz_pi, mz_pl, mcs_0, mcs_r, Kn_v, mrf_some, true_and, and_true, or_true, not_true_eq_false, implies_true, and_self, Nat.reduceEqDiff, Nat.reduceLeDiff, Nat.reduceSub, Nat.reduceAdd, Nat.zero_le, Nat.le_refl, i10, lt_le, Int32.reduceSub, cl1, cl5, Kc_v, Sum.inl.injEq, Option.some.injEq, Value.int.injEq, exists_eq_left', Nat.reduceLT, hAe, kc0, kc16, kc17, kc18, kc22, kc29, kc30, kc38, kc39, kn18, kn29, kn30, kr0_8, kr0_9, kr17_0, kr22_7, kr22_8, kr29_1, kz, be0, b5, v18, cl5, x0, x1, x2, x3]
              (try simp only [ite_ar, implies_true, true_and, and_true, Classical.not_not])
              first | refine ⟨RlX_of ⟨?_, ?_, ?_, ?_, ?_, ?_, ?_, ?_, ?_, ?_, ?_, ?_⟩, rfl⟩ | refine RlX_of ⟨?_, ?_, ?_, ?_, ?_, ?_, ?_, ?_, ?_, ?_, ?_, ?_⟩
              · (try simp only [K_pi, K_pl])
                exact vk
              · (try simp only [Cn_pi_j18 hA, Cn_pi_j22 hA, Cn_pi_j30 hA, Cn_pl])
                exact vcn
              · (try simp only [Vq0_pi_j18 hA, Vq0_pi_j22 hA, Vq0_pi_j30 hA, Vq0_pl])
                exact v0
              · (try simp only [Vq1_pi_j18 hA, Vq1_pi_j22 hA, Vq1_pi_j30 hA, Vq1_pl])
                exact v1
              · (try simp only [Vq2_pi_j18 hA, Vq2_pi_j22 hA, Vq2_pi_j30 hA, Vq2_pl])
                exact v2
              · (try simp only [Vp_pi_j18 hA, Vp_pi_j30 hA, Vp_thr hA, Vp_pl])
                exact vp
              · (try simp only [Vl0_pi_j18 hA, Vl0_pi_j22 hA, Vl0_pi_j30 hA, Vl0_pl])
                exact vl0
              · (try simp only [Vl1_pi_j18 hA, Vl1_pi_j22 hA, Vl1_pi_j30 hA, Vl1_pl])
                exact vl1
              · (try simp only [Vlr_pi_j18 hA, Vlr_pi_j22 hA, Vlr_pi_j30 hA, Vlr_pl_j39 hA])
                exact vlr
              · (try simp only [Vsr_pi_j18 hA, Vsr_pi_j22 hA, Vsr_pi_j30 hA, Vsr_pl_j39 hA])
                exact vsr
              · refine Vc_of (c := 5) vc (by decide) (fun k => ?_) (fun k => ?_) <;> simp only [mi_pi, mi_pl, hAe, Nat.reduceLT, Nat.reduceEqDiff, false_and, true_and, if_false]
              · (try simp only [Tx_pi_j18 hA, Tx_pi_j22 hA, Tx_pi_j30 hA, Tx_pl])
                exact tx
            · have hq9 := lnCut ln (by decide) (by decide) x0 x1 x2 x3
              rcases ln.2.2.2.1 with s0 | s0
              · skip
                simp only [↓ar_ite, ↓ar_ite2, ↓reduceIte, o320_0, o320_2, o320_3, o320_4, o320_5, o320_6, o320_9, o320_10, o320_13, o320_20, o320_21, o95_0, o95_1, o95_2, o95_5, o95_7, o95_8, o95_11, o95_12, o95_14, o95_17, o95_20, o95_21, o95_24, o95_25, o95_27, o95_30, o95_31, o95_32, o95_44, o95_45, o95_46, o95_48, o95_49, o95_50, o95_53, o95_56, o95_57, o95_60, o95_61, o95_64, o226_0, o226_1, o226_2, o226_5, o226_12, o226_13, o226_16, o226_21, o226_22, o226_25, o226_26, o226_27, o226_29, o226_30, o226_33, o226_34, o226_36, o226_39, o226_42, o226_43, o226_46, o226_47, o226_49, o226_52, o226_53, o226_54, o226_63, o226_64, o226_67, o226_68, o226_70, o226_71, o226_72, o226_75, o226_76, o226_77, o226_78, o226_81, c_X8_isThrown__, c_X8_isLens, c_lensOf_1, c_X3_init, c_X7_init, c_X0_done (cs := A 18), c_X8_done (cs := A 30), mc_pi, mc_pl, mc_pr, mc_pN, mn_pi, mn_pl, mn_pr, mn_pN, mi_pi, mi_pl, mi_pr, mi_pN, ml_pi, ml_pl, ml_pr, ml_pN, mr_pi, mr_pl, mr_pr, mr_pN, mt_pi, mt_pl, mt_pr, mt_pN, mz_pi, mz_pl, mz_pr, mz_pN, mcs_0, mcs_i, mcs_r, Kn_v, Kn_0, mrf_some, true_and, and_true, and_false, or_true, not_false_eq_true, implies_true, and_self, Nat.reduceEqDiff, Nat.reduceLeDiff, Nat.reduceSub, Nat.reduceAdd, Nat.zero_le, Nat.le_refl, i10, kz0, lt_le, cl1, Kc_v, Sum.inl.injEq, Option.some.injEq, Value.int.injEq, exists_eq_left', Nat.reduceLT, hAe, kc0, kc16, kc17, kc18, kc22, kc29, kc30, kc38, kc39, kn18, kn29, kn30, kr0_8, kr0_9, kr16_0, kr17_0, kr22_7, kr22_8, kr29_1, kz, be0, b1, b3, b5, x0, x1, x2, x3, s0, kz0, hta, htb, hzt, hzt1, o48_0, o48_3, o48_4, o48_5, o48_8, o48_9, o48_12, o48_13, o48_14, o48_15, o48_16, o48_19, o48_22, o137_0, o137_1, o137_12, o137_13, o137_14, o137_17, o224_0, o224_3, o224_4, o224_5, o224_8, o224_9, o224_10, o224_11, o224_12, o224_15, o224_16, o224_19]
                (try simp only [ite_ar, implies_true, true_and, and_true, Classical.not_not])
                rw [s0] at hq9
                refine ⟨rfl, ⟨(up (up A 16 (g_t h)) 38 (g_t h + 1)), rfl, rfl, rfl, ⟨?_, ?_, ?_, ?_, ?_, ?_, ?_, ?_, ?_, ?_, ?_, ?_⟩⟩⟩
                · refine ⟨(inj_up (inj_up hA nta) (nt_up ntb (fun z => by omega))), ?_, (Kz1_up (Kz1_up vk.2.2.1 (by simp only [mz_pi, mz_pl, mz_pr, mz_pN]) (by simp only [mt_pi, mt_pl, mt_pr, mt_pN]; omega) hzt (by simp only [mt_pi, mt_pl, mt_pr, mt_pN]; omega)) rfl (Nat.le_refl _) (by simp only [mz_pi, mz_pl, mz_pr, mz_pN]; exact hzt1) (by simp only [mt_pi, mt_pl, mt_pr, mt_pN]; omega)), ?_, ?_⟩
                  · simp only [Kc1, up, mc_pi, mc_pl, mc_pr, mc_pN, mt_pi, mt_pl, mt_pr, mt_pN, hta, htb, hn1, hn2, Nat.reduceLT, Nat.reduceEqDiff, if_false, if_true, kc0, kc1, kc2, kc3, kc4, kc5, kc6, kc7, kc8, kc9, kc10, kc11, kc12, kc13, kc14, kc15, kc17, kc18, kc19, kc20, kc21, kc22, kc23, kc24, kc25, kc26, kc27, kc28, kc29, kc30, kc31, kc32, kc33, kc34, kc35, kc36, kc37, kc39, and_self]
                  · simp only [Kn1, up, mn_pi, mn_pl, mn_pr, mn_pN, mt_pi, mt_pl, mt_pr, mt_pN, hta, htb, Nat.reduceLT, Nat.reduceEqDiff, if_false, kn3, kn4, kn18, kn21, kn23, kn24, kn25, kn26, kn27, kn29, kn30, and_self]
                  · simp only [Kr1, up, mr_pi, mr_pl, mr_pr, mr_pN, mt_pi, mt_pl, mt_pr, mt_pN, hta, hta2, htb, hn1, hAe, Nat.reduceLT, Nat.reduceEqDiff, and_false, and_true, if_false, if_true, kr0_0, kr0_1, kr0_2, kr0_3, kr0_4, kr0_5, kr0_7, kr0_8, kr0_9, kr0_10, kr1_0, kr2_0, kr5_0, kr5_1, kr6_0, kr6_1, kr7_0, kr7_1, kr8_0, kr9_0, kr10_0, kr11_0, kr12_0, kr13_0, kr14_0, kr15_0, kr17_0, kr19_0, kr19_1, kr22_0, kr22_1, kr22_2, kr22_3, kr22_4, kr22_5, kr22_7, kr22_8, kr25_0, kr25_1, kr25_2, kr26_0, kr26_1, kr26_2, kr29_0, kr29_1, and_self]
                · simp only [Cn, up, mi_pi, mi_pl, mi_pr, mi_pN, mt_pi, mt_pl, mt_pr, mt_pN, hta, htb, mi_pi, mi_pl, mi_pr, hAe, Nat.reduceLT, Nat.reduceEqDiff, and_true, if_false, ki5_2, ki6_2, ki7_2, ki8_1, ki8_2, ki8_3, ki9_1, ki9_2, ki9_3, ki10_1, ki10_2, ki10_3, ki11_1, ki11_2, ki11_3, ki12_1, ki12_2, ki12_3, ki13_1, ki13_2, ki13_3, ki14_1, ki14_2, ki14_3, ki28_0, ki28_1, ki31_0, ki31_1, ki32_0, ki32_1, ki33_0, ki33_1, ki34_0, ki34_1, ki35_0, ki35_1, ki36_0, ki36_1, and_self]
                · (try simp only [Vq0_pi_j18 hA, Vq0_pi_j22 hA, Vq0_pi_j30 hA, Vq0_pl, Vq0_pr, Vq0_up16, Vq0_up38, Vq0_pia, Vq0_pN, nta, ntb, mt_pi, mt_pl, mt_pr, mt_pN])
                  exact v0
                · (try simp only [Vq1_pi_j18 hA, Vq1_pi_j22 hA, Vq1_pi_j30 hA, Vq1_pl, Vq1_pr, Vq1_up16, Vq1_up38, Vq1_pia, Vq1_pN, nta, ntb, mt_pi, mt_pl, mt_pr, mt_pN])
                  exact v1
                · (try simp only [Vq2_pi_j18 hA, Vq2_pi_j22 hA, Vq2_pi_j30 hA, Vq2_pl, Vq2_pr, Vq2_up16, Vq2_up38, Vq2_pia, Vq2_pN, nta, ntb, mt_pi, mt_pl, mt_pr, mt_pN])
                  exact v2
                · (try simp only [Vp_pi_j18 hA, Vp_pi_j30 hA, Vp_thr hA, Vp_pl, Vp_pr, Vp_up16, Vp_up38, Vp_pia, Vp_pN, nta, ntb, mt_pi, mt_pl, mt_pr, mt_pN])
                  exact vp
                · (try simp only [Vl0_pi_j18 hA, Vl0_pi_j22 hA, Vl0_pi_j30 hA, Vl0_pl, Vl0_pr, Vl0_up16, Vl0_up38, Vl0_pia, Vl0_pN, nta, ntb, mt_pi, mt_pl, mt_pr, mt_pN])
                  exact vl0
                · simp only [Vl1, up, mi_pi, mi_pl, mi_pr, mi_pN, mt_pi, mt_pl, mt_pr, mt_pN, hta2, htb2, hn1, hn2, mi_pi, mi_pl, mi_pr, Nat.reduceLT, Nat.reduceEqDiff, and_false, true_and, and_true, if_false, if_true, true_and, and_self, and_true]
                  first | exact hq9 | exact ⟨⟨rfl, rfl, rfl, rfl, rfl, rfl⟩, hq9⟩ | exact ⟨trivial, hq9⟩
                · (try simp only [Vlr_pi_j18 hA, Vlr_pi_j22 hA, Vlr_pi_j30 hA, Vlr_pl_j39 hA, Vlr_pr, Vlr_up16, Vlr_up38, Vlr_pia, Vlr_pN, nta, ntb, mt_pi, mt_pl, mt_pr, mt_pN])
                  exact vlr
                · (try simp only [Vsr_pi_j18 hA, Vsr_pi_j22 hA, Vsr_pi_j30 hA, Vsr_pl_j39 hA, Vsr_pr, Vsr_up16, Vsr_up38, Vsr_pia, Vsr_pN, nta, ntb, mt_pi, mt_pl, mt_pr, mt_pN])
                  exact vsr
                · refine Vc_of (c := 0) vc (by decide) (fun k => ?_) (fun k => ?_) <;> simp only [mi_pi, mi_pl, mi_pr, hAe, Nat.reduceLT, Nat.reduceEqDiff, false_and, true_and, if_false, up, mi_pi, mi_pl, mi_pr, mi_pN, mt_pi, mt_pl, mt_pr, mt_pN, hta, htb]
                · simp only [Tx_up16, Tx_up38]
                  refine Tx_of tx (by simp only [mz_pi, mz_pl, mz_pr, mz_pN]) (by simp only [mt_pi, mt_pl, mt_pr, mt_pN]; omega) (fun b hb => ?_) ?_ ?_ ?_
                  · have q1 : (b = g_t h) = False := eq_false (by omega)
                    have q2 : (b = g_t h + 1) = False := eq_false (by omega)
                    simp only [mc_pi, mc_pl, mc_pr, mc_pN, mn_pi, mn_pl, mn_pr, mn_pN, mt_pi, mt_pl, mt_pr, mt_pN, q1, q2, if_false, and_self]
                  · simp only [mr_pi, mr_pl, mr_pr, mr_pN, mt_pi, mt_pl, mt_pr, mt_pN, hta, htb, hAe, Nat.reduceLT, Nat.reduceEqDiff, and_false, and_true, if_false]
                  · simp only [mi_pi, mi_pl, mi_pr, mi_pN, mt_pi, mt_pl, mt_pr, mt_pN, hta, htb, mi_pi, mi_pl, mi_pr, hAe, Nat.reduceLT, Nat.reduceEqDiff, and_false, and_true, if_false]
                  · simp only [mi_pi, mi_pl, mi_pr, mi_pN, mt_pi, mt_pl, mt_pr, mt_pN, hta, htb, mi_pi, mi_pl, mi_pr, hAe, Nat.reduceLT, Nat.reduceEqDiff, and_false, and_true, if_false]
              · skip
                simp only [↓ar_ite, ↓ar_ite2, ↓reduceIte, o320_0, o320_2, o320_3, o320_4, o320_5, o320_6, o320_9, o320_10, o320_13, o320_20, o320_21, o95_0, o95_1, o95_2, o95_5, o95_7, o95_8, o95_11, o95_12, o95_14, o95_17, o95_20, o95_21, o95_24, o95_25, o95_27, o95_30, o95_31, o95_32, o95_44, o95_45, o95_46, o95_48, o95_49, o95_50, o95_53, o95_56, o95_57, o95_60, o95_61, o95_64, o226_0, o226_1, o226_2, o226_5, o226_12, o226_13, o226_16, o226_21, o226_22, o226_25, o226_26, o226_27, o226_29, o226_30, o226_33, o226_34, o226_36, o226_39, o226_42, o226_43, o226_46, o226_47, o226_49, o226_52, o226_53, o226_54, o226_63, o226_64, o226_67, o226_68, o226_70, o226_71, o226_72, o226_75, o226_76, o226_77, o226_78, o226_81, c_X8_isThrown__, c_X8_isLens, c_lensOf_1, c_X3_init, c_X7_init, c_X0_done (cs := A 18), c_X8_done (cs := A 30), mc_pi, mc_pl, mc_pr, mc_pN, mn_pi, mn_pl, mn_pr, mn_pN, mi_pi, mi_pl, mi_pr, mi_pN, ml_pi, ml_pl, ml_pr, ml_pN, mr_pi, mr_pl, mr_pr, mr_pN, mt_pi, mt_pl, mt_pr, mt_pN, mz_pi, mz_pl, mz_pr, mz_pN, mcs_0, mcs_i, mcs_r, Kn_v, Kn_0, mrf_some, true_and, and_true, and_false, or_true, not_false_eq_true, implies_true, and_self, Nat.reduceEqDiff, Nat.reduceLeDiff, Nat.reduceSub, Nat.reduceAdd, Nat.zero_le, Nat.le_refl, i10, kz1, lt_le, cl1, Kc_v, Sum.inl.injEq, Option.some.injEq, Value.int.injEq, exists_eq_left', Nat.reduceLT, hAe, kc0, kc16, kc17, kc18, kc22, kc29, kc30, kc38, kc39, kn18, kn29, kn30, kr0_8, kr0_9, kr16_0, kr17_0, kr22_7, kr22_8, kr29_1, kz, be0, b1, b3, b5, x0, x1, x2, x3, s0, kz1, hta, htb, hzt, hzt1, o48_0, o48_3, o48_4, o48_5, o48_8, o48_9, o48_12, o48_13, o48_14, o48_15, o48_16, o48_19, o48_22, o137_0, o137_1, o137_12, o137_13, o137_14, o137_17, o224_0, o224_3, o224_4, o224_5, o224_8, o224_9, o224_10, o224_11, o224_12, o224_15, o224_16, o224_19]
                (try simp only [ite_ar, implies_true, true_and, and_true, Classical.not_not])
                rw [s0] at hq9
                refine ⟨rfl, ⟨(up (up A 16 (g_t h)) 38 (g_t h + 1)), rfl, rfl, rfl, ⟨?_, ?_, ?_, ?_, ?_, ?_, ?_, ?_, ?_, ?_, ?_, ?_⟩⟩⟩
                · refine ⟨(inj_up (inj_up hA nta) (nt_up ntb (fun z => by omega))), ?_, (Kz1_up (Kz1_up vk.2.2.1 (by simp only [mz_pi, mz_pl, mz_pr, mz_pN]) (by simp only [mt_pi, mt_pl, mt_pr, mt_pN]; omega) hzt (by simp only [mt_pi, mt_pl, mt_pr, mt_pN]; omega)) rfl (Nat.le_refl _) (by simp only [mz_pi, mz_pl, mz_pr, mz_pN]; exact hzt1) (by simp only [mt_pi, mt_pl, mt_pr, mt_pN]; omega)), ?_, ?_⟩
                  · simp only [Kc1, up, mc_pi, mc_pl, mc_pr, mc_pN, mt_pi, mt_pl, mt_pr, mt_pN, hta, htb, hn1, hn2, Nat.reduceLT, Nat.reduceEqDiff, if_false, if_true, kc0, kc1, kc2, kc3, kc4, kc5, kc6, kc7, kc8, kc9, kc10, kc11, kc12, kc13, kc14, kc15, kc17, kc18, kc19, kc20, kc21, kc22, kc23, kc24, kc25, kc26, kc27, kc28, kc29, kc30, kc31, kc32, kc33, kc34, kc35, kc36, kc37, kc39, and_self]
                  · simp only [Kn1, up, mn_pi, mn_pl, mn_pr, mn_pN, mt_pi, mt_pl, mt_pr, mt_pN, hta, htb, Nat.reduceLT, Nat.reduceEqDiff, if_false, kn3, kn4, kn18, kn21, kn23, kn24, kn25, kn26, kn27, kn29, kn30, and_self]
                  · simp only [Kr1, up, mr_pi, mr_pl, mr_pr, mr_pN, mt_pi, mt_pl, mt_pr, mt_pN, hta, hta2, htb, hn1, hAe, Nat.reduceLT, Nat.reduceEqDiff, and_false, and_true, if_false, if_true, kr0_0, kr0_1, kr0_2, kr0_3, kr0_4, kr0_5, kr0_7, kr0_8, kr0_9, kr0_10, kr1_0, kr2_0, kr5_0, kr5_1, kr6_0, kr6_1, kr7_0, kr7_1, kr8_0, kr9_0, kr10_0, kr11_0, kr12_0, kr13_0, kr14_0, kr15_0, kr17_0, kr19_0, kr19_1, kr22_0, kr22_1, kr22_2, kr22_3, kr22_4, kr22_5, kr22_7, kr22_8, kr25_0, kr25_1, kr25_2, kr26_0, kr26_1, kr26_2, kr29_0, kr29_1, and_self]
                · simp only [Cn, up, mi_pi, mi_pl, mi_pr, mi_pN, mt_pi, mt_pl, mt_pr, mt_pN, hta, htb, mi_pi, mi_pl, mi_pr, hAe, Nat.reduceLT, Nat.reduceEqDiff, and_true, if_false, ki5_2, ki6_2, ki7_2, ki8_1, ki8_2, ki8_3, ki9_1, ki9_2, ki9_3, ki10_1, ki10_2, ki10_3, ki11_1, ki11_2, ki11_3, ki12_1, ki12_2, ki12_3, ki13_1, ki13_2, ki13_3, ki14_1, ki14_2, ki14_3, ki28_0, ki28_1, ki31_0, ki31_1, ki32_0, ki32_1, ki33_0, ki33_1, ki34_0, ki34_1, ki35_0, ki35_1, ki36_0, ki36_1, and_self]
                · (try simp only [Vq0_pi_j18 hA, Vq0_pi_j22 hA, Vq0_pi_j30 hA, Vq0_pl, Vq0_pr, Vq0_up16, Vq0_up38, Vq0_pia, Vq0_pN, nta, ntb, mt_pi, mt_pl, mt_pr, mt_pN])
                  exact v0
                · (try simp only [Vq1_pi_j18 hA, Vq1_pi_j22 hA, Vq1_pi_j30 hA, Vq1_pl, Vq1_pr, Vq1_up16, Vq1_up38, Vq1_pia, Vq1_pN, nta, ntb, mt_pi, mt_pl, mt_pr, mt_pN])
                  exact v1
                · (try simp only [Vq2_pi_j18 hA, Vq2_pi_j22 hA, Vq2_pi_j30 hA, Vq2_pl, Vq2_pr, Vq2_up16, Vq2_up38, Vq2_pia, Vq2_pN, nta, ntb, mt_pi, mt_pl, mt_pr, mt_pN])
                  exact v2
                · (try simp only [Vp_pi_j18 hA, Vp_pi_j30 hA, Vp_thr hA, Vp_pl, Vp_pr, Vp_up16, Vp_up38, Vp_pia, Vp_pN, nta, ntb, mt_pi, mt_pl, mt_pr, mt_pN])
                  exact vp
                · (try simp only [Vl0_pi_j18 hA, Vl0_pi_j22 hA, Vl0_pi_j30 hA, Vl0_pl, Vl0_pr, Vl0_up16, Vl0_up38, Vl0_pia, Vl0_pN, nta, ntb, mt_pi, mt_pl, mt_pr, mt_pN])
                  exact vl0
                · simp only [Vl1, up, mi_pi, mi_pl, mi_pr, mi_pN, mt_pi, mt_pl, mt_pr, mt_pN, hta2, htb2, hn1, hn2, mi_pi, mi_pl, mi_pr, Nat.reduceLT, Nat.reduceEqDiff, and_false, true_and, and_true, if_false, if_true, true_and, and_self, and_true]
                  first | exact hq9 | exact ⟨⟨rfl, rfl, rfl, rfl, rfl, rfl⟩, hq9⟩ | exact ⟨trivial, hq9⟩
                · (try simp only [Vlr_pi_j18 hA, Vlr_pi_j22 hA, Vlr_pi_j30 hA, Vlr_pl_j39 hA, Vlr_pr, Vlr_up16, Vlr_up38, Vlr_pia, Vlr_pN, nta, ntb, mt_pi, mt_pl, mt_pr, mt_pN])
                  exact vlr
                · (try simp only [Vsr_pi_j18 hA, Vsr_pi_j22 hA, Vsr_pi_j30 hA, Vsr_pl_j39 hA, Vsr_pr, Vsr_up16, Vsr_up38, Vsr_pia, Vsr_pN, nta, ntb, mt_pi, mt_pl, mt_pr, mt_pN])
                  exact vsr
                · refine Vc_of (c := 0) vc (by decide) (fun k => ?_) (fun k => ?_) <;> simp only [mi_pi, mi_pl, mi_pr, hAe, Nat.reduceLT, Nat.reduceEqDiff, false_and, true_and, if_false, up, mi_pi, mi_pl, mi_pr, mi_pN, mt_pi, mt_pl, mt_pr, mt_pN, hta, htb]
                · simp only [Tx_up16, Tx_up38]
                  refine Tx_of tx (by simp only [mz_pi, mz_pl, mz_pr, mz_pN]) (by simp only [mt_pi, mt_pl, mt_pr, mt_pN]; omega) (fun b hb => ?_) ?_ ?_ ?_
                  · have q1 : (b = g_t h) = False := eq_false (by omega)
                    have q2 : (b = g_t h + 1) = False := eq_false (by omega)
                    simp only [mc_pi, mc_pl, mc_pr, mc_pN, mn_pi, mn_pl, mn_pr, mn_pN, mt_pi, mt_pl, mt_pr, mt_pN, q1, q2, if_false, and_self]
                  · simp only [mr_pi, mr_pl, mr_pr, mr_pN, mt_pi, mt_pl, mt_pr, mt_pN, hta, htb, hAe, Nat.reduceLT, Nat.reduceEqDiff, and_false, and_true, if_false]
                  · simp only [mi_pi, mi_pl, mi_pr, mi_pN, mt_pi, mt_pl, mt_pr, mt_pN, hta, htb, mi_pi, mi_pl, mi_pr, hAe, Nat.reduceLT, Nat.reduceEqDiff, and_false, and_true, if_false]
                  · simp only [mi_pi, mi_pl, mi_pr, mi_pN, mt_pi, mt_pl, mt_pr, mt_pN, hta, htb, mi_pi, mi_pl, mi_pr, hAe, Nat.reduceLT, Nat.reduceEqDiff, and_false, and_true, if_false]


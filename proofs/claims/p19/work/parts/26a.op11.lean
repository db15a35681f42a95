/-! lensTurn, squeeze -/
theorem lnC {lo hi : Int} {x : Nat} {f n s p l m : Int32} (k : lnOk lo hi x f n s p l m) : lnOk lo hi x f n s 0 n (-1) := by
  obtain ⟨k1, k2, k3, k4, k5, k6, k7, k8, k9, k10⟩ := k
  have z0 : (0 : Int32).toInt = 0 := rfl
  have zm : (-1 : Int32).toInt = -1 := rfl
  exact ⟨k1, k2, k3, k4, k5, by omega, by omega, by omega, by omega, by omega⟩
theorem lnFl {lo hi : Int} {x : Nat} {f n s p l m : Int32} (k : lnOk lo hi x f n s p l m) : lnOk lo hi x f n s 0 p (-1) := by
  obtain ⟨k1, k2, k3, k4, k5, k6, k7, k8, k9, k10⟩ := k
  have z0 : (0 : Int32).toInt = 0 := rfl
  have zm : (-1 : Int32).toInt = -1 := rfl
  exact ⟨k1, k2, k3, k4, k5, by omega, by omega, by omega, by omega, by omega⟩
theorem lnR {lo hi : Int} {x : Nat} {f n s p l m : Int32} (k : lnOk lo hi x f n s p l m) : lnOk lo hi x f n s 0 l (-1) := by
  obtain ⟨k1, k2, k3, k4, k5, k6, k7, k8, k9, k10⟩ := k
  have z0 : (0 : Int32).toInt = 0 := rfl
  have zm : (-1 : Int32).toInt = -1 := rfl
  exact ⟨k1, k2, k3, k4, k5, by omega, by omega, by omega, by omega, by omega⟩
theorem lnM {lo hi : Int} {x : Nat} {f n s p l m : Int32} (k : lnOk lo hi x f n s p l m) : lnOk lo hi x f n s p l p := by
  obtain ⟨k1, k2, k3, k4, k5, k6, k7, k8, k9, k10⟩ := k
  have z0 : (0 : Int32).toInt = 0 := rfl
  have zm : (-1 : Int32).toInt = -1 := rfl
  exact ⟨k1, k2, k3, k4, k5, by omega, by omega, by omega, by omega, by omega⟩
theorem lnB {lo hi : Int} {x : Nat} {f n s p l m : Int32} (k : lnOk lo hi x f n s p l m) (h : ¬ m < 0) : lnOk lo hi x f n s m l m := by
  obtain ⟨k1, k2, k3, k4, k5, k6, k7, k8, k9, k10⟩ := k
  have z0 : (0 : Int32).toInt = 0 := rfl
  have zm : (-1 : Int32).toInt = -1 := rfl
  rw [Int32.lt_iff_toInt_lt] at h
  exact ⟨k1, k2, k3, k4, k5, by omega, by omega, by omega, by omega, by omega⟩
theorem lnMk {lo hi : Int} {x : Nat} {f n s p l m : Int32} (k : lnOk lo hi x f n s p l m) : (m < 0 ∧ m = -1) ∨ (¬ m < 0 ∧ ¬ m = -1) := by
  obtain ⟨k1, k2, k3, k4, k5, k6, k7, k8, k9, k10⟩ := k
  have z0 : (0 : Int32).toInt = 0 := rfl
  have zm : (-1 : Int32).toInt = -1 := rfl
  rw [Int32.lt_iff_toInt_lt]
  by_cases h : m.toInt < (0 : Int32).toInt
  · exact Or.inl ⟨h, Int32.toInt_inj.mp (by omega)⟩
  · exact Or.inr ⟨h, fun z => h (by rw [z]; decide)⟩
theorem toNat_of {x : Int32} (h : 0 ≤ x.toInt) : x = Int32.ofNat x.toInt.toNat := by
  apply Int32.toInt_inj.mp
  have := x.toInt_lt
  rw [Int32.toInt_ofNat_of_lt (by omega)]
  omega
theorem lnNat {lo hi : Int} {x : Nat} {f n s p l m : Int32} (k : lnOk lo hi x f n s p l m) (h0 : 0 ≤ lo) (h1 : hi ≤ 35) : ∃ F N P L : Nat, f = Int32.ofNat F ∧ n = Int32.ofNat N ∧ p = Int32.ofNat P ∧ l = Int32.ofNat L ∧ P ≤ L ∧ L ≤ N ∧ F + N ≤ 35 ∧ lnOk lo hi x f n s (Int32.ofNat (L - P)) n (-1) := by
  obtain ⟨k1, k2, k3, k4, k5, k6, k7, k8, k9, k10⟩ := k
  have z0 : (0 : Int32).toInt = 0 := rfl
  have zm : (-1 : Int32).toInt = -1 := rfl
  refine ⟨f.toInt.toNat, n.toInt.toNat, p.toInt.toNat, l.toInt.toNat, toNat_of (by omega), toNat_of (by omega), toNat_of (by omega), toNat_of (by omega), by omega, by omega, by omega, ?_⟩
  have e : (Int32.ofNat (l.toInt.toNat - p.toInt.toNat)).toInt = l.toInt - p.toInt := by
    rw [Int32.toInt_ofNat_of_lt (by omega)]
    omega
  exact ⟨k1, k2, k3, k4, k5, by omega, by omega, by omega, by omega, by omega⟩
theorem hx_319_1 {l rest : List Value} {bc bs : Nat} {Q : MR → MH → Prop} {h : MH} : Kc Ok 319 4 7 l rest bc bs Q (.inr 1) h ↔ ∀ q : Nat, Ok 319 14 l [.ref q] h bc bs Q := Kc_x (by decide +kernel) (by decide +kernel)
theorem hx_319_2 {l rest : List Value} {bc bs : Nat} {Q : MR → MH → Prop} {h : MH} : Kc Ok 319 4 7 l rest bc bs Q (.inr 2) h ↔ ∀ q : Nat, Ok 319 18 l [.ref q] h bc bs Q := Kc_x (by decide +kernel) (by decide +kernel)
set_option maxHeartbeats 8000000 in
theorem op_lensTurn {A : Nat → Nat} {h : MH} (R : Rl A h) {e x : Int32} : Ok 319 0 [.ref (A 0), .int e, .int x, .ref (A 39), mk0] [] h 2 12 (fun r h1 => ∃ k : Int32, r = .inl (some (.int k)) ∧ g_c h1 (A 22) = 9 ∧ Ok 224 0 [.ref (A 22), .int e, .int x, mk0] [] h1 0 0 (fun r2 h2 => ∃ b : Int32, r2 = .inl (some (.int b)) ∧ Rl A h2 ∧ g_i h2 (A 22) 9 = k ∧ (k = 0 → g_l h2 (A 39) 0 = b.toInt64))) := by
  obtain ⟨vk, vcn, v0, v1, v2, vp, vl0, vl1, vlr, vsr, vc, tx⟩ := R
  have vk0 := vk
  have vcn0 := vcn
  (refine K_el vk0 ?_; intros hA kc0 kc1 kc2 kc3 kc4 kc5 kc6 kc7 kc8 kc9 kc10 kc11 kc12 kc13 kc14 kc15 kc16 kc17 kc18 kc19 kc20 kc21 kc22 kc23 kc24 kc25 kc26 kc27 kc28 kc29 kc30 kc31 kc32 kc33 kc34 kc35 kc36 kc37 kc38 kc39 kz kt kn3 kn4 kn18 kn21 kn23 kn24 kn25 kn26 kn27 kn29 kn30 kr0_0 kr0_1 kr0_2 kr0_3 kr0_4 kr0_5 kr0_7 kr0_8 kr0_9 kr0_10 kr1_0 kr2_0 kr5_0 kr5_1 kr6_0 kr6_1 kr7_0 kr7_1 kr8_0 kr9_0 kr10_0 kr11_0 kr12_0 kr13_0 kr14_0 kr15_0 kr16_0 kr17_0 kr19_0 kr19_1 kr22_0 kr22_1 kr22_2 kr22_3 kr22_4 kr22_5 kr22_7 kr22_8 kr25_0 kr25_1 kr25_2 kr26_0 kr26_1 kr26_2 kr29_0 kr29_1)
  (refine Cn_el vcn0 ?_; intros ki5_2 ki6_2 ki7_2 ki8_1 ki8_2 ki8_3 ki9_1 ki9_2 ki9_3 ki10_1 ki10_2 ki10_3 ki11_1 ki11_2 ki11_3 ki12_1 ki12_2 ki12_3 ki13_1 ki13_2 ki13_3 ki14_1 ki14_2 ki14_3 ki28_0 ki28_1 ki31_0 ki31_1 ki32_0 ki32_1 ki33_0 ki33_1 ki34_0 ki34_1 ki35_0 ki35_1 ki36_0 ki36_1)
  have hAe : ∀ i j, i < 40 → j < 40 → (A i = A j ↔ i = j) := hA
  by_cases bx0 : x < 0 <;> by_cases bx9 : 5 < x
  · exact absurd (Int32.lt_trans bx9 bx0) (by decide)
  · by_cases be : e < 0 ∨ ¬ e < 2
    · have be2 := e_bad be
      simp only [↓ar_ite, ↓ar_ite2, ↓reduceIte, o319_0, o319_1, o319_2, o319_3, o319_4, o319_14, o319_16, o319_17, o93_0, o93_1, o93_2, o224_0, o224_1, o224_2, o224_5, o224_8, o224_9, o224_13, o224_14, o224_22, o224_23, o224_27, o224_30, o224_33, o224_34, hx_319_1, c_X8_isThrown_, c_X8_isLens, c_lensOf_bad, mc_pT, mi_pi, ml_pi, ml_pT, mz_pT, mcs_0, mcs_r, Kn_v, Kn_x, true_and, and_true, false_implies, forall_const, and_self, Nat.reduceLeDiff, Nat.reduceSub, Nat.reduceAdd, Nat.zero_le, Nat.le_refl, i10, Sum.inl.injEq, Option.some.injEq, Value.int.injEq, exists_eq_left', Nat.reduceLT, kc0, kc22, kz, be, be2, bx0]
      (try simp only [ite_ar, implies_true, true_and, and_true, Classical.not_not])
      intro t ht
      first | refine ⟨⟨?_, ?_, ?_, ?_, ?_, ?_, ?_, ?_, ?_, ?_, ?_, ?_⟩, rfl⟩ | refine ⟨?_, ?_, ?_, ?_, ?_, ?_, ?_, ?_, ?_, ?_, ?_, ?_⟩
      · (try simp only [K_pi])
        exact K_pT ht vk
      · (try simp only [Cn_pi_j22 hA, Cn_pT])
        exact vcn
      · (try simp only [Vq0_pi_j22 hA, Vq0_pT])
        exact v0
      · (try simp only [Vq1_pi_j22 hA, Vq1_pT])
        exact v1
      · (try simp only [Vq2_pi_j22 hA, Vq2_pT])
        exact v2
      · (try simp only [Vp_thr hA, Vp_pT])
        exact vp
      · (try simp only [Vl0_pi_j22 hA, Vl0_pT])
        exact vl0
      · (try simp only [Vl1_pi_j22 hA, Vl1_pT])
        exact vl1
      · (try simp only [Vlr_pi_j22 hA, Vlr_pT])
        exact vlr
      · (try simp only [Vsr_pi_j22 hA, Vsr_pT])
        exact vsr
      · (try simp only [Vc_pi_j22 hA, Vc_pT])
        exact vc
      · (try simp only [Tx_pi_j22 hA])
        exact Tx_pT ht tx
    · have y1 : ¬ e < 0 := fun z => be (Or.inl z)
      have y2 : e < 2 := Classical.byContradiction fun z => be (Or.inr z)
      rcases e_cases y1 y2 with rfl | rfl
      · skip
        simp only [↓ar_ite, ↓ar_ite2, ↓reduceIte, o319_0, o319_1, o319_2, o319_3, o319_4, o319_18, o319_20, o319_21, o93_0, o93_1, o93_2, o93_5, o93_6, o93_7, o93_8, o224_0, o224_1, o224_2, o224_5, o224_12, o224_13, o224_14, o224_22, o224_23, o224_27, o224_30, o224_33, o224_34, hx_319_2, c_X8_isThrown_, c_X8_isLens, c_X5_checkChoice, c_lensOf_0, mc_pT, mi_pi, ml_pi, ml_pT, mz_pT, mcs_0, mcs_r, Kn_v, Kn_x, true_and, and_true, and_false, or_false, false_implies, forall_const, and_self, Nat.reduceLeDiff, Nat.reduceSub, Nat.reduceAdd, Nat.zero_le, Nat.le_refl, i10, i01, Sum.inl.injEq, Option.some.injEq, Value.int.injEq, exists_eq_left', Nat.reduceLT, i20, kc0, kc22, kr0_7, kz, bx0, bx9]
        (try simp only [ite_ar, implies_true, true_and, and_true, Classical.not_not])
        intro t ht
        first | refine ⟨⟨?_, ?_, ?_, ?_, ?_, ?_, ?_, ?_, ?_, ?_, ?_, ?_⟩, rfl⟩ | refine ⟨?_, ?_, ?_, ?_, ?_, ?_, ?_, ?_, ?_, ?_, ?_, ?_⟩
        · (try simp only [K_pi])
          exact K_pT ht vk
        · (try simp only [Cn_pi_j22 hA, Cn_pT])
          exact vcn
        · (try simp only [Vq0_pi_j22 hA, Vq0_pT])
          exact v0
        · (try simp only [Vq1_pi_j22 hA, Vq1_pT])
          exact v1
        · (try simp only [Vq2_pi_j22 hA, Vq2_pT])
          exact v2
        · (try simp only [Vp_thr hA, Vp_pT])
          exact vp
        · (try simp only [Vl0_pi_j22 hA, Vl0_pT])
          exact vl0
        · (try simp only [Vl1_pi_j22 hA, Vl1_pT])
          exact vl1
        · (try simp only [Vlr_pi_j22 hA, Vlr_pT])
          exact vlr
        · (try simp only [Vsr_pi_j22 hA, Vsr_pT])
          exact vsr
        · (try simp only [Vc_pi_j22 hA, Vc_pT])
          exact vc
        · (try simp only [Tx_pi_j22 hA])
          exact Tx_pT ht tx
      · skip
        simp only [↓ar_ite, ↓ar_ite2, ↓reduceIte, o319_0, o319_1, o319_2, o319_3, o319_4, o319_18, o319_20, o319_21, o93_0, o93_1, o93_2, o93_5, o93_6, o93_7, o93_8, o224_0, o224_1, o224_2, o224_5, o224_12, o224_13, o224_14, o224_22, o224_23, o224_27, o224_30, o224_33, o224_34, hx_319_2, c_X8_isThrown_, c_X8_isLens, c_X5_checkChoice, c_lensOf_1, mc_pT, mi_pi, ml_pi, ml_pT, mz_pT, mcs_0, mcs_r, Kn_v, Kn_x, true_and, and_true, and_false, or_true, or_false, false_implies, forall_const, and_self, Nat.reduceLeDiff, Nat.reduceSub, Nat.reduceAdd, Nat.zero_le, Nat.le_refl, i10, Sum.inl.injEq, Option.some.injEq, Value.int.injEq, exists_eq_left', Nat.reduceLT, i20, kc0, kc22, kr0_8, kz, bx0, bx9]
        (try simp only [ite_ar, implies_true, true_and, and_true, Classical.not_not])
        intro t ht
        first | refine ⟨⟨?_, ?_, ?_, ?_, ?_, ?_, ?_, ?_, ?_, ?_, ?_, ?_⟩, rfl⟩ | refine ⟨?_, ?_, ?_, ?_, ?_, ?_, ?_, ?_, ?_, ?_, ?_, ?_⟩
        · (try simp only [K_pi])
          exact K_pT ht vk
        · (try simp only [Cn_pi_j22 hA, Cn_pT])
          exact vcn
        · (try simp only [Vq0_pi_j22 hA, Vq0_pT])
          exact v0
        · (try simp only [Vq1_pi_j22 hA, Vq1_pT])
          exact v1
        · (try simp only [Vq2_pi_j22 hA, Vq2_pT])
          exact v2
        · (try simp only [Vp_thr hA, Vp_pT])
          exact vp
        · (try simp only [Vl0_pi_j22 hA, Vl0_pT])
          exact vl0
        · (try simp only [Vl1_pi_j22 hA, Vl1_pT])
          exact vl1
        · (try simp only [Vlr_pi_j22 hA, Vlr_pT])
          exact vlr
        · (try simp only [Vsr_pi_j22 hA, Vsr_pT])
          exact vsr
        · (try simp only [Vc_pi_j22 hA, Vc_pT])
          exact vc
        · (try simp only [Tx_pi_j22 hA])
          exact Tx_pT ht tx
  · by_cases be : e < 0 ∨ ¬ e < 2
    · have be2 := e_bad be
      simp only [↓ar_ite, ↓ar_ite2, ↓reduceIte, o319_0, o319_1, o319_2, o319_3, o319_4, o319_14, o319_16, o319_17, o93_0, o93_1, o93_2, o224_0, o224_1, o224_2, o224_5, o224_8, o224_9, o224_13, o224_14, o224_17, o224_18, o224_19, o224_22, o224_23, o224_27, o224_30, o224_33, o224_34, hx_319_1, c_X8_isThrown_, c_X8_isLens, c_lensOf_bad, mc_pT, mi_pi, ml_pi, ml_pT, mz_pT, mcs_0, mcs_r, Kn_v, Kn_x, true_and, and_true, not_true_eq_false, false_implies, forall_const, and_self, Nat.reduceLeDiff, Nat.reduceSub, Nat.reduceAdd, Nat.zero_le, Nat.le_refl, i10, lt_le, Sum.inl.injEq, Option.some.injEq, Value.int.injEq, exists_eq_left', Nat.reduceLT, kc0, kc22, kz, be, be2, bx0, bx9]
      (try simp only [ite_ar, implies_true, true_and, and_true, Classical.not_not])
      intro t ht
      first | refine ⟨⟨?_, ?_, ?_, ?_, ?_, ?_, ?_, ?_, ?_, ?_, ?_, ?_⟩, rfl⟩ | refine ⟨?_, ?_, ?_, ?_, ?_, ?_, ?_, ?_, ?_, ?_, ?_, ?_⟩
      · (try simp only [K_pi])
        exact K_pT ht vk
      · (try simp only [Cn_pi_j22 hA, Cn_pT])
        exact vcn
      · (try simp only [Vq0_pi_j22 hA, Vq0_pT])
        exact v0
      · (try simp only [Vq1_pi_j22 hA, Vq1_pT])
        exact v1
      · (try simp only [Vq2_pi_j22 hA, Vq2_pT])
        exact v2
      · (try simp only [Vp_thr hA, Vp_pT])
        exact vp
      · (try simp only [Vl0_pi_j22 hA, Vl0_pT])
        exact vl0
      · (try simp only [Vl1_pi_j22 hA, Vl1_pT])
        exact vl1
      · (try simp only [Vlr_pi_j22 hA, Vlr_pT])
        exact vlr
      · (try simp only [Vsr_pi_j22 hA, Vsr_pT])
        exact vsr
      · (try simp only [Vc_pi_j22 hA, Vc_pT])
        exact vc
      · (try simp only [Tx_pi_j22 hA])
        exact Tx_pT ht tx
    · have y1 : ¬ e < 0 := fun z => be (Or.inl z)
      have y2 : e < 2 := Classical.byContradiction fun z => be (Or.inr z)
      rcases e_cases y1 y2 with rfl | rfl
      · skip
        simp only [↓ar_ite, ↓ar_ite2, ↓reduceIte, o319_0, o319_1, o319_2, o319_3, o319_4, o319_18, o319_20, o319_21, o93_0, o93_1, o93_2, o93_5, o93_6, o93_7, o93_8, o224_0, o224_1, o224_2, o224_5, o224_12, o224_13, o224_14, o224_17, o224_18, o224_19, o224_22, o224_23, o224_27, o224_30, o224_33, o224_34, hx_319_2, c_X8_isThrown_, c_X8_isLens, c_X5_checkChoice, c_lensOf_0, mc_pT, mi_pi, ml_pi, ml_pT, mz_pT, mcs_0, mcs_r, Kn_v, Kn_x, true_and, and_true, and_false, or_true, or_false, not_true_eq_false, false_implies, forall_const, and_self, Nat.reduceLeDiff, Nat.reduceSub, Nat.reduceAdd, Nat.zero_le, Nat.le_refl, i10, i01, lt_le, Sum.inl.injEq, Option.some.injEq, Value.int.injEq, exists_eq_left', Nat.reduceLT, i20, kc0, kc22, kr0_7, kz, bx0, bx9]
        (try simp only [ite_ar, implies_true, true_and, and_true, Classical.not_not])
        intro t ht
        first | refine ⟨⟨?_, ?_, ?_, ?_, ?_, ?_, ?_, ?_, ?_, ?_, ?_, ?_⟩, rfl⟩ | refine ⟨?_, ?_, ?_, ?_, ?_, ?_, ?_, ?_, ?_, ?_, ?_, ?_⟩
        · (try simp only [K_pi])
          exact K_pT ht vk
        · (try simp only [Cn_pi_j22 hA, Cn_pT])
          exact vcn
        · (try simp only [Vq0_pi_j22 hA, Vq0_pT])
          exact v0
        · (try simp only [Vq1_pi_j22 hA, Vq1_pT])
          exact v1
        · (try simp only [Vq2_pi_j22 hA, Vq2_pT])
          exact v2
        · (try simp only [Vp_thr hA, Vp_pT])
          exact vp
        · (try simp only [Vl0_pi_j22 hA, Vl0_pT])
          exact vl0
        · (try simp only [Vl1_pi_j22 hA, Vl1_pT])
          exact vl1
        · (try simp only [Vlr_pi_j22 hA, Vlr_pT])
          exact vlr
        · (try simp only [Vsr_pi_j22 hA, Vsr_pT])
          exact vsr
        · (try simp only [Vc_pi_j22 hA, Vc_pT])
          exact vc
        · (try simp only [Tx_pi_j22 hA])
          exact Tx_pT ht tx
      · skip
        simp only [↓ar_ite, ↓ar_ite2, ↓reduceIte, o319_0, o319_1, o319_2, o319_3, o319_4, o319_18, o319_20, o319_21, o93_0, o93_1, o93_2, o93_5, o93_6, o93_7, o93_8, o224_0, o224_1, o224_2, o224_5, o224_12, o224_13, o224_14, o224_17, o224_18, o224_19, o224_22, o224_23, o224_27, o224_30, o224_33, o224_34, hx_319_2, c_X8_isThrown_, c_X8_isLens, c_X5_checkChoice, c_lensOf_1, mc_pT, mi_pi, ml_pi, ml_pT, mz_pT, mcs_0, mcs_r, Kn_v, Kn_x, true_and, and_true, and_false, or_true, not_true_eq_false, false_implies, forall_const, and_self, Nat.reduceLeDiff, Nat.reduceSub, Nat.reduceAdd, Nat.zero_le, Nat.le_refl, i10, lt_le, Sum.inl.injEq, Option.some.injEq, Value.int.injEq, exists_eq_left', Nat.reduceLT, i20, kc0, kc22, kr0_8, kz, bx0, bx9]
        (try simp only [ite_ar, implies_true, true_and, and_true, Classical.not_not])
        intro t ht
        first | refine ⟨⟨?_, ?_, ?_, ?_, ?_, ?_, ?_, ?_, ?_, ?_, ?_, ?_⟩, rfl⟩ | refine ⟨?_, ?_, ?_, ?_, ?_, ?_, ?_, ?_, ?_, ?_, ?_, ?_⟩
        · (try simp only [K_pi])
          exact K_pT ht vk
        · (try simp only [Cn_pi_j22 hA, Cn_pT])
          exact vcn
        · (try simp only [Vq0_pi_j22 hA, Vq0_pT])
          exact v0
        · (try simp only [Vq1_pi_j22 hA, Vq1_pT])
          exact v1
        · (try simp only [Vq2_pi_j22 hA, Vq2_pT])
          exact v2
        · (try simp only [Vp_thr hA, Vp_pT])
          exact vp
        · (try simp only [Vl0_pi_j22 hA, Vl0_pT])
          exact vl0
        · (try simp only [Vl1_pi_j22 hA, Vl1_pT])
          exact vl1
        · (try simp only [Vlr_pi_j22 hA, Vlr_pT])
          exact vlr
        · (try simp only [Vsr_pi_j22 hA, Vsr_pT])
          exact vsr
        · (try simp only [Vc_pi_j22 hA, Vc_pT])
          exact vc
        · (try simp only [Tx_pi_j22 hA])
          exact Tx_pT ht tx
  · by_cases be : e < 0 ∨ ¬ e < 2
    · have be2 := e_bad be
      simp only [↓ar_ite, ↓ar_ite2, ↓reduceIte, o319_0, o319_1, o319_2, o319_3, o319_4, o319_14, o319_16, o319_17, o93_0, o93_1, o93_2, o224_0, o224_1, o224_2, o224_5, o224_8, o224_9, o224_13, o224_14, o224_17, o224_18, o224_19, o224_26, o224_27, o224_30, o224_33, o224_34, hx_319_1, c_X8_isThrown_, c_X8_isLens, c_lensOf_bad, mc_pT, mi_pi, ml_pi, ml_pT, mz_pT, mcs_0, mcs_r, Kn_v, Kn_x, true_and, and_true, not_false_eq_true, false_implies, forall_const, and_self, Nat.reduceLeDiff, Nat.reduceSub, Nat.reduceAdd, Nat.zero_le, Nat.le_refl, i10, lt_le, Sum.inl.injEq, Option.some.injEq, Value.int.injEq, exists_eq_left', Nat.reduceLT, kc0, kc22, kz, be, be2, bx0, bx9]
      (try simp only [ite_ar, implies_true, true_and, and_true, Classical.not_not])
      intro t ht
      first | refine ⟨⟨?_, ?_, ?_, ?_, ?_, ?_, ?_, ?_, ?_, ?_, ?_, ?_⟩, rfl⟩ | refine ⟨?_, ?_, ?_, ?_, ?_, ?_, ?_, ?_, ?_, ?_, ?_, ?_⟩
      · (try simp only [K_pi])
        exact K_pT ht vk
      · (try simp only [Cn_pi_j22 hA, Cn_pT])
        exact vcn
      · (try simp only [Vq0_pi_j22 hA, Vq0_pT])
        exact v0
      · (try simp only [Vq1_pi_j22 hA, Vq1_pT])
        exact v1
      · (try simp only [Vq2_pi_j22 hA, Vq2_pT])
        exact v2
      · (try simp only [Vp_thr hA, Vp_pT])
        exact vp
      · (try simp only [Vl0_pi_j22 hA, Vl0_pT])
        exact vl0
      · (try simp only [Vl1_pi_j22 hA, Vl1_pT])
        exact vl1
      · (try simp only [Vlr_pi_j22 hA, Vlr_pT])
        exact vlr
      · (try simp only [Vsr_pi_j22 hA, Vsr_pT])
        exact vsr
      · (try simp only [Vc_pi_j22 hA, Vc_pT])
        exact vc
      · (try simp only [Tx_pi_j22 hA])
        exact Tx_pT ht tx
    · have y1 : ¬ e < 0 := fun z => be (Or.inl z)
      have y2 : e < 2 := Classical.byContradiction fun z => be (Or.inr z)
      rcases e_cases y1 y2 with rfl | rfl
      · have hl2 := vl0
        obtain ⟨⟨b1, b2, b3, b4, b5, b6⟩, ln⟩ := hl2
        replace b1 := b1.symm
        replace b2 := b2.symm
        replace b3 := b3.symm
        replace b4 := b4.symm
        replace b5 := b5.symm
        replace b6 := b6.symm
        rw [b1, b2, b3, b4, b5, b6] at ln
        rcases x_cases bx0 (x_le bx9 (by decide)) with rfl | rfl | rfl | rfl | rfl | rfl | rfl | rfl | rfl
        · have hq9 := lnC ln
          simp only [↓ar_ite, ↓ar_ite2, ↓ar_ok, ↓reduceIte, o319_0, o319_1, o319_2, o319_3, o319_4, o319_7, o319_8, o319_11, o319_22, o319_23, o93_0, o93_1, o93_2, o93_5, o93_6, o93_7, o93_8, o93_11, o93_12, o93_13, o93_32, o93_33, o93_34, o93_53, o93_54, o93_55, o93_58, o93_59, o93_62, o93_63, o93_66, o93_69, o224_0, o224_1, o224_2, o224_5, o224_12, o224_13, o224_14, o224_17, o224_18, o224_19, o224_26, o224_27, o224_30, o224_35, o224_36, o224_39, o224_40, o224_41, o224_42, o224_43, o224_44, o224_60, o224_61, o224_62, o224_78, o224_79, o224_82, o224_83, o224_86, o224_150, o224_151, o224_152, o224_155, o224_158, c_X8_isThrown_, c_X8_isLens, c_X5_checkChoice, c_lensOf_0, c_X3_clear, c_X7_cleared, c_X0_done (cs := A 18), c_X8_done (cs := A 30), mc_pi, mc_pl, mn_pi, mn_pl, mi_pi, mi_pl, ml_pi, ml_pl, mr_pi, mr_pl, mz_pi, mz_pl, mcs_0, mcs_r, Kn_v, Kn_0, mrf_some, true_and, and_true, and_false, or_false, not_false_eq_true, implies_true, and_self, Nat.reduceEqDiff, Nat.reduceLeDiff, Nat.reduceSub, Nat.reduceAdd, Nat.zero_le, Nat.le_refl, i10, i01, lt_le, Int32.reduceLT, cl0, Kc_v, Sum.inl.injEq, Option.some.injEq, Value.int.injEq, exists_eq_left', Nat.reduceLT, hAe, kc0, kc15, kc17, kc18, kc22, kc29, kc30, kc37, kc39, kn18, kn29, kn30, kr0_7, kr0_9, kr17_0, kr22_7, kr22_8, kr29_0, kz, be0, b2, lne, lti, Int.reduceLT, or_self, or_false, o135_0, o135_1, o135_36, o135_37, o135_40, o135_75, cl0]
          (try simp only [ite_ar, implies_true, true_and, and_true, Classical.not_not])
          first | refine ⟨⟨?_, ?_, ?_, ?_, ?_, ?_, ?_, ?_, ?_, ?_, ?_, ?_⟩, rfl⟩ | refine ⟨?_, ?_, ?_, ?_, ?_, ?_, ?_, ?_, ?_, ?_, ?_, ?_⟩
          · (try simp only [K_pi, K_pl])
            exact vk
          · (try simp only [Cn_pi_j18 hA, Cn_pi_j22 hA, Cn_pi_j30 hA, Cn_pi_j15 hA, Cn_pi_j37 hA, Cn_pl])
            exact vcn
          · (try simp only [Vq0_pi_j18 hA, Vq0_pi_j22 hA, Vq0_pi_j30 hA, Vq0_pi_j15 hA, Vq0_pi_j37 hA, Vq0_pl])
            exact v0
          · (try simp only [Vq1_pi_j18 hA, Vq1_pi_j22 hA, Vq1_pi_j30 hA, Vq1_pi_j15 hA, Vq1_pi_j37 hA, Vq1_pl])
            exact v1
          · (try simp only [Vq2_pi_j18 hA, Vq2_pi_j22 hA, Vq2_pi_j30 hA, Vq2_pi_j15 hA, Vq2_pi_j37 hA, Vq2_pl])
            exact v2
          · (try simp only [Vp_pi_j18 hA, Vp_pi_j30 hA, Vp_pi_j15 hA, Vp_pi_j37 hA, Vp_thr hA, Vp_pl])
            exact vp
          · simp only [Vl0, mi_pi, mi_pl, hAe, Nat.reduceLT, Nat.reduceEqDiff, and_false, true_and, and_true, if_false, if_true, b1, b2, b3, b4, b5, b6, true_and, and_self]
            first | exact hq9 | exact ⟨⟨rfl, rfl, rfl, rfl, rfl, rfl⟩, hq9⟩ | (refine ⟨⟨?_, ?_, ?_, ?_, ?_, ?_⟩, hq9⟩ <;> first | rfl | trivial)
          · (try simp only [Vl1_pi_j18 hA, Vl1_pi_j22 hA, Vl1_pi_j30 hA, Vl1_pi_j15 hA, Vl1_pi_j37 hA, Vl1_pl])
            exact vl1
          · (try simp only [Vlr_pi_j18 hA, Vlr_pi_j22 hA, Vlr_pi_j30 hA, Vlr_pi_j15 hA, Vlr_pi_j37 hA, Vlr_pl_j39 hA])
            exact vlr
          · (try simp only [Vsr_pi_j18 hA, Vsr_pi_j22 hA, Vsr_pi_j30 hA, Vsr_pi_j15 hA, Vsr_pi_j37 hA, Vsr_pl_j39 hA])
            exact vsr
          · refine Vc_of (c := 0) vc (by decide) (fun k => ?_) (fun k => ?_) <;> simp only [mi_pi, mi_pl, hAe, Nat.reduceLT, Nat.reduceEqDiff, false_and, true_and, if_false]
          · (try simp only [Tx_pi_j18 hA, Tx_pi_j22 hA, Tx_pi_j30 hA, Tx_pi_j15 hA, Tx_pi_j37 hA, Tx_pl])
            exact tx
        · have hq9 := lnFl ln
          simp only [↓ar_ite, ↓ar_ite2, ↓ar_ok, ↓reduceIte, o319_0, o319_1, o319_2, o319_3, o319_4, o319_7, o319_8, o319_11, o319_22, o319_23, o93_0, o93_1, o93_2, o93_5, o93_6, o93_7, o93_8, o93_11, o93_12, o93_13, o93_32, o93_33, o93_34, o93_53, o93_54, o93_55, o93_58, o93_59, o93_62, o93_63, o93_66, o93_69, o224_0, o224_1, o224_2, o224_5, o224_12, o224_13, o224_14, o224_17, o224_18, o224_19, o224_26, o224_27, o224_30, o224_35, o224_36, o224_39, o224_40, o224_41, o224_42, o224_43, o224_44, o224_60, o224_61, o224_62, o224_78, o224_79, o224_89, o224_90, o224_91, o224_94, o224_95, o224_98, o224_150, o224_151, o224_152, o224_155, o224_158, c_X8_isThrown_, c_X8_isLens, c_X5_checkChoice, c_lensOf_0, c_X3_flip, c_X7_flipped, c_X0_done (cs := A 18), c_X8_done (cs := A 30), mc_pi, mc_pl, mn_pi, mn_pl, mi_pi, mi_pl, ml_pi, ml_pl, mr_pi, mr_pl, mz_pi, mz_pl, mcs_0, mcs_r, Kn_v, Kn_0, mrf_some, true_and, and_true, and_false, or_false, not_false_eq_true, implies_true, and_self, Nat.reduceEqDiff, Nat.reduceLeDiff, Nat.reduceSub, Nat.reduceAdd, Nat.zero_le, Nat.le_refl, i10, i01, lt_le, Int32.reduceLT, cl0, Kc_v, Sum.inl.injEq, Option.some.injEq, Value.int.injEq, exists_eq_left', Nat.reduceLT, hAe, kc0, kc15, kc17, kc18, kc22, kc29, kc30, kc37, kc39, kn18, kn29, kn30, kr0_7, kr0_9, kr17_0, kr22_7, kr22_8, kr29_0, kz, be0, b4, lne, lti, Int.reduceLT, or_self, or_false, o135_0, o135_1, o135_43, o135_44, o135_47, o135_75, cl0]
          (try simp only [ite_ar, implies_true, true_and, and_true, Classical.not_not])
          first | refine ⟨⟨?_, ?_, ?_, ?_, ?_, ?_, ?_, ?_, ?_, ?_, ?_, ?_⟩, rfl⟩ | refine ⟨?_, ?_, ?_, ?_, ?_, ?_, ?_, ?_, ?_, ?_, ?_, ?_⟩
          · (try simp only [K_pi, K_pl])
            exact vk
          · (try simp only [Cn_pi_j18 hA, Cn_pi_j22 hA, Cn_pi_j30 hA, Cn_pi_j15 hA, Cn_pi_j37 hA, Cn_pl])
            exact vcn
          · (try simp only [Vq0_pi_j18 hA, Vq0_pi_j22 hA, Vq0_pi_j30 hA, Vq0_pi_j15 hA, Vq0_pi_j37 hA, Vq0_pl])
            exact v0
          · (try simp only [Vq1_pi_j18 hA, Vq1_pi_j22 hA, Vq1_pi_j30 hA, Vq1_pi_j15 hA, Vq1_pi_j37 hA, Vq1_pl])
            exact v1
          · (try simp only [Vq2_pi_j18 hA, Vq2_pi_j22 hA, Vq2_pi_j30 hA, Vq2_pi_j15 hA, Vq2_pi_j37 hA, Vq2_pl])
            exact v2
          · (try simp only [Vp_pi_j18 hA, Vp_pi_j30 hA, Vp_pi_j15 hA, Vp_pi_j37 hA, Vp_thr hA, Vp_pl])
            exact vp
          · simp only [Vl0, mi_pi, mi_pl, hAe, Nat.reduceLT, Nat.reduceEqDiff, and_false, true_and, and_true, if_false, if_true, b1, b2, b3, b4, b5, b6, true_and, and_self]
            first | exact hq9 | exact ⟨⟨rfl, rfl, rfl, rfl, rfl, rfl⟩, hq9⟩ | (refine ⟨⟨?_, ?_, ?_, ?_, ?_, ?_⟩, hq9⟩ <;> first | rfl | trivial)
          · (try simp only [Vl1_pi_j18 hA, Vl1_pi_j22 hA, Vl1_pi_j30 hA, Vl1_pi_j15 hA, Vl1_pi_j37 hA, Vl1_pl])
            exact vl1
          · (try simp only [Vlr_pi_j18 hA, Vlr_pi_j22 hA, Vlr_pi_j30 hA, Vlr_pi_j15 hA, Vlr_pi_j37 hA, Vlr_pl_j39 hA])
            exact vlr
          · (try simp only [Vsr_pi_j18 hA, Vsr_pi_j22 hA, Vsr_pi_j30 hA, Vsr_pi_j15 hA, Vsr_pi_j37 hA, Vsr_pl_j39 hA])
            exact vsr
          · refine Vc_of (c := 0) vc (by decide) (fun k => ?_) (fun k => ?_) <;> simp only [mi_pi, mi_pl, hAe, Nat.reduceLT, Nat.reduceEqDiff, false_and, true_and, if_false]
          · (try simp only [Tx_pi_j18 hA, Tx_pi_j22 hA, Tx_pi_j30 hA, Tx_pi_j15 hA, Tx_pi_j37 hA, Tx_pl])
            exact tx
        · have hq9 := lnR ln
          simp only [↓ar_ite, ↓ar_ite2, ↓ar_ok, ↓reduceIte, o319_0, o319_1, o319_2, o319_3, o319_4, o319_7, o319_8, o319_11, o319_22, o319_23, o93_0, o93_1, o93_2, o93_5, o93_6, o93_7, o93_8, o93_11, o93_12, o93_13, o93_32, o93_33, o93_34, o93_53, o93_54, o93_55, o93_58, o93_59, o93_62, o93_63, o93_66, o93_69, o224_0, o224_1, o224_2, o224_5, o224_12, o224_13, o224_14, o224_17, o224_18, o224_19, o224_26, o224_27, o224_30, o224_35, o224_36, o224_39, o224_40, o224_41, o224_42, o224_43, o224_44, o224_60, o224_61, o224_62, o224_78, o224_79, o224_89, o224_90, o224_91, o224_101, o224_102, o224_103, o224_106, o224_107, o224_110, o224_150, o224_151, o224_152, o224_155, o224_158, c_X8_isThrown_, c_X8_isLens, c_X5_checkChoice, c_lensOf_0, c_X3_rewind, c_X7_rewound, c_X0_done (cs := A 18), c_X8_done (cs := A 30), mc_pi, mc_pl, mn_pi, mn_pl, mi_pi, mi_pl, ml_pi, ml_pl, mr_pi, mr_pl, mz_pi, mz_pl, mcs_0, mcs_r, Kn_v, Kn_0, mrf_some, true_and, and_true, and_false, or_false, not_false_eq_true, implies_true, and_self, Nat.reduceEqDiff, Nat.reduceLeDiff, Nat.reduceSub, Nat.reduceAdd, Nat.zero_le, Nat.le_refl, i10, i01, lt_le, Int32.reduceLT, cl0, Kc_v, Sum.inl.injEq, Option.some.injEq, Value.int.injEq, exists_eq_left', Nat.reduceLT, hAe, i20, kc0, kc15, kc17, kc18, kc22, kc29, kc30, kc37, kc39, kn18, kn29, kn30, kr0_7, kr0_9, kr17_0, kr22_7, kr22_8, kr29_0, kz, be0, lne, lti, Int.reduceLT, or_self, or_false, o135_0, o135_1, o135_50, o135_51, o135_54, o135_75, cl0]
          (try simp only [ite_ar, implies_true, true_and, and_true, Classical.not_not])
          first | refine ⟨⟨?_, ?_, ?_, ?_, ?_, ?_, ?_, ?_, ?_, ?_, ?_, ?_⟩, rfl⟩ | refine ⟨?_, ?_, ?_, ?_, ?_, ?_, ?_, ?_, ?_, ?_, ?_, ?_⟩
          · (try simp only [K_pi, K_pl])
            exact vk
          · (try simp only [Cn_pi_j18 hA, Cn_pi_j22 hA, Cn_pi_j30 hA, Cn_pi_j15 hA, Cn_pi_j37 hA, Cn_pl])
            exact vcn
          · (try simp only [Vq0_pi_j18 hA, Vq0_pi_j22 hA, Vq0_pi_j30 hA, Vq0_pi_j15 hA, Vq0_pi_j37 hA, Vq0_pl])
            exact v0
          · (try simp only [Vq1_pi_j18 hA, Vq1_pi_j22 hA, Vq1_pi_j30 hA, Vq1_pi_j15 hA, Vq1_pi_j37 hA, Vq1_pl])
            exact v1
          · (try simp only [Vq2_pi_j18 hA, Vq2_pi_j22 hA, Vq2_pi_j30 hA, Vq2_pi_j15 hA, Vq2_pi_j37 hA, Vq2_pl])
            exact v2
          · (try simp only [Vp_pi_j18 hA, Vp_pi_j30 hA, Vp_pi_j15 hA, Vp_pi_j37 hA, Vp_thr hA, Vp_pl])
            exact vp
          · simp only [Vl0, mi_pi, mi_pl, hAe, Nat.reduceLT, Nat.reduceEqDiff, and_false, true_and, and_true, if_false, if_true, b1, b2, b3, b4, b5, b6, true_and, and_self]
            first | exact hq9 | exact ⟨⟨rfl, rfl, rfl, rfl, rfl, rfl⟩, hq9⟩ | (refine ⟨⟨?_, ?_, ?_, ?_, ?_, ?_⟩, hq9⟩ <;> first | rfl | trivial)
          · (try simp only [Vl1_pi_j18 hA, Vl1_pi_j22 hA, Vl1_pi_j30 hA, Vl1_pi_j15 hA, Vl1_pi_j37 hA, Vl1_pl])
            exact vl1
          · (try simp only [Vlr_pi_j18 hA, Vlr_pi_j22 hA, Vlr_pi_j30 hA, Vlr_pi_j15 hA, Vlr_pi_j37 hA, Vlr_pl_j39 hA])
            exact vlr
          · (try simp only [Vsr_pi_j18 hA, Vsr_pi_j22 hA, Vsr_pi_j30 hA, Vsr_pi_j15 hA, Vsr_pi_j37 hA, Vsr_pl_j39 hA])
            exact vsr
          · refine Vc_of (c := 0) vc (by decide) (fun k => ?_) (fun k => ?_) <;> simp only [mi_pi, mi_pl, hAe, Nat.reduceLT, Nat.reduceEqDiff, false_and, true_and, if_false]
          · (try simp only [Tx_pi_j18 hA, Tx_pi_j22 hA, Tx_pi_j30 hA, Tx_pi_j15 hA, Tx_pi_j37 hA, Tx_pl])
            exact tx
        · have hq9 := lnM ln
          simp only [↓ar_ite, ↓ar_ite2, ↓ar_ok, ↓reduceIte, o319_0, o319_1, o319_2, o319_3, o319_4, o319_7, o319_8, o319_11, o319_22, o319_23, o93_0, o93_1, o93_2, o93_5, o93_6, o93_7, o93_8, o93_11, o93_12, o93_13, o93_32, o93_33, o93_34, o93_53, o93_54, o93_55, o93_58, o93_59, o93_62, o93_63, o93_66, o93_69, o224_0, o224_1, o224_2, o224_5, o224_12, o224_13, o224_14, o224_17, o224_18, o224_19, o224_26, o224_27, o224_30, o224_35, o224_36, o224_39, o224_40, o224_41, o224_42, o224_43, o224_44, o224_60, o224_61, o224_62, o224_78, o224_79, o224_89, o224_90, o224_91, o224_101, o224_102, o224_103, o224_113, o224_114, o224_115, o224_118, o224_119, o224_120, o224_123, o224_126, o224_150, o224_151, o224_152, o224_155, o224_158, c_X8_isThrown_, c_X8_isLens, c_X5_checkChoice, c_lensOf_0, c_X3_setMark, c_X0_done (cs := A 18), c_X8_done (cs := A 30), mc_pi, mc_pl, mn_pi, mn_pl, mi_pi, mi_pl, ml_pi, ml_pl, mr_pi, mr_pl, mz_pi, mz_pl, mcs_0, mcs_r, Kn_v, Kn_0, mrf_some, kok_0, true_and, and_true, and_false, or_false, not_false_eq_true, implies_true, and_self, Nat.reduceEqDiff, Nat.reduceLeDiff, Nat.reduceSub, Nat.reduceAdd, Nat.zero_le, Nat.le_refl, i10, i01, lt_le, Int32.reduceLT, cl0, Kc_v, Sum.inl.injEq, Option.some.injEq, Value.int.injEq, exists_eq_left', Nat.reduceLT, hAe, i30, kc0, kc15, kc17, kc18, kc22, kc29, kc30, kc37, kc39, kn18, kn29, kn30, kr0_7, kr0_9, kr17_0, kr22_7, kr22_8, kr29_0, kz, be0, b4, lne, lti, Int.reduceLT, or_self, or_false, o135_0, o135_1, o135_57, o135_58, o135_61, o135_75, cl0]
          (try simp only [ite_ar, implies_true, true_and, and_true, Classical.not_not])
          first | refine ⟨⟨?_, ?_, ?_, ?_, ?_, ?_, ?_, ?_, ?_, ?_, ?_, ?_⟩, rfl⟩ | refine ⟨?_, ?_, ?_, ?_, ?_, ?_, ?_, ?_, ?_, ?_, ?_, ?_⟩
          · (try simp only [K_pi, K_pl])
            exact vk
          · (try simp only [Cn_pi_j18 hA, Cn_pi_j22 hA, Cn_pi_j30 hA, Cn_pi_j15 hA, Cn_pi_j37 hA, Cn_pl])
            exact vcn
          · (try simp only [Vq0_pi_j18 hA, Vq0_pi_j22 hA, Vq0_pi_j30 hA, Vq0_pi_j15 hA, Vq0_pi_j37 hA, Vq0_pl])
            exact v0
          · (try simp only [Vq1_pi_j18 hA, Vq1_pi_j22 hA, Vq1_pi_j30 hA, Vq1_pi_j15 hA, Vq1_pi_j37 hA, Vq1_pl])
            exact v1
          · (try simp only [Vq2_pi_j18 hA, Vq2_pi_j22 hA, Vq2_pi_j30 hA, Vq2_pi_j15 hA, Vq2_pi_j37 hA, Vq2_pl])
            exact v2
          · (try simp only [Vp_pi_j18 hA, Vp_pi_j30 hA, Vp_pi_j15 hA, Vp_pi_j37 hA, Vp_thr hA, Vp_pl])
            exact vp
          · simp only [Vl0, mi_pi, mi_pl, hAe, Nat.reduceLT, Nat.reduceEqDiff, and_false, true_and, and_true, if_false, if_true, b1, b2, b3, b4, b5, b6, true_and, and_self]
            first | exact hq9 | exact ⟨⟨rfl, rfl, rfl, rfl, rfl, rfl⟩, hq9⟩ | (refine ⟨⟨?_, ?_, ?_, ?_, ?_, ?_⟩, hq9⟩ <;> first | rfl | trivial)
          · (try simp only [Vl1_pi_j18 hA, Vl1_pi_j22 hA, Vl1_pi_j30 hA, Vl1_pi_j15 hA, Vl1_pi_j37 hA, Vl1_pl])
            exact vl1
          · (try simp only [Vlr_pi_j18 hA, Vlr_pi_j22 hA, Vlr_pi_j30 hA, Vlr_pi_j15 hA, Vlr_pi_j37 hA, Vlr_pl_j39 hA])
            exact vlr
          · (try simp only [Vsr_pi_j18 hA, Vsr_pi_j22 hA, Vsr_pi_j30 hA, Vsr_pi_j15 hA, Vsr_pi_j37 hA, Vsr_pl_j39 hA])
            exact vsr
          · refine Vc_of (c := 0) vc (by decide) (fun k => ?_) (fun k => ?_) <;> simp only [mi_pi, mi_pl, hAe, Nat.reduceLT, Nat.reduceEqDiff, false_and, true_and, if_false]
          · (try simp only [Tx_pi_j18 hA, Tx_pi_j22 hA, Tx_pi_j30 hA, Tx_pi_j15 hA, Tx_pi_j37 hA, Tx_pl])
            exact tx
        · rcases lnMk ln with ⟨m1, m2⟩ | ⟨m1, m2⟩
          · skip
            simp only [↓ar_ite, ↓ar_ite2, ↓reduceIte, o319_0, o319_1, o319_2, o319_3, o319_4, o319_7, o319_8, o319_11, o319_22, o319_23, o93_0, o93_1, o93_2, o93_5, o93_6, o93_7, o93_8, o93_11, o93_12, o93_13, o93_16, o93_17, o93_20, o93_23, o93_24, o93_27, o93_28, o93_31, o224_0, o224_1, o224_2, o224_5, o224_12, o224_13, o224_14, o224_17, o224_18, o224_19, o224_26, o224_27, o224_30, o224_35, o224_36, o224_39, o224_40, o224_41, o224_42, o224_43, o224_44, o224_47, o224_48, o224_51, o224_54, o224_55, o224_56, o224_59, c_X8_isThrown_, c_X8_isLens, c_X5_checkChoice, c_X3_hasMark, c_lensOf_0, c_ref_3 (cs := A 18), c_X8_no (cs := A 30), mc_pi, mc_pl, mn_pi, mn_pl, mi_pi, mi_pl, ml_pi, ml_pl, mr_pi, mr_pl, mz_pi, mz_pl, mcs_0, mcs_r, Kn_v, Kn_0, mrf_some, true_and, and_true, or_false, not_true_eq_false, not_false_eq_true, implies_true, and_self, Nat.reduceEqDiff, Nat.reduceLeDiff, Nat.reduceSub, Nat.reduceAdd, Nat.zero_le, Nat.le_refl, i10, i01, lt_le, Int32.reduceLT, Int32.reduceSub, cl0, cl3, Kc_v, Sum.inl.injEq, Option.some.injEq, Value.int.injEq, exists_eq_left', Nat.reduceLT, hAe, kc0, kc15, kc17, kc18, kc22, kc29, kc30, kc37, kc39, kn18, kn29, kn30, kr0_7, kr0_9, kr17_0, kr22_7, kr22_8, kr29_0, kz, be0, b6, or_self, or_false, cl0, m2, m1z, v18, cl3]
            (try simp only [ite_ar, implies_true, true_and, and_true, Classical.not_not])
            first | refine ⟨⟨?_, ?_, ?_, ?_, ?_, ?_, ?_, ?_, ?_, ?_, ?_, ?_⟩, rfl⟩ | refine ⟨?_, ?_, ?_, ?_, ?_, ?_, ?_, ?_, ?_, ?_, ?_, ?_⟩
            · (try simp only [K_pi, K_pl])
              exact vk
            · (try simp only [Cn_pi_j18 hA, Cn_pi_j22 hA, Cn_pi_j30 hA, Cn_pl])
              exact vcn
            · (try simp only [Vq0_pi_j18 hA, Vq0_pi_j22 hA, Vq0_pi_j30 hA, Vq0_pl])
              exact v0
            · (try simp only [Vq1_pi_j18 hA, Vq1_pi_j22 hA, Vq1_pi_j30 hA, Vq1_pl])
              exact v1
            · (try simp only [Vq2_pi_j18 hA, Vq2_pi_j22 hA, Vq2_pi_j30 hA, Vq2_pl])
              exact v2
            · (try simp only [Vp_pi_j18 hA, Vp_pi_j30 hA, Vp_thr hA, Vp_pl])
              exact vp
            · (try simp only [Vl0_pi_j18 hA, Vl0_pi_j22 hA, Vl0_pi_j30 hA, Vl0_pl])
              exact vl0
            · (try simp only [Vl1_pi_j18 hA, Vl1_pi_j22 hA, Vl1_pi_j30 hA, Vl1_pl])
              exact vl1
            · (try simp only [Vlr_pi_j18 hA, Vlr_pi_j22 hA, Vlr_pi_j30 hA, Vlr_pl_j39 hA])
              exact vlr
            · (try simp only [Vsr_pi_j18 hA, Vsr_pi_j22 hA, Vsr_pi_j30 hA, Vsr_pl_j39 hA])
              exact vsr
            · refine Vc_of (c := 3) vc (by decide) (fun k => ?_) (fun k => ?_) <;> simp only [mi_pi, mi_pl, hAe, Nat.reduceLT, Nat.reduceEqDiff, false_and, true_and, if_false]
            · (try simp only [Tx_pi_j18 hA, Tx_pi_j22 hA, Tx_pi_j30 hA, Tx_pl])
              exact tx
          · have hq9 := lnB ln m1
            simp only [↓ar_ite, ↓ar_ite2, ↓ar_ok, ↓reduceIte, o319_0, o319_1, o319_2, o319_3, o319_4, o319_7, o319_8, o319_11, o319_22, o319_23, o93_0, o93_1, o93_2, o93_5, o93_6, o93_7, o93_8, o93_11, o93_12, o93_13, o93_16, o93_17, o93_20, o93_32, o93_33, o93_34, o93_53, o93_54, o93_55, o93_58, o93_59, o93_62, o93_63, o93_66, o93_69, o224_0, o224_1, o224_2, o224_5, o224_12, o224_13, o224_14, o224_17, o224_18, o224_19, o224_26, o224_27, o224_30, o224_35, o224_36, o224_39, o224_40, o224_41, o224_42, o224_43, o224_44, o224_47, o224_48, o224_51, o224_60, o224_61, o224_62, o224_78, o224_79, o224_89, o224_90, o224_91, o224_101, o224_102, o224_103, o224_113, o224_114, o224_115, o224_129, o224_130, o224_131, o224_134, o224_135, o224_136, o224_139, o224_142, o224_150, o224_151, o224_152, o224_155, o224_158, c_X8_isThrown_, c_X8_isLens, c_X5_checkChoice, c_X3_hasMark, c_lensOf_0, c_X3_setBack, c_X0_done (cs := A 18), c_X8_done (cs := A 30), mc_pi, mc_pl, mn_pi, mn_pl, mi_pi, mi_pl, ml_pi, ml_pl, mr_pi, mr_pl, mz_pi, mz_pl, mcs_0, mcs_r, Kn_v, Kn_0, mrf_some, kok_0, true_and, and_true, or_false, not_false_eq_true, implies_true, and_self, Nat.reduceEqDiff, Nat.reduceLeDiff, Nat.reduceSub, Nat.reduceAdd, Nat.zero_le, Nat.le_refl, i10, i01, lt_le, Int32.reduceLT, cl0, Kc_v, Sum.inl.injEq, Option.some.injEq, Value.int.injEq, exists_eq_left', Nat.reduceLT, hAe, kc0, kc15, kc17, kc18, kc22, kc29, kc30, kc37, kc39, kn18, kn29, kn30, kr0_7, kr0_9, kr17_0, kr22_7, kr22_8, kr29_0, kz, be0, b6, lne, lti, Int.reduceLT, or_self, or_false, o135_0, o135_1, o135_64, o135_65, o135_68, o135_75, cl0, m1, m2]
            (try simp only [ite_ar, implies_true, true_and, and_true, Classical.not_not])
            first | refine ⟨⟨?_, ?_, ?_, ?_, ?_, ?_, ?_, ?_, ?_, ?_, ?_, ?_⟩, rfl⟩ | refine ⟨?_, ?_, ?_, ?_, ?_, ?_, ?_, ?_, ?_, ?_, ?_, ?_⟩
            · (try simp only [K_pi, K_pl])
              exact vk
            · (try simp only [Cn_pi_j18 hA, Cn_pi_j22 hA, Cn_pi_j30 hA, Cn_pi_j15 hA, Cn_pi_j37 hA, Cn_pl])
              exact vcn
            · (try simp only [Vq0_pi_j18 hA, Vq0_pi_j22 hA, Vq0_pi_j30 hA, Vq0_pi_j15 hA, Vq0_pi_j37 hA, Vq0_pl])
              exact v0
            · (try simp only [Vq1_pi_j18 hA, Vq1_pi_j22 hA, Vq1_pi_j30 hA, Vq1_pi_j15 hA, Vq1_pi_j37 hA, Vq1_pl])
              exact v1
            · (try simp only [Vq2_pi_j18 hA, Vq2_pi_j22 hA, Vq2_pi_j30 hA, Vq2_pi_j15 hA, Vq2_pi_j37 hA, Vq2_pl])
              exact v2
            · (try simp only [Vp_pi_j18 hA, Vp_pi_j30 hA, Vp_pi_j15 hA, Vp_pi_j37 hA, Vp_thr hA, Vp_pl])
              exact vp
            · simp only [Vl0, mi_pi, mi_pl, hAe, Nat.reduceLT, Nat.reduceEqDiff, and_false, true_and, and_true, if_false, if_true, b1, b2, b3, b4, b5, b6, true_and, and_self]
              first | exact hq9 | exact ⟨⟨rfl, rfl, rfl, rfl, rfl, rfl⟩, hq9⟩ | (refine ⟨⟨?_, ?_, ?_, ?_, ?_, ?_⟩, hq9⟩ <;> first | rfl | trivial)
            · (try simp only [Vl1_pi_j18 hA, Vl1_pi_j22 hA, Vl1_pi_j30 hA, Vl1_pi_j15 hA, Vl1_pi_j37 hA, Vl1_pl])
              exact vl1
            · (try simp only [Vlr_pi_j18 hA, Vlr_pi_j22 hA, Vlr_pi_j30 hA, Vlr_pi_j15 hA, Vlr_pi_j37 hA, Vlr_pl_j39 hA])
              exact vlr
            · (try simp only [Vsr_pi_j18 hA, Vsr_pi_j22 hA, Vsr_pi_j30 hA, Vsr_pi_j15 hA, Vsr_pi_j37 hA, Vsr_pl_j39 hA])
              exact vsr
            · refine Vc_of (c := 0) vc (by decide) (fun k => ?_) (fun k => ?_) <;> simp only [mi_pi, mi_pl, hAe, Nat.reduceLT, Nat.reduceEqDiff, false_and, true_and, if_false]
            · (try simp only [Tx_pi_j18 hA, Tx_pi_j22 hA, Tx_pi_j30 hA, Tx_pi_j15 hA, Tx_pi_j37 hA, Tx_pl])
              exact tx
        · have s0 := ln.2.2.2.2.1 rfl
          simp only [↓ar_ite, ↓ar_ite2, ↓reduceIte, o319_0, o319_1, o319_2, o319_3, o319_4, o319_7, o319_8, o319_11, o319_22, o319_23, o93_0, o93_1, o93_2, o93_5, o93_6, o93_7, o93_8, o93_11, o93_12, o93_13, o93_32, o93_33, o93_34, o93_37, o93_38, o93_41, o93_44, o93_45, o93_48, o93_49, o93_52, o224_0, o224_1, o224_2, o224_5, o224_12, o224_13, o224_14, o224_17, o224_18, o224_19, o224_26, o224_27, o224_30, o224_35, o224_36, o224_39, o224_40, o224_41, o224_42, o224_43, o224_44, o224_60, o224_61, o224_62, o224_65, o224_66, o224_69, o224_72, o224_73, o224_74, o224_77, c_X8_isThrown_, c_X8_isLens, c_X5_checkChoice, c_lensOf_0, c_ref_4 (cs := A 18), c_X8_no (cs := A 30), mc_pi, mc_pl, mn_pi, mn_pl, mi_pi, mi_pl, ml_pi, ml_pl, mr_pi, mr_pl, mz_pi, mz_pl, mcs_0, mcs_r, Kn_v, Kn_0, mrf_some, true_and, and_true, or_false, not_false_eq_true, implies_true, and_self, Nat.reduceEqDiff, Nat.reduceLeDiff, Nat.reduceSub, Nat.reduceAdd, Nat.zero_le, Nat.le_refl, i10, i01, lt_le, Int32.reduceLT, Int32.reduceSub, cl0, cl4, Kc_v, Sum.inl.injEq, Option.some.injEq, Value.int.injEq, exists_eq_left', Nat.reduceLT, hAe, kc0, kc15, kc17, kc18, kc22, kc29, kc30, kc37, kc39, kn18, kn29, kn30, kr0_7, kr0_9, kr17_0, kr22_7, kr22_8, kr29_0, kz, be0, b3, lne, or_self, or_false, cl0, s0, v18, cl4]
          (try simp only [ite_ar, implies_true, true_and, and_true, Classical.not_not])
          first | refine ⟨⟨?_, ?_, ?_, ?_, ?_, ?_, ?_, ?_, ?_, ?_, ?_, ?_⟩, rfl⟩ | refine ⟨?_, ?_, ?_, ?_, ?_, ?_, ?_, ?_, ?_, ?_, ?_, ?_⟩
          · (try simp only [K_pi, K_pl])
            exact vk
          · (try simp only [Cn_pi_j18 hA, Cn_pi_j22 hA, Cn_pi_j30 hA, Cn_pl])
            exact vcn
          · (try simp only [Vq0_pi_j18 hA, Vq0_pi_j22 hA, Vq0_pi_j30 hA, Vq0_pl])
            exact v0
          · (try simp only [Vq1_pi_j18 hA, Vq1_pi_j22 hA, Vq1_pi_j30 hA, Vq1_pl])
            exact v1
          · (try simp only [Vq2_pi_j18 hA, Vq2_pi_j22 hA, Vq2_pi_j30 hA, Vq2_pl])
            exact v2
          · (try simp only [Vp_pi_j18 hA, Vp_pi_j30 hA, Vp_thr hA, Vp_pl])
            exact vp
          · (try simp only [Vl0_pi_j18 hA, Vl0_pi_j22 hA, Vl0_pi_j30 hA, Vl0_pl])
            exact vl0
          · (try simp only [Vl1_pi_j18 hA, Vl1_pi_j22 hA, Vl1_pi_j30 hA, Vl1_pl])
            exact vl1
          · (try simp only [Vlr_pi_j18 hA, Vlr_pi_j22 hA, Vlr_pi_j30 hA, Vlr_pl_j39 hA])
            exact vlr
          · (try simp only [Vsr_pi_j18 hA, Vsr_pi_j22 hA, Vsr_pi_j30 hA, Vsr_pl_j39 hA])
            exact vsr
          · refine Vc_of (c := 4) vc (by decide) (fun k => ?_) (fun k => ?_) <;> simp only [mi_pi, mi_pl, hAe, Nat.reduceLT, Nat.reduceEqDiff, false_and, true_and, if_false]
          · (try simp only [Tx_pi_j18 hA, Tx_pi_j22 hA, Tx_pi_j30 hA, Tx_pl])
            exact tx
        · exact absurd (show (5 : Int32) < 6 by decide) bx9
        · exact absurd (show (5 : Int32) < 7 by decide) bx9
        · exact absurd (show (5 : Int32) < 8 by decide) bx9
      · have hl2 := vl1
        obtain ⟨⟨b1, b2, b3, b4, b5, b6⟩, ln⟩ := hl2
        replace b1 := b1.symm
        replace b2 := b2.symm
        replace b3 := b3.symm
        replace b4 := b4.symm
        replace b5 := b5.symm
        replace b6 := b6.symm
        rw [b1, b2, b3, b4, b5, b6] at ln
        rcases x_cases bx0 (x_le bx9 (by decide)) with rfl | rfl | rfl | rfl | rfl | rfl | rfl | rfl | rfl
        · have hq9 := lnC ln
          simp only [↓ar_ite, ↓ar_ite2, ↓ar_ok, ↓reduceIte, o319_0, o319_1, o319_2, o319_3, o319_4, o319_7, o319_8, o319_11, o319_22, o319_23, o93_0, o93_1, o93_2, o93_5, o93_6, o93_7, o93_8, o93_11, o93_12, o93_13, o93_32, o93_33, o93_34, o93_53, o93_54, o93_55, o93_58, o93_59, o93_62, o93_63, o93_66, o93_69, o224_0, o224_1, o224_2, o224_5, o224_12, o224_13, o224_14, o224_17, o224_18, o224_19, o224_26, o224_27, o224_30, o224_35, o224_36, o224_39, o224_40, o224_41, o224_42, o224_43, o224_44, o224_60, o224_61, o224_62, o224_78, o224_79, o224_82, o224_83, o224_86, o224_150, o224_151, o224_152, o224_155, o224_158, c_X8_isThrown_, c_X8_isLens, c_X5_checkChoice, c_lensOf_1, c_X3_clear, c_X7_cleared, c_X0_done (cs := A 18), c_X8_done (cs := A 30), mc_pi, mc_pl, mn_pi, mn_pl, mi_pi, mi_pl, ml_pi, ml_pl, mr_pi, mr_pl, mz_pi, mz_pl, mcs_0, mcs_r, Kn_v, Kn_0, mrf_some, true_and, and_true, and_false, or_true, not_false_eq_true, implies_true, and_self, Nat.reduceEqDiff, Nat.reduceLeDiff, Nat.reduceSub, Nat.reduceAdd, Nat.zero_le, Nat.le_refl, i10, i01, lt_le, Int32.reduceLT, cl1, Kc_v, Sum.inl.injEq, Option.some.injEq, Value.int.injEq, exists_eq_left', Nat.reduceLT, hAe, kc0, kc16, kc17, kc18, kc22, kc29, kc30, kc38, kc39, kn18, kn29, kn30, kr0_8, kr0_9, kr17_0, kr22_7, kr22_8, kr29_1, kz, be0, b2, lne, lti, Int.reduceLT, or_self, o135_0, o135_1, o135_36, o135_37, o135_40, o135_75, cl1]
          (try simp only [ite_ar, implies_true, true_and, and_true, Classical.not_not])
          first | refine ⟨⟨?_, ?_, ?_, ?_, ?_, ?_, ?_, ?_, ?_, ?_, ?_, ?_⟩, rfl⟩ | refine ⟨?_, ?_, ?_, ?_, ?_, ?_, ?_, ?_, ?_, ?_, ?_, ?_⟩
          · (try simp only [K_pi, K_pl])
            exact vk
          · (try simp only [Cn_pi_j18 hA, Cn_pi_j22 hA, Cn_pi_j30 hA, Cn_pi_j16 hA, Cn_pi_j38 hA, Cn_pl])
            exact vcn
          · (try simp only [Vq0_pi_j18 hA, Vq0_pi_j22 hA, Vq0_pi_j30 hA, Vq0_pi_j16 hA, Vq0_pi_j38 hA, Vq0_pl])
            exact v0
          · (try simp only [Vq1_pi_j18 hA, Vq1_pi_j22 hA, Vq1_pi_j30 hA, Vq1_pi_j16 hA, Vq1_pi_j38 hA, Vq1_pl])
            exact v1
          · (try simp only [Vq2_pi_j18 hA, Vq2_pi_j22 hA, Vq2_pi_j30 hA, Vq2_pi_j16 hA, Vq2_pi_j38 hA, Vq2_pl])
            exact v2
          · (try simp only [Vp_pi_j18 hA, Vp_pi_j30 hA, Vp_pi_j16 hA, Vp_pi_j38 hA, Vp_thr hA, Vp_pl])
            exact vp
          · (try simp only [Vl0_pi_j18 hA, Vl0_pi_j22 hA, Vl0_pi_j30 hA, Vl0_pi_j16 hA, Vl0_pi_j38 hA, Vl0_pl])
            exact vl0
          · simp only [Vl1, mi_pi, mi_pl, hAe, Nat.reduceLT, Nat.reduceEqDiff, and_false, true_and, and_true, if_false, if_true, b1, b2, b3, b4, b5, b6, true_and, and_self]
            first | exact hq9 | exact ⟨⟨rfl, rfl, rfl, rfl, rfl, rfl⟩, hq9⟩ | (refine ⟨⟨?_, ?_, ?_, ?_, ?_, ?_⟩, hq9⟩ <;> first | rfl | trivial)
          · (try simp only [Vlr_pi_j18 hA, Vlr_pi_j22 hA, Vlr_pi_j30 hA, Vlr_pi_j16 hA, Vlr_pi_j38 hA, Vlr_pl_j39 hA])
            exact vlr
          · (try simp only [Vsr_pi_j18 hA, Vsr_pi_j22 hA, Vsr_pi_j30 hA, Vsr_pi_j16 hA, Vsr_pi_j38 hA, Vsr_pl_j39 hA])
            exact vsr
          · refine Vc_of (c := 0) vc (by decide) (fun k => ?_) (fun k => ?_) <;> simp only [mi_pi, mi_pl, hAe, Nat.reduceLT, Nat.reduceEqDiff, false_and, true_and, if_false]
          · (try simp only [Tx_pi_j18 hA, Tx_pi_j22 hA, Tx_pi_j30 hA, Tx_pi_j16 hA, Tx_pi_j38 hA, Tx_pl])
            exact tx
        · have hq9 := lnFl ln
          simp only [↓ar_ite, ↓ar_ite2, ↓ar_ok, ↓reduceIte, o319_0, o319_1, o319_2, o319_3, o319_4, o319_7, o319_8, o319_11, o319_22, o319_23, o93_0, o93_1, o93_2, o93_5, o93_6, o93_7, o93_8, o93_11, o93_12, o93_13, o93_32, o93_33, o93_34, o93_53, o93_54, o93_55, o93_58, o93_59, o93_62, o93_63, o93_66, o93_69, o224_0, o224_1, o224_2, o224_5, o224_12, o224_13, o224_14, o224_17, o224_18, o224_19, o224_26, o224_27, o224_30, o224_35, o224_36, o224_39, o224_40, o224_41, o224_42, o224_43, o224_44, o224_60, o224_61, o224_62, o224_78, o224_79, o224_89, o224_90, o224_91, o224_94, o224_95, o224_98, o224_150, o224_151, o224_152, o224_155, o224_158, c_X8_isThrown_, c_X8_isLens, c_X5_checkChoice, c_lensOf_1, c_X3_flip, c_X7_flipped, c_X0_done (cs := A 18), c_X8_done (cs := A 30), mc_pi, mc_pl, mn_pi, mn_pl, mi_pi, mi_pl, ml_pi, ml_pl, mr_pi, mr_pl, mz_pi, mz_pl, mcs_0, mcs_r, Kn_v, Kn_0, mrf_some, true_and, and_true, and_false, or_true, not_false_eq_true, implies_true, and_self, Nat.reduceEqDiff, Nat.reduceLeDiff, Nat.reduceSub, Nat.reduceAdd, Nat.zero_le, Nat.le_refl, i10, lt_le, Int32.reduceLT, cl1, Kc_v, Sum.inl.injEq, Option.some.injEq, Value.int.injEq, exists_eq_left', Nat.reduceLT, hAe, kc0, kc16, kc17, kc18, kc22, kc29, kc30, kc38, kc39, kn18, kn29, kn30, kr0_8, kr0_9, kr17_0, kr22_7, kr22_8, kr29_1, kz, be0, b4, lne, lti, Int.reduceLT, or_self, o135_0, o135_1, o135_43, o135_44, o135_47, o135_75, cl1]
          (try simp only [ite_ar, implies_true, true_and, and_true, Classical.not_not])
          first | refine ⟨⟨?_, ?_, ?_, ?_, ?_, ?_, ?_, ?_, ?_, ?_, ?_, ?_⟩, rfl⟩ | refine ⟨?_, ?_, ?_, ?_, ?_, ?_, ?_, ?_, ?_, ?_, ?_, ?_⟩
          · (try simp only [K_pi, K_pl])
            exact vk
          · (try simp only [Cn_pi_j18 hA, Cn_pi_j22 hA, Cn_pi_j30 hA, Cn_pi_j16 hA, Cn_pi_j38 hA, Cn_pl])
            exact vcn
          · (try simp only [Vq0_pi_j18 hA, Vq0_pi_j22 hA, Vq0_pi_j30 hA, Vq0_pi_j16 hA, Vq0_pi_j38 hA, Vq0_pl])
            exact v0
          · (try simp only [Vq1_pi_j18 hA, Vq1_pi_j22 hA, Vq1_pi_j30 hA, Vq1_pi_j16 hA, Vq1_pi_j38 hA, Vq1_pl])
            exact v1
          · (try simp only [Vq2_pi_j18 hA, Vq2_pi_j22 hA, Vq2_pi_j30 hA, Vq2_pi_j16 hA, Vq2_pi_j38 hA, Vq2_pl])
            exact v2
          · (try simp only [Vp_pi_j18 hA, Vp_pi_j30 hA, Vp_pi_j16 hA, Vp_pi_j38 hA, Vp_thr hA, Vp_pl])
            exact vp
          · (try simp only [Vl0_pi_j18 hA, Vl0_pi_j22 hA, Vl0_pi_j30 hA, Vl0_pi_j16 hA, Vl0_pi_j38 hA, Vl0_pl])
            exact vl0
          · simp only [Vl1, mi_pi, mi_pl, hAe, Nat.reduceLT, Nat.reduceEqDiff, and_false, true_and, and_true, if_false, if_true, b1, b2, b3, b4, b5, b6, true_and, and_self]
            first | exact hq9 | exact ⟨⟨rfl, rfl, rfl, rfl, rfl, rfl⟩, hq9⟩ | (refine ⟨⟨?_, ?_, ?_, ?_, ?_, ?_⟩, hq9⟩ <;> first | rfl | trivial)
          · (try simp only [Vlr_pi_j18 hA, Vlr_pi_j22 hA, Vlr_pi_j30 hA, Vlr_pi_j16 hA, Vlr_pi_j38 hA, Vlr_pl_j39 hA])
            exact vlr
          · (try simp only [Vsr_pi_j18 hA, Vsr_pi_j22 hA, Vsr_pi_j30 hA, Vsr_pi_j16 hA, Vsr_pi_j38 hA, Vsr_pl_j39 hA])
            exact vsr
          · refine Vc_of (c := 0) vc (by decide) (fun k => ?_) (fun k => ?_) <;> simp only [mi_pi, mi_pl, hAe, Nat.reduceLT, Nat.reduceEqDiff, false_and, true_and, if_false]
          · (try simp only [Tx_pi_j18 hA, Tx_pi_j22 hA, Tx_pi_j30 hA, Tx_pi_j16 hA, Tx_pi_j38 hA, Tx_pl])
            exact tx
        · have hq9 := lnR ln
          simp only [↓ar_ite, ↓ar_ite2, ↓ar_ok, ↓reduceIte, o319_0, o319_1, o319_2, o319_3, o319_4, o319_7, o319_8, o319_11, o319_22, o319_23, o93_0, o93_1, o93_2, o93_5, o93_6, o93_7, o93_8, o93_11, o93_12, o93_13, o93_32, o93_33, o93_34, o93_53, o93_54, o93_55, o93_58, o93_59, o93_62, o93_63, o93_66, o93_69, o224_0, o224_1, o224_2, o224_5, o224_12, o224_13, o224_14, o224_17, o224_18, o224_19, o224_26, o224_27, o224_30, o224_35, o224_36, o224_39, o224_40, o224_41, o224_42, o224_43, o224_44, o224_60, o224_61, o224_62, o224_78, o224_79, o224_89, o224_90, o224_91, o224_101, o224_102, o224_103, o224_106, o224_107, o224_110, o224_150, o224_151, o224_152, o224_155, o224_158, c_X8_isThrown_, c_X8_isLens, c_X5_checkChoice, c_lensOf_1, c_X3_rewind, c_X7_rewound, c_X0_done (cs := A 18), c_X8_done (cs := A 30), mc_pi, mc_pl, mn_pi, mn_pl, mi_pi, mi_pl, ml_pi, ml_pl, mr_pi, mr_pl, mz_pi, mz_pl, mcs_0, mcs_r, Kn_v, Kn_0, mrf_some, true_and, and_true, and_false, or_true, not_false_eq_true, implies_true, and_self, Nat.reduceEqDiff, Nat.reduceLeDiff, Nat.reduceSub, Nat.reduceAdd, Nat.zero_le, Nat.le_refl, i10, lt_le, Int32.reduceLT, cl1, Kc_v, Sum.inl.injEq, Option.some.injEq, Value.int.injEq, exists_eq_left', Nat.reduceLT, hAe, i20, kc0, kc16, kc17, kc18, kc22, kc29, kc30, kc38, kc39, kn18, kn29, kn30, kr0_8, kr0_9, kr17_0, kr22_7, kr22_8, kr29_1, kz, be0, lne, lti, Int.reduceLT, or_self, o135_0, o135_1, o135_50, o135_51, o135_54, o135_75, cl1]
          (try simp only [ite_ar, implies_true, true_and, and_true, Classical.not_not])
          first | refine ⟨⟨?_, ?_, ?_, ?_, ?_, ?_, ?_, ?_, ?_, ?_, ?_, ?_⟩, rfl⟩ | refine ⟨?_, ?_, ?_, ?_, ?_, ?_, ?_, ?_, ?_, ?_, ?_, ?_⟩
          · (try simp only [K_pi, K_pl])
            exact vk
          · (try simp only [Cn_pi_j18 hA, Cn_pi_j22 hA, Cn_pi_j30 hA, Cn_pi_j16 hA, Cn_pi_j38 hA, Cn_pl])
            exact vcn
          · (try simp only [Vq0_pi_j18 hA, Vq0_pi_j22 hA, Vq0_pi_j30 hA, Vq0_pi_j16 hA, Vq0_pi_j38 hA, Vq0_pl])
            exact v0
          · (try simp only [Vq1_pi_j18 hA, Vq1_pi_j22 hA, Vq1_pi_j30 hA, Vq1_pi_j16 hA, Vq1_pi_j38 hA, Vq1_pl])
            exact v1
          · (try simp only [Vq2_pi_j18 hA, Vq2_pi_j22 hA, Vq2_pi_j30 hA, Vq2_pi_j16 hA, Vq2_pi_j38 hA, Vq2_pl])
            exact v2
          · (try simp only [Vp_pi_j18 hA, Vp_pi_j30 hA, Vp_pi_j16 hA, Vp_pi_j38 hA, Vp_thr hA, Vp_pl])
            exact vp
          · (try simp only [Vl0_pi_j18 hA, Vl0_pi_j22 hA, Vl0_pi_j30 hA, Vl0_pi_j16 hA, Vl0_pi_j38 hA, Vl0_pl])
            exact vl0
          · simp only [Vl1, mi_pi, mi_pl, hAe, Nat.reduceLT, Nat.reduceEqDiff, and_false, true_and, and_true, if_false, if_true, b1, b2, b3, b4, b5, b6, true_and, and_self]
            first | exact hq9 | exact ⟨⟨rfl, rfl, rfl, rfl, rfl, rfl⟩, hq9⟩ | (refine ⟨⟨?_, ?_, ?_, ?_, ?_, ?_⟩, hq9⟩ <;> first | rfl | trivial)
          · (try simp only [Vlr_pi_j18 hA, Vlr_pi_j22 hA, Vlr_pi_j30 hA, Vlr_pi_j16 hA, Vlr_pi_j38 hA, Vlr_pl_j39 hA])
            exact vlr
          · (try simp only [Vsr_pi_j18 hA, Vsr_pi_j22 hA, Vsr_pi_j30 hA, Vsr_pi_j16 hA, Vsr_pi_j38 hA, Vsr_pl_j39 hA])
            exact vsr
          · refine Vc_of (c := 0) vc (by decide) (fun k => ?_) (fun k => ?_) <;> simp only [mi_pi, mi_pl, hAe, Nat.reduceLT, Nat.reduceEqDiff, false_and, true_and, if_false]
          · (try simp only [Tx_pi_j18 hA, Tx_pi_j22 hA, Tx_pi_j30 hA, Tx_pi_j16 hA, Tx_pi_j38 hA, Tx_pl])
            exact tx
        · have hq9 := lnM ln
          simp only [↓ar_ite, ↓ar_ite2, ↓ar_ok, ↓reduceIte, o319_0, o319_1, o319_2, o319_3, o319_4, o319_7, o319_8, o319_11, o319_22, o319_23, o93_0, o93_1, o93_2, o93_5, o93_6, o93_7, o93_8, o93_11, o93_12, o93_13, o93_32, o93_33, o93_34, o93_53, o93_54, o93_55, o93_58, o93_59, o93_62, o93_63, o93_66, o93_69, o224_0, o224_1, o224_2, o224_5, o224_12, o224_13, o224_14, o224_17, o224_18, o224_19, o224_26, o224_27, o224_30, o224_35, o224_36, o224_39, o224_40, o224_41, o224_42, o224_43, o224_44, o224_60, o224_61, o224_62, o224_78, o224_79, o224_89, o224_90, o224_91, o224_101, o224_102, o224_103, o224_113, o224_114, o224_115, o224_118, o224_119, o224_120, o224_123, o224_126, o224_150, o224_151, o224_152, o224_155, o224_158, c_X8_isThrown_, c_X8_isLens, c_X5_checkChoice, c_lensOf_1, c_X3_setMark, c_X0_done (cs := A 18), c_X8_done (cs := A 30), mc_pi, mc_pl, mn_pi, mn_pl, mi_pi, mi_pl, ml_pi, ml_pl, mr_pi, mr_pl, mz_pi, mz_pl, mcs_0, mcs_r, Kn_v, Kn_0, mrf_some, kok_0, true_and, and_true, and_false, or_true, not_false_eq_true, implies_true, and_self, Nat.reduceEqDiff, Nat.reduceLeDiff, Nat.reduceSub, Nat.reduceAdd, Nat.zero_le, Nat.le_refl, i10, lt_le, Int32.reduceLT, cl1, Kc_v, Sum.inl.injEq, Option.some.injEq, Value.int.injEq, exists_eq_left', Nat.reduceLT, hAe, i30, kc0, kc16, kc17, kc18, kc22, kc29, kc30, kc38, kc39, kn18, kn29, kn30, kr0_8, kr0_9, kr17_0, kr22_7, kr22_8, kr29_1, kz, be0, b4, lne, lti, Int.reduceLT, or_self, o135_0, o135_1, o135_57, o135_58, o135_61, o135_75, cl1]
          (try simp only [ite_ar, implies_true, true_and, and_true, Classical.not_not])
          first | refine ⟨⟨?_, ?_, ?_, ?_, ?_, ?_, ?_, ?_, ?_, ?_, ?_, ?_⟩, rfl⟩ | refine ⟨?_, ?_, ?_, ?_, ?_, ?_, ?_, ?_, ?_, ?_, ?_, ?_⟩
          · (try simp only [K_pi, K_pl])
            exact vk
          · (try simp only [Cn_pi_j18 hA, Cn_pi_j22 hA, Cn_pi_j30 hA, Cn_pi_j16 hA, Cn_pi_j38 hA, Cn_pl])
            exact vcn
          · (try simp only [Vq0_pi_j18 hA, Vq0_pi_j22 hA, Vq0_pi_j30 hA, Vq0_pi_j16 hA, Vq0_pi_j38 hA, Vq0_pl])
            exact v0
          · (try simp only [Vq1_pi_j18 hA, Vq1_pi_j22 hA, Vq1_pi_j30 hA, Vq1_pi_j16 hA, Vq1_pi_j38 hA, Vq1_pl])
            exact v1
          · (try simp only [Vq2_pi_j18 hA, Vq2_pi_j22 hA, Vq2_pi_j30 hA, Vq2_pi_j16 hA, Vq2_pi_j38 hA, Vq2_pl])
            exact v2
          · (try simp only [Vp_pi_j18 hA, Vp_pi_j30 hA, Vp_pi_j16 hA, Vp_pi_j38 hA, Vp_thr hA, Vp_pl])
            exact vp
          · (try simp only [Vl0_pi_j18 hA, Vl0_pi_j22 hA, Vl0_pi_j30 hA, Vl0_pi_j16 hA, Vl0_pi_j38 hA, Vl0_pl])
            exact vl0
          · simp only [Vl1, mi_pi, mi_pl, hAe, Nat.reduceLT, Nat.reduceEqDiff, and_false, true_and, and_true, if_false, if_true, b1, b2, b3, b4, b5, b6, true_and, and_self]
            first | exact hq9 | exact ⟨⟨rfl, rfl, rfl, rfl, rfl, rfl⟩, hq9⟩ | (refine ⟨⟨?_, ?_, ?_, ?_, ?_, ?_⟩, hq9⟩ <;> first | rfl | trivial)
          · (try simp only [Vlr_pi_j18 hA, Vlr_pi_j22 hA, Vlr_pi_j30 hA, Vlr_pi_j16 hA, Vlr_pi_j38 hA, Vlr_pl_j39 hA])
            exact vlr
          · (try simp only [Vsr_pi_j18 hA, Vsr_pi_j22 hA, Vsr_pi_j30 hA, Vsr_pi_j16 hA, Vsr_pi_j38 hA, Vsr_pl_j39 hA])
            exact vsr
          · refine Vc_of (c := 0) vc (by decide) (fun k => ?_) (fun k => ?_) <;> simp only [mi_pi, mi_pl, hAe, Nat.reduceLT, Nat.reduceEqDiff, false_and, true_and, if_false]
          · (try simp only [Tx_pi_j18 hA, Tx_pi_j22 hA, Tx_pi_j30 hA, Tx_pi_j16 hA, Tx_pi_j38 hA, Tx_pl])
            exact tx
        · rcases lnMk ln with ⟨m1, m2⟩ | ⟨m1, m2⟩
          · skip
            simp only [↓ar_ite, ↓ar_ite2, ↓reduceIte, o319_0, o319_1, o319_2, o319_3, o319_4, o319_7, o319_8, o319_11, o319_22, o319_23, o93_0, o93_1, o93_2, o93_5, o93_6, o93_7, o93_8, o93_11, o93_12, o93_13, o93_16, o93_17, o93_20, o93_23, o93_24, o93_27, o93_28, o93_31, o224_0, o224_1, o224_2, o224_5, o224_12, o224_13, o224_14, o224_17, o224_18, o224_19, o224_26, o224_27, o224_30, o224_35, o224_36, o224_39, o224_40, o224_41, o224_42, o224_43, o224_44, o224_47, o224_48, o224_51, o224_54, o224_55, o224_56, o224_59, c_X8_isThrown_, c_X8_isLens, c_X5_checkChoice, c_X3_hasMark, c_lensOf_1, c_ref_3 (cs := A 18), c_X8_no (cs := A 30), mc_pi, mc_pl, mn_pi, mn_pl, mi_pi, mi_pl, ml_pi, ml_pl, mr_pi, mr_pl, mz_pi, mz_pl, mcs_0, mcs_r, Kn_v, Kn_0, mrf_some, true_and, and_true, or_true, not_true_eq_false, not_false_eq_true, implies_true, and_self, Nat.reduceEqDiff, Nat.reduceLeDiff, Nat.reduceSub, Nat.reduceAdd, Nat.zero_le, Nat.le_refl, i10, lt_le, Int32.reduceLT, Int32.reduceSub, cl1, cl3, Kc_v, Sum.inl.injEq, Option.some.injEq, Value.int.injEq, exists_eq_left', Nat.reduceLT, hAe, kc0, kc16, kc17, kc18, kc22, kc29, kc30, kc38, kc39, kn18, kn29, kn30, kr0_8, kr0_9, kr17_0, kr22_7, kr22_8, kr29_1, kz, be0, b6, or_self, cl1, m2, m1z, v18, cl3]
            (try simp only [ite_ar, implies_true, true_and, and_true, Classical.not_not])
            first | refine ⟨⟨?_, ?_, ?_, ?_, ?_, ?_, ?_, ?_, ?_, ?_, ?_, ?_⟩, rfl⟩ | refine ⟨?_, ?_, ?_, ?_, ?_, ?_, ?_, ?_, ?_, ?_, ?_, ?_⟩
            · (try simp only [K_pi, K_pl])
              exact vk
            · (try simp only [Cn_pi_j18 hA, Cn_pi_j22 hA, Cn_pi_j30 hA, Cn_pl])
              exact vcn
            · (try simp only [Vq0_pi_j18 hA, Vq0_pi_j22 hA, Vq0_pi_j30 hA, Vq0_pl])
              exact v0
            · (try simp only [Vq1_pi_j18 hA, Vq1_pi_j22 hA, Vq1_pi_j30 hA, Vq1_pl])
              exact v1
            · (try simp only [Vq2_pi_j18 hA, Vq2_pi_j22 hA, Vq2_pi_j30 hA, Vq2_pl])
              exact v2
            · (try simp only [Vp_pi_j18 hA, Vp_pi_j30 hA, Vp_thr hA, Vp_pl])
              exact vp
            · (try simp only [Vl0_pi_j18 hA, Vl0_pi_j22 hA, Vl0_pi_j30 hA, Vl0_pl])
              exact vl0
            · (try simp only [Vl1_pi_j18 hA, Vl1_pi_j22 hA, Vl1_pi_j30 hA, Vl1_pl])
              exact vl1
            · (try simp only [Vlr_pi_j18 hA, Vlr_pi_j22 hA, Vlr_pi_j30 hA, Vlr_pl_j39 hA])
              exact vlr
            · (try simp only [Vsr_pi_j18 hA, Vsr_pi_j22 hA, Vsr_pi_j30 hA, Vsr_pl_j39 hA])
              exact vsr
            · refine Vc_of (c := 3) vc (by decide) (fun k => ?_) (fun k => ?_) <;> simp only [mi_pi, mi_pl, hAe, Nat.reduceLT, Nat.reduceEqDiff, false_and, true_and, if_false]
            · (try simp only [Tx_pi_j18 hA, Tx_pi_j22 hA, Tx_pi_j30 hA, Tx_pl])
              exact tx
          · have hq9 := lnB ln m1
            simp only [↓ar_ite, ↓ar_ite2, ↓ar_ok, ↓reduceIte, o319_0, o319_1, o319_2, o319_3, o319_4, o319_7, o319_8, o319_11, o319_22, o319_23, o93_0, o93_1, o93_2, o93_5, o93_6, o93_7, o93_8, o93_11, o93_12, o93_13, o93_16, o93_17, o93_20, o93_32, o93_33, o93_34, o93_53, o93_54, o93_55, o93_58, o93_59, o93_62, o93_63, o93_66, o93_69, o224_0, o224_1, o224_2, o224_5, o224_12, o224_13, o224_14, o224_17, o224_18, o224_19, o224_26, o224_27, o224_30, o224_35, o224_36, o224_39, o224_40, o224_41, o224_42, o224_43, o224_44, o224_47, o224_48, o224_51, o224_60, o224_61, o224_62, o224_78, o224_79, o224_89, o224_90, o224_91, o224_101, o224_102, o224_103, o224_113, o224_114, o224_115, o224_129, o224_130, o224_131, o224_134, o224_135, o224_136, o224_139, o224_142, o224_150, o224_151, o224_152, o224_155, o224_158, c_X8_isThrown_, c_X8_isLens, c_X5_checkChoice, c_X3_hasMark, c_lensOf_1, c_X3_setBack, c_X0_done (cs := A 18), c_X8_done (cs := A 30), mc_pi, mc_pl, mn_pi, mn_pl, mi_pi, mi_pl, ml_pi, ml_pl, mr_pi, mr_pl, mz_pi, mz_pl, mcs_0, mcs_r, Kn_v, Kn_0, mrf_some, kok_0, true_and, and_true, or_true, not_false_eq_true, implies_true, and_self, Nat.reduceEqDiff, Nat.reduceLeDiff, Nat.reduceSub, Nat.reduceAdd, Nat.zero_le, Nat.le_refl, i10, lt_le, Int32.reduceLT, cl1, Kc_v, Sum.inl.injEq, Option.some.injEq, Value.int.injEq, exists_eq_left', Nat.reduceLT, hAe, kc0, kc16, kc17, kc18, kc22, kc29, kc30, kc38, kc39, kn18, kn29, kn30, kr0_8, kr0_9, kr17_0, kr22_7, kr22_8, kr29_1, kz, be0, b6, lne, lti, Int.reduceLT, or_self, o135_0, o135_1, o135_64, o135_65, o135_68, o135_75, cl1, m1, m2]
            (try simp only [ite_ar, implies_true, true_and, and_true, Classical.not_not])
            first | refine ⟨⟨?_, ?_, ?_, ?_, ?_, ?_, ?_, ?_, ?_, ?_, ?_, ?_⟩, rfl⟩ | refine ⟨?_, ?_, ?_, ?_, ?_, ?_, ?_, ?_, ?_, ?_, ?_, ?_⟩
            · (try simp only [K_pi, K_pl])
              exact vk
            · (try simp only [Cn_pi_j18 hA, Cn_pi_j22 hA, Cn_pi_j30 hA, Cn_pi_j16 hA, Cn_pi_j38 hA, Cn_pl])
              exact vcn
            · (try simp only [Vq0_pi_j18 hA, Vq0_pi_j22 hA, Vq0_pi_j30 hA, Vq0_pi_j16 hA, Vq0_pi_j38 hA, Vq0_pl])
              exact v0
            · (try simp only [Vq1_pi_j18 hA, Vq1_pi_j22 hA, Vq1_pi_j30 hA, Vq1_pi_j16 hA, Vq1_pi_j38 hA, Vq1_pl])
              exact v1
            · (try simp only [Vq2_pi_j18 hA, Vq2_pi_j22 hA, Vq2_pi_j30 hA, Vq2_pi_j16 hA, Vq2_pi_j38 hA, Vq2_pl])
              exact v2
            · (try simp only [Vp_pi_j18 hA, Vp_pi_j30 hA, Vp_pi_j16 hA, Vp_pi_j38 hA, Vp_thr hA, Vp_pl])
              exact vp
            · (try simp only [Vl0_pi_j18 hA, Vl0_pi_j22 hA, Vl0_pi_j30 hA, Vl0_pi_j16 hA, Vl0_pi_j38 hA, Vl0_pl])
              exact vl0
            · simp only [Vl1, mi_pi, mi_pl, hAe, Nat.reduceLT, Nat.reduceEqDiff, and_false, true_and, and_true, if_false, if_true, b1, b2, b3, b4, b5, b6, true_and, and_self]
              first | exact hq9 | exact ⟨⟨rfl, rfl, rfl, rfl, rfl, rfl⟩, hq9⟩ | (refine ⟨⟨?_, ?_, ?_, ?_, ?_, ?_⟩, hq9⟩ <;> first | rfl | trivial)
            · (try simp only [Vlr_pi_j18 hA, Vlr_pi_j22 hA, Vlr_pi_j30 hA, Vlr_pi_j16 hA, Vlr_pi_j38 hA, Vlr_pl_j39 hA])
              exact vlr
            · (try simp only [Vsr_pi_j18 hA, Vsr_pi_j22 hA, Vsr_pi_j30 hA, Vsr_pi_j16 hA, Vsr_pi_j38 hA, Vsr_pl_j39 hA])
              exact vsr
            · refine Vc_of (c := 0) vc (by decide) (fun k => ?_) (fun k => ?_) <;> simp only [mi_pi, mi_pl, hAe, Nat.reduceLT, Nat.reduceEqDiff, false_and, true_and, if_false]
            · (try simp only [Tx_pi_j18 hA, Tx_pi_j22 hA, Tx_pi_j30 hA, Tx_pi_j16 hA, Tx_pi_j38 hA, Tx_pl])
              exact tx
        · rcases ln.2.2.2.1 with s0 | s0
          · obtain ⟨F, N, P, L, q1, q2, q4, q5, hPL, hLN, hFN, hq9⟩ := lnNat ln (by decide) (by decide)
            have c0 : (36 : Nat) < 1000 := by decide
            have c1 : F + N ≤ 36 := by omega
            have c2 : ¬ A 38 = A 24 := fun z => absurd ((hAe 38 24 (by decide) (by decide)).mp z) (by decide)
            have c3 : F + L ≤ 36 := by omega
            simp only [↓ar_ite, ↓ar_ite2, ↓ar_ok, ↓reduceIte, o319_0, o319_1, o319_2, o319_3, o319_4, o319_7, o319_8, o319_11, o319_22, o319_23, o93_0, o93_1, o93_2, o93_5, o93_6, o93_7, o93_8, o93_11, o93_12, o93_13, o93_32, o93_33, o93_34, o93_37, o93_38, o93_41, o93_53, o93_54, o93_55, o93_58, o93_59, o93_62, o93_63, o93_66, o93_69, o224_0, o224_1, o224_2, o224_5, o224_12, o224_13, o224_14, o224_17, o224_18, o224_19, o224_26, o224_27, o224_30, o224_35, o224_36, o224_39, o224_40, o224_41, o224_42, o224_43, o224_44, o224_60, o224_61, o224_62, o224_65, o224_66, o224_69, o224_78, o224_79, o224_89, o224_90, o224_91, o224_101, o224_102, o224_103, o224_113, o224_114, o224_115, o224_129, o224_130, o224_131, o224_145, o224_146, o224_147, o224_150, o224_151, o224_152, o224_155, o224_158, c_X8_isThrown_, c_X8_isLens, c_X5_checkChoice, c_lensOf_1, c_X3_compact (rw := A 2) (cs := A 4) (R := 36) (F := F) (N := N) (P := P) (L := L), c_X8_compacted (sr := A 24) (F := F) (P := P) (L := L), c_X0_done (cs := A 18), c_X8_done (cs := A 30), mc_pi, mc_pl, mn_pi, mn_pl, mi_pi, mi_pl, ml_pi, ml_pl, mr_pi, mr_pl, mz_pi, mz_pl, mcs_0, mcs_r, Kn_v, Kn_0, mrf_some, true_and, and_true, false_and, or_true, not_false_eq_true, implies_true, and_self, Nat.reduceEqDiff, Nat.reduceLeDiff, Nat.reduceSub, Nat.reduceAdd, Nat.zero_le, Nat.le_refl, i10, lt_le, Int32.reduceLT, cl1, Kc_v, Sum.inl.injEq, Option.some.injEq, Value.int.injEq, exists_eq_left', Nat.reduceLT, hAe, kc0, kc2, kc4, kc16, kc17, kc18, kc22, kc24, kc29, kc30, kc38, kc39, kn4, kn18, kn24, kn29, kn30, kr0_8, kr0_9, kr2_0, kr16_0, kr17_0, kr22_1, kr22_7, kr22_8, kr29_1, kz, be0, b1, b2, b3, b4, b5, lne, lti, Int.reduceLT, or_self, o135_0, o135_1, o135_71, o135_72, o135_75, cl1, s0, q1, q2, q4, q5, hPL, hLN, c0, c1, c3, mvL_c, mvL_n, mvL_r, mvL_i, mvL_z, mvI_c, mvI_n, mvI_r, mvI_i, mvI_l, mvI_z]
            (try simp only [ite_ar, implies_true, true_and, and_true, Classical.not_not])
            rw [q1, q2] at hq9
            first | refine ⟨⟨?_, ?_, ?_, ?_, ?_, ?_, ?_, ?_, ?_, ?_, ?_, ?_⟩, rfl⟩ | refine ⟨?_, ?_, ?_, ?_, ?_, ?_, ?_, ?_, ?_, ?_, ?_, ?_⟩
            · (try simp only [K_pi, K_pl, K_mvI, K_mvL])
              exact vk
            · (try simp only [Cn_pi_j18 hA, Cn_pi_j22 hA, Cn_pi_j30 hA, Cn_pi_j16 hA, Cn_pi_j38 hA, Cn_pl, Cn_mvI24 hA, Cn_mvL4 hA])
              exact vcn
            · (try simp only [Vq0_pi_j18 hA, Vq0_pi_j22 hA, Vq0_pi_j30 hA, Vq0_pi_j16 hA, Vq0_pi_j38 hA, Vq0_pl, Vq0_mvI24 hA, Vq0_mvL4 hA])
              exact v0
            · (try simp only [Vq1_pi_j18 hA, Vq1_pi_j22 hA, Vq1_pi_j30 hA, Vq1_pi_j16 hA, Vq1_pi_j38 hA, Vq1_pl, Vq1_mvI24 hA, Vq1_mvL4 hA])
              exact v1
            · (try simp only [Vq2_pi_j18 hA, Vq2_pi_j22 hA, Vq2_pi_j30 hA, Vq2_pi_j16 hA, Vq2_pi_j38 hA, Vq2_pl, Vq2_mvI24 hA, Vq2_mvL4 hA])
              exact v2
            · (try simp only [Vp_pi_j18 hA, Vp_pi_j30 hA, Vp_pi_j16 hA, Vp_pi_j38 hA, Vp_thr hA, Vp_pl, Vp_mvI24 hA, Vp_mvL4 hA])
              exact vp
            · (try simp only [Vl0_pi_j18 hA, Vl0_pi_j22 hA, Vl0_pi_j30 hA, Vl0_pi_j16 hA, Vl0_pi_j38 hA, Vl0_pl, Vl0_mvI24 hA, Vl0_mvL4 hA])
              exact vl0
            · simp only [Vl1, mi_pi, mi_pl, hAe, Nat.reduceLT, Nat.reduceEqDiff, false_and, and_false, true_and, and_true, if_false, if_true, mvL_i, mvI_i, b1, b2, b3, b4, b5, b6, true_and, and_self, q1, q2, s0]
              rw [s0] at hq9
              first | exact hq9 | exact ⟨⟨rfl, rfl, rfl, rfl, rfl, rfl⟩, hq9⟩ | (refine ⟨⟨?_, ?_, ?_, ?_, ?_, ?_⟩, hq9⟩ <;> first | rfl | trivial)
            · (try simp only [Vlr_pi_j18 hA, Vlr_pi_j22 hA, Vlr_pi_j30 hA, Vlr_pi_j16 hA, Vlr_pi_j38 hA, Vlr_pl_j39 hA, Vlr_mvI24 hA, Vlr_mvL4 hA])
              exact vlr
            · refine Vsr_mv (F := F) (P := P) (n := L - P) vsr (by omega) (fun k => ?_) (fun k => ?_) <;> simp only [mi_pi, mi_pl, ml_pi, ml_pl, hAe, Nat.reduceLT, Nat.reduceEqDiff, false_and, true_and, if_false, mvL_i, mvL_l, mvI_i, mvI_l]
            · refine Vc_of (c := 0) vc (by decide) (fun k => ?_) (fun k => ?_) <;> simp only [mi_pi, mi_pl, hAe, Nat.reduceLT, Nat.reduceEqDiff, false_and, true_and, if_false, mvL_i, mvI_i]
            · (try simp only [Tx_pi_j18 hA, Tx_pi_j22 hA, Tx_pi_j30 hA, Tx_pi_j16 hA, Tx_pi_j38 hA, Tx_pl, Tx_mvI24 hA, Tx_mvL4 hA])
              exact tx
          · skip
            simp only [↓ar_ite, ↓ar_ite2, ↓reduceIte, o319_0, o319_1, o319_2, o319_3, o319_4, o319_7, o319_8, o319_11, o319_22, o319_23, o93_0, o93_1, o93_2, o93_5, o93_6, o93_7, o93_8, o93_11, o93_12, o93_13, o93_32, o93_33, o93_34, o93_37, o93_38, o93_41, o93_44, o93_45, o93_48, o93_49, o93_52, o224_0, o224_1, o224_2, o224_5, o224_12, o224_13, o224_14, o224_17, o224_18, o224_19, o224_26, o224_27, o224_30, o224_35, o224_36, o224_39, o224_40, o224_41, o224_42, o224_43, o224_44, o224_60, o224_61, o224_62, o224_65, o224_66, o224_69, o224_72, o224_73, o224_74, o224_77, c_X8_isThrown_, c_X8_isLens, c_X5_checkChoice, c_lensOf_1, c_ref_4 (cs := A 18), c_X8_no (cs := A 30), mc_pi, mc_pl, mn_pi, mn_pl, mi_pi, mi_pl, ml_pi, ml_pl, mr_pi, mr_pl, mz_pi, mz_pl, mcs_0, mcs_r, Kn_v, Kn_0, mrf_some, true_and, and_true, or_true, not_false_eq_true, implies_true, and_self, Nat.reduceEqDiff, Nat.reduceLeDiff, Nat.reduceSub, Nat.reduceAdd, Nat.zero_le, Nat.le_refl, i10, lt_le, Int32.reduceLT, Int32.reduceSub, cl1, cl4, Kc_v, Sum.inl.injEq, Option.some.injEq, Value.int.injEq, exists_eq_left', Nat.reduceLT, hAe, kc0, kc16, kc17, kc18, kc22, kc29, kc30, kc38, kc39, kn18, kn29, kn30, kr0_8, kr0_9, kr17_0, kr22_7, kr22_8, kr29_1, kz, be0, b3, lne, or_self, cl1, s0, v18, cl4]
            (try simp only [ite_ar, implies_true, true_and, and_true, Classical.not_not])
            first | refine ⟨⟨?_, ?_, ?_, ?_, ?_, ?_, ?_, ?_, ?_, ?_, ?_, ?_⟩, rfl⟩ | refine ⟨?_, ?_, ?_, ?_, ?_, ?_, ?_, ?_, ?_, ?_, ?_, ?_⟩
            · (try simp only [K_pi, K_pl])
              exact vk
            · (try simp only [Cn_pi_j18 hA, Cn_pi_j22 hA, Cn_pi_j30 hA, Cn_pl])
              exact vcn
            · (try simp only [Vq0_pi_j18 hA, Vq0_pi_j22 hA, Vq0_pi_j30 hA, Vq0_pl])
              exact v0
            · (try simp only [Vq1_pi_j18 hA, Vq1_pi_j22 hA, Vq1_pi_j30 hA, Vq1_pl])
              exact v1
            · (try simp only [Vq2_pi_j18 hA, Vq2_pi_j22 hA, Vq2_pi_j30 hA, Vq2_pl])
              exact v2
            · (try simp only [Vp_pi_j18 hA, Vp_pi_j30 hA, Vp_thr hA, Vp_pl])
              exact vp
            · (try simp only [Vl0_pi_j18 hA, Vl0_pi_j22 hA, Vl0_pi_j30 hA, Vl0_pl])
              exact vl0
            · (try simp only [Vl1_pi_j18 hA, Vl1_pi_j22 hA, Vl1_pi_j30 hA, Vl1_pl])
              exact vl1
            · (try simp only [Vlr_pi_j18 hA, Vlr_pi_j22 hA, Vlr_pi_j30 hA, Vlr_pl_j39 hA])
              exact vlr
            · (try simp only [Vsr_pi_j18 hA, Vsr_pi_j22 hA, Vsr_pi_j30 hA, Vsr_pl_j39 hA])
              exact vsr
            · refine Vc_of (c := 4) vc (by decide) (fun k => ?_) (fun k => ?_) <;> simp only [mi_pi, mi_pl, hAe, Nat.reduceLT, Nat.reduceEqDiff, false_and, true_and, if_false]
            · (try simp only [Tx_pi_j18 hA, Tx_pi_j22 hA, Tx_pi_j30 hA, Tx_pl])
              exact tx
        · exact absurd (show (5 : Int32) < 6 by decide) bx9
        · exact absurd (show (5 : Int32) < 7 by decide) bx9
        · exact absurd (show (5 : Int32) < 8 by decide) bx9


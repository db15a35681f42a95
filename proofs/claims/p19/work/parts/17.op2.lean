theorem nrng {v lo hi : Int32} (h : v < lo ∨ ¬ v < hi) : (¬ v < lo ∧ v < hi) = False := by
  apply propext
  constructor
  · rintro ⟨z1, z2⟩
    rcases h with z | z
    · exact z1 z
    · exact z z2
  · exact False.elim
theorem hx_292_1 {l rest : List Value} {bc bs : Nat} {Q : MR → MH → Prop} {h : MH} : Kc Ok 292 3 6 l rest bc bs Q (.inr 1) h ↔ ∀ q : Nat, Ok 292 13 l [.ref q] h bc bs Q := Kc_x (by decide +kernel) (by decide +kernel)
theorem op_upper {A : Nat → Nat} {h : MH} (R : Rl A h) {s : Int32} : Ok 292 0 [.ref (A 0), .int s, .ref (A 39), mk0] [] h 1 6 (fun r h1 => ∃ k : Int32, r = .inl (some (.int k)) ∧ g_c h1 (A 22) = 9 ∧ Ok 178 0 [.ref (A 22), .int s] [] h1 0 0 (fun r2 h2 => ∃ b : Int32, r2 = .inl (some (.int b)) ∧ Rl A h2 ∧ g_i h2 (A 22) 9 = k ∧ (k = 0 → g_l h2 (A 39) 0 = b.toInt64))) := by
  obtain ⟨vk, vcn, v0, v1, v2, vp, vl0, vl1, vlr, vsr, vc, tx⟩ := R
  have vk0 := vk
  have vcn0 := vcn
  (refine K_el vk0 ?_; intros hA kc0 kc1 kc2 kc3 kc4 kc5 kc6 kc7 kc8 kc9 kc10 kc11 kc12 kc13 kc14 kc15 kc16 kc17 kc18 kc19 kc20 kc21 kc22 kc23 kc24 kc25 kc26 kc27 kc28 kc29 kc30 kc31 kc32 kc33 kc34 kc35 kc36 kc37 kc38 kc39 kz kt kn3 kn4 kn18 kn21 kn23 kn24 kn25 kn26 kn27 kn29 kn30 kr0_0 kr0_1 kr0_2 kr0_3 kr0_4 kr0_5 kr0_7 kr0_8 kr0_9 kr0_10 kr1_0 kr2_0 kr5_0 kr5_1 kr6_0 kr6_1 kr7_0 kr7_1 kr8_0 kr9_0 kr10_0 kr11_0 kr12_0 kr13_0 kr14_0 kr15_0 kr16_0 kr17_0 kr19_0 kr19_1 kr22_0 kr22_1 kr22_2 kr22_3 kr22_4 kr22_5 kr22_7 kr22_8 kr25_0 kr25_1 kr25_2 kr26_0 kr26_1 kr26_2 kr29_0 kr29_1)
  (refine Cn_el vcn0 ?_; intros ki5_2 ki6_2 ki7_2 ki8_1 ki8_2 ki8_3 ki9_1 ki9_2 ki9_3 ki10_1 ki10_2 ki10_3 ki11_1 ki11_2 ki11_3 ki12_1 ki12_2 ki12_3 ki13_1 ki13_2 ki13_3 ki14_1 ki14_2 ki14_3 ki28_0 ki28_1 ki31_0 ki31_1 ki32_0 ki32_1 ki33_0 ki33_1 ki34_0 ki34_1 ki35_0 ki35_1 ki36_0 ki36_1)
  have hAe : ∀ i j, i < 40 → j < 40 → (A i = A j ↔ i = j) := hA
  by_cases bs : s < 0 ∨ ¬ s < 6
  · have bs2 : (¬ s < 0 ∧ s < 6) = False := nrng bs
    simp only [o292_0, o292_1, o292_2, o292_3, o292_13, o292_14, o292_15, o60_0, o60_1, o60_4, o60_5, o60_6, o178_0, o178_1, o178_2, o178_5, o178_8, o178_9, o178_12, o178_13, o178_16, o178_19, o178_20, o178_23, o178_24, o178_25, o178_32, hx_292_1, c_X5_checkSlot, c_X8_isSlot, c_X8_isThrown__, mc_pi, mc_pT, mi_pi, mi_pT, ml_pi, ml_pT, mz_pT, mcs_0, mcs_r, Kn_v, Kn_0, Kn_x, true_and, and_true, not_true_eq_false, not_false_eq_true, false_implies, forall_const, if_true, if_false, and_self, Nat.reduceLeDiff, Nat.reduceSub, Nat.reduceAdd, Nat.zero_le, Nat.le_refl, i10, Sum.inl.injEq, Option.some.injEq, Value.int.injEq, exists_eq_left', Nat.reduceLT, kc0, kc22, kz, bs, bs2]
    intro t ht
    first | refine ⟨⟨?_, ?_, ?_, ?_, ?_, ?_, ?_, ?_, ?_, ?_, ?_, ?_⟩, rfl⟩ | refine ⟨?_, ?_, ?_, ?_, ?_, ?_, ?_, ?_, ?_, ?_, ?_, ?_⟩
    · (try simp only [K_pi])
      exact K_pT ht vk
    · (try simp only [Cn_pi_j22 hA, Cn_pT])
      exact vcn
    · (try simp only [Vq0_pi_j22 hA, Vq0_pT])
      exact v0
    · (try simp only [Vq1_pi_j22 hA, Vq1_pT])
      exact v1
    · (try simp only [Vq2_pi_j22 hA, Vq2_pT])
      exact v2
    · (try simp only [Vp_thr hA, Vp_pT])
      exact vp
    · (try simp only [Vl0_pi_j22 hA, Vl0_pT])
      exact vl0
    · (try simp only [Vl1_pi_j22 hA, Vl1_pT])
      exact vl1
    · (try simp only [Vlr_pi_j22 hA, Vlr_pT])
      exact vlr
    · (try simp only [Vsr_pi_j22 hA, Vsr_pT])
      exact vsr
    · (try simp only [Vc_pi_j22 hA, Vc_pT])
      exact vc
    · (try simp only [Tx_pi_j22 hA])
      exact Tx_pT ht tx
  · have s1 : ¬ s < 0 := fun z => bs (Or.inl z)
    have s2 : s < 6 := Classical.byContradiction fun z => bs (Or.inr z)
    have hs := ix_ok s1 s2
    have hs2 := hs
    obtain ⟨⟨j0, j1, j2, j3⟩, d01, d02, d03, d10, d12, d13, d20, d21, d23, d30, d31, d32⟩ := hs2
    obtain ⟨l0, l1, l2, l3⟩ := ix_lt hs
    have vs0 := (vsr _ l0).1
    have vs1 := (vsr _ l1).1
    have vs2 := (vsr _ l2).1
    have vs3 := (vsr _ l3).1
    have bs2 : (¬ s < 0 ∧ s < 6) = True := eq_true ⟨s1, s2⟩
    simp only [o292_0, o292_1, o292_2, o292_3, o292_6, o292_7, o292_10, o292_13, o292_14, o292_15, o292_16, o292_17, o60_0, o60_1, o60_4, o60_5, o60_6, o60_9, o60_12, o178_0, o178_1, o178_2, o178_5, o178_8, o178_9, o178_12, o178_13, o178_16, o178_19, o178_20, o178_23, o178_24, o178_25, o178_28, o178_30, o178_31, o178_32, hx_292_1, c_X5_checkSlot, c_X8_isSlot, c_X8_isThrown__, c_X5_numberIn (rw := A 2) (cs := A 4), c_X8_numberOf (sr := A 24), c_X5_upperOf, mc_pi, mc_pl, mc_pT, mn_pi, mn_pl, mn_pT, mi_pi, mi_pl, mi_pT, ml_pi, ml_pl, ml_pT, mr_pi, mr_pl, mr_pT, mz_pl, mz_pT, mcs_0, mcs_r, Kn_v, Kn_0, Kn_x, true_and, and_true, false_and, and_false, or_false, not_true_eq_false, not_false_eq_true, false_implies, implies_true, forall_const, if_true, if_false, and_self, Nat.reduceEqDiff, Nat.reduceLeDiff, Nat.reduceSub, Nat.reduceAdd, Nat.zero_le, Nat.le_refl, i10, i01, Kc_v, Sum.inl.injEq, Option.some.injEq, Value.int.injEq, exists_eq_left', Nat.reduceLT, hAe, kc0, kc2, kc4, kc22, kc24, kc39, kn4, kn24, kr0_1, kr2_0, kr22_1, kz, s1, s2, hs, vs0, vs1, vs2, vs3, i64_inj, i64_back, nm_eq]
    first | refine ⟨⟨?_, ?_, ?_, ?_, ?_, ?_, ?_, ?_, ?_, ?_, ?_, ?_⟩, rfl⟩ | refine ⟨?_, ?_, ?_, ?_, ?_, ?_, ?_, ?_, ?_, ?_, ?_, ?_⟩
    · (try simp only [K_pi, K_pl])
      exact vk
    · (try simp only [Cn_pi_j22 hA, Cn_pl])
      exact vcn
    · (try simp only [Vq0_pi_j22 hA, Vq0_pl])
      exact v0
    · (try simp only [Vq1_pi_j22 hA, Vq1_pl])
      exact v1
    · (try simp only [Vq2_pi_j22 hA, Vq2_pl])
      exact v2
    · (try simp only [Vp_thr hA, Vp_pl])
      exact vp
    · (try simp only [Vl0_pi_j22 hA, Vl0_pl])
      exact vl0
    · (try simp only [Vl1_pi_j22 hA, Vl1_pl])
      exact vl1
    · (try simp only [Vlr_pi_j22 hA, Vlr_pl_j39 hA])
      exact vlr
    · (try simp only [Vsr_pi_j22 hA, Vsr_pl_j39 hA])
      exact vsr
    · (try simp only [Vc_pi_j22 hA, Vc_pl])
      exact vc
    · (try simp only [Tx_pi_j22 hA, Tx_pl])
      exact tx

theorem hx_293_1 {l rest : List Value} {bc bs : Nat} {Q : MR → MH → Prop} {h : MH} : Kc Ok 293 3 6 l rest bc bs Q (.inr 1) h ↔ ∀ q : Nat, Ok 293 13 l [.ref q] h bc bs Q := Kc_x (by decide +kernel) (by decide +kernel)
theorem op_lower {A : Nat → Nat} {h : MH} (R : Rl A h) {s : Int32} : Ok 293 0 [.ref (A 0), .int s, .ref (A 39), mk0] [] h 1 6 (fun r h1 => ∃ k : Int32, r = .inl (some (.int k)) ∧ g_c h1 (A 22) = 9 ∧ Ok 179 0 [.ref (A 22), .int s] [] h1 0 0 (fun r2 h2 => ∃ b : Int32, r2 = .inl (some (.int b)) ∧ Rl A h2 ∧ g_i h2 (A 22) 9 = k ∧ (k = 0 → g_l h2 (A 39) 0 = b.toInt64))) := by
  obtain ⟨vk, vcn, v0, v1, v2, vp, vl0, vl1, vlr, vsr, vc, tx⟩ := R
  have vk0 := vk
  have vcn0 := vcn
  (refine K_el vk0 ?_; intros hA kc0 kc1 kc2 kc3 kc4 kc5 kc6 kc7 kc8 kc9 kc10 kc11 kc12 kc13 kc14 kc15 kc16 kc17 kc18 kc19 kc20 kc21 kc22 kc23 kc24 kc25 kc26 kc27 kc28 kc29 kc30 kc31 kc32 kc33 kc34 kc35 kc36 kc37 kc38 kc39 kz kt kn3 kn4 kn18 kn21 kn23 kn24 kn25 kn26 kn27 kn29 kn30 kr0_0 kr0_1 kr0_2 kr0_3 kr0_4 kr0_5 kr0_7 kr0_8 kr0_9 kr0_10 kr1_0 kr2_0 kr5_0 kr5_1 kr6_0 kr6_1 kr7_0 kr7_1 kr8_0 kr9_0 kr10_0 kr11_0 kr12_0 kr13_0 kr14_0 kr15_0 kr16_0 kr17_0 kr19_0 kr19_1 kr22_0 kr22_1 kr22_2 kr22_3 kr22_4 kr22_5 kr22_7 kr22_8 kr25_0 kr25_1 kr25_2 kr26_0 kr26_1 kr26_2 kr29_0 kr29_1)
  (refine Cn_el vcn0 ?_; intros ki5_2 ki6_2 ki7_2 ki8_1 ki8_2 ki8_3 ki9_1 ki9_2 ki9_3 ki10_1 ki10_2 ki10_3 ki11_1 ki11_2 ki11_3 ki12_1 ki12_2 ki12_3 ki13_1 ki13_2 ki13_3 ki14_1 ki14_2 ki14_3 ki28_0 ki28_1 ki31_0 ki31_1 ki32_0 ki32_1 ki33_0 ki33_1 ki34_0 ki34_1 ki35_0 ki35_1 ki36_0 ki36_1)
  have hAe : ∀ i j, i < 40 → j < 40 → (A i = A j ↔ i = j) := hA
  by_cases bs : s < 0 ∨ ¬ s < 6
  · have bs2 : (¬ s < 0 ∧ s < 6) = False := nrng bs
    simp only [o293_0, o293_1, o293_2, o293_3, o293_13, o293_14, o293_15, o61_0, o61_1, o61_4, o61_5, o61_6, o179_0, o179_1, o179_2, o179_5, o179_8, o179_9, o179_12, o179_13, o179_16, o179_19, o179_20, o179_23, o179_24, o179_25, o179_29, hx_293_1, c_X5_checkSlot, c_X8_isSlot, c_X8_isThrown__, mc_pi, mc_pT, mi_pi, mi_pT, ml_pi, ml_pT, mz_pT, mcs_0, mcs_r, Kn_v, Kn_0, Kn_x, true_and, and_true, not_true_eq_false, not_false_eq_true, false_implies, forall_const, if_true, if_false, and_self, Nat.reduceLeDiff, Nat.reduceSub, Nat.reduceAdd, Nat.zero_le, Nat.le_refl, i10, Sum.inl.injEq, Option.some.injEq, Value.int.injEq, exists_eq_left', Nat.reduceLT, kc0, kc22, kz, bs, bs2]
    intro t ht
    first | refine ⟨⟨?_, ?_, ?_, ?_, ?_, ?_, ?_, ?_, ?_, ?_, ?_, ?_⟩, rfl⟩ | refine ⟨?_, ?_, ?_, ?_, ?_, ?_, ?_, ?_, ?_, ?_, ?_, ?_⟩
    · (try simp only [K_pi])
      exact K_pT ht vk
    · (try simp only [Cn_pi_j22 hA, Cn_pT])
      exact vcn
    · (try simp only [Vq0_pi_j22 hA, Vq0_pT])
      exact v0
    · (try simp only [Vq1_pi_j22 hA, Vq1_pT])
      exact v1
    · (try simp only [Vq2_pi_j22 hA, Vq2_pT])
      exact v2
    · (try simp only [Vp_thr hA, Vp_pT])
      exact vp
    · (try simp only [Vl0_pi_j22 hA, Vl0_pT])
      exact vl0
    · (try simp only [Vl1_pi_j22 hA, Vl1_pT])
      exact vl1
    · (try simp only [Vlr_pi_j22 hA, Vlr_pT])
      exact vlr
    · (try simp only [Vsr_pi_j22 hA, Vsr_pT])
      exact vsr
    · (try simp only [Vc_pi_j22 hA, Vc_pT])
      exact vc
    · (try simp only [Tx_pi_j22 hA])
      exact Tx_pT ht tx
  · have s1 : ¬ s < 0 := fun z => bs (Or.inl z)
    have s2 : s < 6 := Classical.byContradiction fun z => bs (Or.inr z)
    have hs := ix_ok s1 s2
    have hs2 := hs
    obtain ⟨⟨j0, j1, j2, j3⟩, d01, d02, d03, d10, d12, d13, d20, d21, d23, d30, d31, d32⟩ := hs2
    obtain ⟨l0, l1, l2, l3⟩ := ix_lt hs
    have vs0 := (vsr _ l0).1
    have vs1 := (vsr _ l1).1
    have vs2 := (vsr _ l2).1
    have vs3 := (vsr _ l3).1
    have bs2 : (¬ s < 0 ∧ s < 6) = True := eq_true ⟨s1, s2⟩
    simp only [o293_0, o293_1, o293_2, o293_3, o293_6, o293_7, o293_10, o293_13, o293_14, o293_15, o293_16, o293_17, o61_0, o61_1, o61_4, o61_5, o61_6, o61_9, o61_12, o179_0, o179_1, o179_2, o179_5, o179_8, o179_9, o179_12, o179_13, o179_16, o179_19, o179_20, o179_23, o179_24, o179_25, o179_28, o179_29, hx_293_1, c_X5_checkSlot, c_X8_isSlot, c_X8_isThrown__, c_X5_numberIn (rw := A 2) (cs := A 4), c_X8_numberOf (sr := A 24), c_X5_lowerOf, mc_pi, mc_pl, mc_pT, mn_pi, mn_pl, mn_pT, mi_pi, mi_pl, mi_pT, ml_pi, ml_pl, ml_pT, mr_pi, mr_pl, mr_pT, mz_pl, mz_pT, mcs_0, mcs_r, Kn_v, Kn_0, Kn_x, true_and, and_true, false_and, and_false, or_false, not_true_eq_false, not_false_eq_true, false_implies, implies_true, forall_const, if_true, if_false, and_self, Nat.reduceEqDiff, Nat.reduceLeDiff, Nat.reduceSub, Nat.reduceAdd, Nat.zero_le, Nat.le_refl, i10, i01, Kc_v, Sum.inl.injEq, Option.some.injEq, Value.int.injEq, exists_eq_left', Nat.reduceLT, hAe, kc0, kc2, kc4, kc22, kc24, kc39, kn4, kn24, kr0_1, kr2_0, kr22_1, kz, s1, s2, hs, vs0, vs1, vs2, vs3, i64_inj, i64_back, nm_eq]
    first | refine ⟨⟨?_, ?_, ?_, ?_, ?_, ?_, ?_, ?_, ?_, ?_, ?_, ?_⟩, rfl⟩ | refine ⟨?_, ?_, ?_, ?_, ?_, ?_, ?_, ?_, ?_, ?_, ?_, ?_⟩
    · (try simp only [K_pi, K_pl])
      exact vk
    · (try simp only [Cn_pi_j22 hA, Cn_pl])
      exact vcn
    · (try simp only [Vq0_pi_j22 hA, Vq0_pl])
      exact v0
    · (try simp only [Vq1_pi_j22 hA, Vq1_pl])
      exact v1
    · (try simp only [Vq2_pi_j22 hA, Vq2_pl])
      exact v2
    · (try simp only [Vp_thr hA, Vp_pl])
      exact vp
    · (try simp only [Vl0_pi_j22 hA, Vl0_pl])
      exact vl0
    · (try simp only [Vl1_pi_j22 hA, Vl1_pl])
      exact vl1
    · (try simp only [Vlr_pi_j22 hA, Vlr_pl_j39 hA])
      exact vlr
    · (try simp only [Vsr_pi_j22 hA, Vsr_pl_j39 hA])
      exact vsr
    · (try simp only [Vc_pi_j22 hA, Vc_pl])
      exact vc
    · (try simp only [Tx_pi_j22 hA, Tx_pl])
      exact tx

theorem f_cases {f : Int32} (h1 : ¬ f < 0) (h2 : f < 4) : f = 0 ∨ f = 1 ∨ f = 2 ∨ f = 3 := by
  have h3 : f < 6 := by
    rw [Int32.lt_iff_toInt_lt] at h2 ⊢
    have e1 : (4 : Int32).toInt = 4 := rfl
    have e2 : (6 : Int32).toInt = 6 := rfl
    omega
  rcases s_cases h1 h3 with rfl | rfl | rfl | rfl | rfl | rfl
  · exact Or.inl rfl
  · exact Or.inr (Or.inl rfl)
  · exact Or.inr (Or.inr (Or.inl rfl))
  · exact Or.inr (Or.inr (Or.inr rfl))
  · exact absurd h2 (by decide)
  · exact absurd h2 (by decide)
theorem ixf_ok {s f : Int32} (h1 : ¬ s < 0) (h2 : s < 6) (h3 : ¬ f < 0) (h4 : f < 4) : rdy 36 (11 + 4 * s + f) := by
  rcases s_cases h1 h2 with rfl | rfl | rfl | rfl | rfl | rfl <;> rcases f_cases h3 h4 with rfl | rfl | rfl | rfl <;> (unfold rdy vp_in; decide)
theorem rdy_lt {n : Nat} {j : Int32} (h : rdy n j) : j.toNatClampNeg < n := by
  obtain ⟨-, -, h⟩ := h
  unfold vp_in at h
  omega
theorem sh_rng {v : Int32} (h1 : ¬ v < -32768) (h2 : ¬ 32767 < v) : v < 32768 ∧ v.toInt16.toInt32 = v := by
  rw [Int32.lt_iff_toInt_lt] at h1 h2
  have e1 : (-32768 : Int32).toInt = -32768 := rfl
  have e2 : (32767 : Int32).toInt = 32767 := rfl
  have e3 : (32768 : Int32).toInt = 32768 := rfl
  refine ⟨by rw [Int32.lt_iff_toInt_lt]; omega, lg_i2s_small (by omega) (by omega)⟩
theorem sh_bad {v : Int32} (h : v < -32768 ∨ 32767 < v) : (¬ v < -32768 ∧ v < 32768) = False := by
  apply nrng
  rcases h with h | h
  · exact Or.inl h
  · refine Or.inr ?_
    rw [Int32.lt_iff_toInt_lt] at h ⊢
    have e2 : (32767 : Int32).toInt = 32767 := rfl
    have e3 : (32768 : Int32).toInt = 32768 := rfl
    omega
theorem Vsr_1 {A : Nat → Nat} {h h2 : MH} {i0 : Nat} {x0 : Int32} (v : Vsr A h) (y0 : x0.toInt16.toInt32 = x0)
    (e1 : ∀ k, g_l h2 (A 4) k = if k = i0 then x0.toInt64 else g_l h (A 4) k) (e2 : ∀ k, g_i h2 (A 24) k = if k = i0 then x0 else g_i h (A 24) k) : Vsr A h2 := by
  intro k hk
  rw [e1, e2]
  by_cases c0 : k = i0
  · simp only [if_pos c0]; exact ⟨trivial, y0⟩
  simp only [if_neg c0]
  exact v k hk
theorem Vlr_1 {A : Nat → Nat} {h h2 : MH} {i0 : Nat} {x0 : Int64} (v : Vlr A h) (e1 : ∀ k, g_l h2 (A 3) k = if k = i0 then x0 else g_l h (A 3) k) (e2 : ∀ k, g_l h2 (A 23) k = if k = i0 then x0 else g_l h (A 23) k) : Vlr A h2 := by
  intro k hk
  rw [e1, e2]
  by_cases c0 : k = i0
  · simp only [if_pos c0]
  simp only [if_neg c0]
  exact v k hk
theorem hx_294_1 {l rest : List Value} {bc bs : Nat} {Q : MR → MH → Prop} {h : MH} : Kc Ok 294 4 7 l rest bc bs Q (.inr 1) h ↔ ∀ q : Nat, Ok 294 14 l [.ref q] h bc bs Q := Kc_x (by decide +kernel) (by decide +kernel)
theorem hx_294_2 {l rest : List Value} {bc bs : Nat} {Q : MR → MH → Prop} {h : MH} : Kc Ok 294 4 7 l rest bc bs Q (.inr 2) h ↔ ∀ q : Nat, Ok 294 18 l [.ref q] h bc bs Q := Kc_x (by decide +kernel) (by decide +kernel)
theorem op_fourth {A : Nat → Nat} {h : MH} (R : Rl A h) {s f : Int32} : Ok 294 0 [.ref (A 0), .int s, .int f, .ref (A 39), mk0] [] h 2 12 (fun r h1 => ∃ k : Int32, r = .inl (some (.int k)) ∧ g_c h1 (A 22) = 9 ∧ Ok 180 0 [.ref (A 22), .int s, .int f] [] h1 0 0 (fun r2 h2 => ∃ b : Int32, r2 = .inl (some (.int b)) ∧ Rl A h2 ∧ g_i h2 (A 22) 9 = k ∧ (k = 0 → g_l h2 (A 39) 0 = b.toInt64))) := by
  obtain ⟨vk, vcn, v0, v1, v2, vp, vl0, vl1, vlr, vsr, vc, tx⟩ := R
  have vk0 := vk
  have vcn0 := vcn
  (refine K_el vk0 ?_; intros hA kc0 kc1 kc2 kc3 kc4 kc5 kc6 kc7 kc8 kc9 kc10 kc11 kc12 kc13 kc14 kc15 kc16 kc17 kc18 kc19 kc20 kc21 kc22 kc23 kc24 kc25 kc26 kc27 kc28 kc29 kc30 kc31 kc32 kc33 kc34 kc35 kc36 kc37 kc38 kc39 kz kt kn3 kn4 kn18 kn21 kn23 kn24 kn25 kn26 kn27 kn29 kn30 kr0_0 kr0_1 kr0_2 kr0_3 kr0_4 kr0_5 kr0_7 kr0_8 kr0_9 kr0_10 kr1_0 kr2_0 kr5_0 kr5_1 kr6_0 kr6_1 kr7_0 kr7_1 kr8_0 kr9_0 kr10_0 kr11_0 kr12_0 kr13_0 kr14_0 kr15_0 kr16_0 kr17_0 kr19_0 kr19_1 kr22_0 kr22_1 kr22_2 kr22_3 kr22_4 kr22_5 kr22_7 kr22_8 kr25_0 kr25_1 kr25_2 kr26_0 kr26_1 kr26_2 kr29_0 kr29_1)
  (refine Cn_el vcn0 ?_; intros ki5_2 ki6_2 ki7_2 ki8_1 ki8_2 ki8_3 ki9_1 ki9_2 ki9_3 ki10_1 ki10_2 ki10_3 ki11_1 ki11_2 ki11_3 ki12_1 ki12_2 ki12_3 ki13_1 ki13_2 ki13_3 ki14_1 ki14_2 ki14_3 ki28_0 ki28_1 ki31_0 ki31_1 ki32_0 ki32_1 ki33_0 ki33_1 ki34_0 ki34_1 ki35_0 ki35_1 ki36_0 ki36_1)
  have hAe : ∀ i j, i < 40 → j < 40 → (A i = A j ↔ i = j) := hA
  by_cases bs : s < 0 ∨ ¬ s < 6
  · have bs2 : (¬ s < 0 ∧ s < 6) = False := nrng bs
    by_cases bf : (¬ f < 0 ∧ f < 4)
    all_goals
      simp only [o294_0, o294_1, o294_2, o294_3, o294_4, o294_14, o294_16, o294_17, o294_18, o294_20, o294_21, o62_0, o62_1, o62_4, o62_5, o62_8, o62_9, o62_10, o62_11, o180_0, o180_1, o180_2, o180_5, o180_8, o180_9, o180_12, o180_13, o180_14, o180_17, o180_20, o180_21, o180_24, o180_25, o180_28, o180_31, o180_32, o180_35, o180_36, o180_39, o180_41, o180_42, o180_43, o180_44, o180_45, o180_46, o180_47, o180_48, hx_294_1, hx_294_2, c_X5_checkSlot, c_X8_isSlot, c_X8_isThrown_, c_X5_checkFourth, c_X8_isFourth, mc_pi, mc_pT, mn_pi, mn_pT, mi_pi, mi_pT, ml_pi, ml_pT, mr_pi, mr_pT, mz_pT, mcs_0, mcs_i, mcs_r, Kn_v, Kn_0, Kn_x, mrf_some, true_and, and_true, false_and, or_false, not_true_eq_false, not_false_eq_true, false_implies, forall_const, if_true, if_false, and_self, Nat.reduceEqDiff, Nat.reduceLeDiff, Nat.reduceSub, Nat.reduceAdd, Nat.zero_le, Nat.le_refl, i10, Sum.inl.injEq, Option.some.injEq, Value.int.injEq, exists_eq_left', Nat.reduceLT, hAe, i20, kc0, kc22, kc24, kn24, kr22_1, kz, bs, bs2, bf]
      intro t ht
      first | refine ⟨⟨?_, ?_, ?_, ?_, ?_, ?_, ?_, ?_, ?_, ?_, ?_, ?_⟩, rfl⟩ | refine ⟨?_, ?_, ?_, ?_, ?_, ?_, ?_, ?_, ?_, ?_, ?_, ?_⟩
      · (try simp only [K_pi])
        exact K_pT ht vk
      · (try simp only [Cn_pi_j22 hA, Cn_pT])
        exact vcn
      · (try simp only [Vq0_pi_j22 hA, Vq0_pT])
        exact v0
      · (try simp only [Vq1_pi_j22 hA, Vq1_pT])
        exact v1
      · (try simp only [Vq2_pi_j22 hA, Vq2_pT])
        exact v2
      · (try simp only [Vp_thr hA, Vp_pT])
        exact vp
      · (try simp only [Vl0_pi_j22 hA, Vl0_pT])
        exact vl0
      · (try simp only [Vl1_pi_j22 hA, Vl1_pT])
        exact vl1
      · (try simp only [Vlr_pi_j22 hA, Vlr_pT])
        exact vlr
      · (try simp only [Vsr_pi_j22 hA, Vsr_pT])
        exact vsr
      · (try simp only [Vc_pi_j22 hA, Vc_pT])
        exact vc
      · (try simp only [Tx_pi_j22 hA])
        exact Tx_pT ht tx
  · have s1 : ¬ s < 0 := fun z => bs (Or.inl z)
    have s2 : s < 6 := Classical.byContradiction fun z => bs (Or.inr z)
    have hs := ix_ok s1 s2
    have hs2 := hs
    obtain ⟨⟨j0, j1, j2, j3⟩, d01, d02, d03, d10, d12, d13, d20, d21, d23, d30, d31, d32⟩ := hs2
    obtain ⟨l0, l1, l2, l3⟩ := ix_lt hs
    have vs0 := (vsr _ l0).1
    have vs1 := (vsr _ l1).1
    have vs2 := (vsr _ l2).1
    have vs3 := (vsr _ l3).1
    have bs2 : (¬ s < 0 ∧ s < 6) = True := eq_true ⟨s1, s2⟩
    by_cases bf : f < 0 ∨ ¬ f < 4
    · have bf2 : (¬ f < 0 ∧ f < 4) = False := nrng bf
      simp only [o294_0, o294_1, o294_2, o294_3, o294_4, o294_14, o294_16, o294_17, o294_18, o294_20, o294_21, o62_0, o62_1, o62_4, o62_5, o62_8, o62_9, o62_10, o62_11, o180_0, o180_1, o180_2, o180_5, o180_8, o180_9, o180_12, o180_13, o180_14, o180_17, o180_20, o180_21, o180_24, o180_25, o180_28, o180_31, o180_32, o180_35, o180_36, o180_39, o180_41, o180_42, o180_43, o180_44, o180_45, o180_46, o180_47, o180_48, hx_294_1, hx_294_2, c_X5_checkSlot, c_X8_isSlot, c_X8_isThrown_, c_X5_checkFourth, c_X8_isFourth, mc_pi, mc_pT, mn_pi, mn_pT, mi_pi, mi_pT, ml_pi, ml_pT, mr_pi, mr_pT, mz_pT, mcs_0, mcs_i, mcs_r, Kn_v, Kn_0, Kn_x, mrf_some, true_and, and_true, false_and, and_false, or_false, not_true_eq_false, not_false_eq_true, false_implies, forall_const, if_true, if_false, and_self, Nat.reduceEqDiff, Nat.reduceLeDiff, Nat.reduceSub, Nat.reduceAdd, Nat.zero_le, Nat.le_refl, i10, Sum.inl.injEq, Option.some.injEq, Value.int.injEq, exists_eq_left', Nat.reduceLT, hAe, i20, kc0, kc22, kc24, kn24, kr22_1, kz, bf, bf2, s1, s2]
      intro t ht
      first | refine ⟨⟨?_, ?_, ?_, ?_, ?_, ?_, ?_, ?_, ?_, ?_, ?_, ?_⟩, rfl⟩ | refine ⟨?_, ?_, ?_, ?_, ?_, ?_, ?_, ?_, ?_, ?_, ?_, ?_⟩
      · (try simp only [K_pi])
        exact K_pT ht vk
      · (try simp only [Cn_pi_j22 hA, Cn_pT])
        exact vcn
      · (try simp only [Vq0_pi_j22 hA, Vq0_pT])
        exact v0
      · (try simp only [Vq1_pi_j22 hA, Vq1_pT])
        exact v1
      · (try simp only [Vq2_pi_j22 hA, Vq2_pT])
        exact v2
      · (try simp only [Vp_thr hA, Vp_pT])
        exact vp
      · (try simp only [Vl0_pi_j22 hA, Vl0_pT])
        exact vl0
      · (try simp only [Vl1_pi_j22 hA, Vl1_pT])
        exact vl1
      · (try simp only [Vlr_pi_j22 hA, Vlr_pT])
        exact vlr
      · (try simp only [Vsr_pi_j22 hA, Vsr_pT])
        exact vsr
      · (try simp only [Vc_pi_j22 hA, Vc_pT])
        exact vc
      · (try simp only [Tx_pi_j22 hA])
        exact Tx_pT ht tx
    · have f1 : ¬ f < 0 := fun z => bf (Or.inl z)
      have f2 : f < 4 := Classical.byContradiction fun z => bf (Or.inr z)
      have bf2 : (¬ f < 0 ∧ f < 4) = True := eq_true ⟨f1, f2⟩
      have hj := ixf_ok s1 s2 f1 f2
      have hv := hj.2.2
      have vsf := (vsr _ (rdy_lt hj)).1
      simp only [o294_0, o294_1, o294_2, o294_3, o294_4, o294_7, o294_8, o294_11, o294_14, o294_16, o294_17, o294_18, o294_20, o294_21, o294_22, o294_23, o62_0, o62_1, o62_4, o62_5, o62_8, o62_9, o62_10, o62_11, o62_14, o180_0, o180_1, o180_2, o180_5, o180_8, o180_9, o180_12, o180_13, o180_14, o180_17, o180_20, o180_21, o180_24, o180_25, o180_28, o180_31, o180_32, o180_35, o180_36, o180_39, o180_41, o180_42, o180_43, o180_44, o180_45, o180_46, o180_47, o180_48, hx_294_1, hx_294_2, c_X5_checkSlot, c_X8_isSlot, c_X8_isThrown_, c_X5_checkFourth, c_X8_isFourth, c_X5_fourthIn (rw := A 2) (cs := A 4), mc_pi, mc_pl, mc_pT, mn_pi, mn_pl, mn_pT, mi_pi, mi_pl, mi_pT, ml_pi, ml_pl, ml_pT, mr_pi, mr_pl, mr_pT, mz_pl, mz_pT, mcs_0, mcs_i, mcs_r, Kn_v, Kn_0, Kn_x, mrf_some, true_and, and_true, false_and, and_false, or_false, not_true_eq_false, not_false_eq_true, false_implies, implies_true, forall_const, if_true, if_false, and_self, Nat.reduceEqDiff, Nat.reduceLeDiff, Nat.reduceSub, Nat.reduceAdd, Nat.zero_le, Nat.le_refl, i10, i01, Kc_v, Sum.inl.injEq, Option.some.injEq, Value.int.injEq, exists_eq_left', Nat.reduceLT, hAe, i20, kc0, kc2, kc4, kc22, kc24, kc39, kn4, kn24, kr0_1, kr2_0, kr22_1, kz, f1, f2, hj, hv, vsf, s1, s2, i64_inj, i64_back]
      first | refine ⟨⟨?_, ?_, ?_, ?_, ?_, ?_, ?_, ?_, ?_, ?_, ?_, ?_⟩, rfl⟩ | refine ⟨?_, ?_, ?_, ?_, ?_, ?_, ?_, ?_, ?_, ?_, ?_, ?_⟩
      · (try simp only [K_pi, K_pl])
        exact vk
      · (try simp only [Cn_pi_j22 hA, Cn_pl])
        exact vcn
      · (try simp only [Vq0_pi_j22 hA, Vq0_pl])
        exact v0
      · (try simp only [Vq1_pi_j22 hA, Vq1_pl])
        exact v1
      · (try simp only [Vq2_pi_j22 hA, Vq2_pl])
        exact v2
      · (try simp only [Vp_thr hA, Vp_pl])
        exact vp
      · (try simp only [Vl0_pi_j22 hA, Vl0_pl])
        exact vl0
      · (try simp only [Vl1_pi_j22 hA, Vl1_pl])
        exact vl1
      · (try simp only [Vlr_pi_j22 hA, Vlr_pl_j39 hA])
        exact vlr
      · (try simp only [Vsr_pi_j22 hA, Vsr_pl_j39 hA])
        exact vsr
      · (try simp only [Vc_pi_j22 hA, Vc_pl])
        exact vc
      · (try simp only [Tx_pi_j22 hA, Tx_pl])
        exact tx

theorem hx_291_1 {l rest : List Value} {bc bs : Nat} {Q : MR → MH → Prop} {h : MH} : Kc Ok 291 6 9 l rest bc bs Q (.inr 1) h ↔ ∀ q : Nat, Ok 291 16 l [.ref q] h bc bs Q := Kc_x (by decide +kernel) (by decide +kernel)
theorem hx_291_2 {l rest : List Value} {bc bs : Nat} {Q : MR → MH → Prop} {h : MH} : Kc Ok 291 6 9 l rest bc bs Q (.inr 2) h ↔ ∀ q : Nat, Ok 291 20 l [.ref q] h bc bs Q := Kc_x (by decide +kernel) (by decide +kernel)
theorem op_layFourth {A : Nat → Nat} {h : MH} (R : Rl A h) {s f v : Int32} : Ok 291 0 [.ref (A 0), .int s, .int f, .int v, .ref (A 39), mk0] [] h 3 18 (fun r h1 => ∃ k : Int32, r = .inl (some (.int k)) ∧ g_c h1 (A 22) = 9 ∧ Ok 177 0 [.ref (A 22), .int s, .int f, .int v] [] h1 0 0 (fun r2 h2 => ∃ b : Int32, r2 = .inl (some (.int b)) ∧ Rl A h2 ∧ g_i h2 (A 22) 9 = k ∧ (k = 0 → g_l h2 (A 39) 0 = b.toInt64))) := by
  obtain ⟨vk, vcn, v0, v1, v2, vp, vl0, vl1, vlr, vsr, vc, tx⟩ := R
  have vk0 := vk
  have vcn0 := vcn
  (refine K_el vk0 ?_; intros hA kc0 kc1 kc2 kc3 kc4 kc5 kc6 kc7 kc8 kc9 kc10 kc11 kc12 kc13 kc14 kc15 kc16 kc17 kc18 kc19 kc20 kc21 kc22 kc23 kc24 kc25 kc26 kc27 kc28 kc29 kc30 kc31 kc32 kc33 kc34 kc35 kc36 kc37 kc38 kc39 kz kt kn3 kn4 kn18 kn21 kn23 kn24 kn25 kn26 kn27 kn29 kn30 kr0_0 kr0_1 kr0_2 kr0_3 kr0_4 kr0_5 kr0_7 kr0_8 kr0_9 kr0_10 kr1_0 kr2_0 kr5_0 kr5_1 kr6_0 kr6_1 kr7_0 kr7_1 kr8_0 kr9_0 kr10_0 kr11_0 kr12_0 kr13_0 kr14_0 kr15_0 kr16_0 kr17_0 kr19_0 kr19_1 kr22_0 kr22_1 kr22_2 kr22_3 kr22_4 kr22_5 kr22_7 kr22_8 kr25_0 kr25_1 kr25_2 kr26_0 kr26_1 kr26_2 kr29_0 kr29_1)
  (refine Cn_el vcn0 ?_; intros ki5_2 ki6_2 ki7_2 ki8_1 ki8_2 ki8_3 ki9_1 ki9_2 ki9_3 ki10_1 ki10_2 ki10_3 ki11_1 ki11_2 ki11_3 ki12_1 ki12_2 ki12_3 ki13_1 ki13_2 ki13_3 ki14_1 ki14_2 ki14_3 ki28_0 ki28_1 ki31_0 ki31_1 ki32_0 ki32_1 ki33_0 ki33_1 ki34_0 ki34_1 ki35_0 ki35_1 ki36_0 ki36_1)
  have hAe : ∀ i j, i < 40 → j < 40 → (A i = A j ↔ i = j) := hA
  by_cases bs : s < 0 ∨ ¬ s < 6
  · have bs2 : (¬ s < 0 ∧ s < 6) = False := nrng bs
    by_cases bf : (¬ f < 0 ∧ f < 4) <;> by_cases bv : (¬ v < -32768 ∧ v < 32768)
    all_goals
      simp only [o291_0, o291_2, o291_3, o291_4, o291_5, o291_6, o291_16, o291_18, o291_19, o291_20, o291_22, o291_23, o59_0, o59_1, o59_4, o59_5, o59_8, o59_9, o59_12, o59_13, o59_16, o59_17, o59_18, o59_19, o59_20, o59_21, o177_0, o177_1, o177_2, o177_5, o177_8, o177_9, o177_12, o177_13, o177_14, o177_17, o177_20, o177_21, o177_24, o177_27, o177_28, o177_31, o177_32, o177_35, o177_38, o177_39, o177_40, o177_41, o177_42, o177_44, o177_45, o177_46, o177_47, o177_48, o177_49, o177_50, o177_51, hx_291_1, hx_291_2, c_X5_checkSlot, c_X8_isSlot, c_X8_isThrown_, c_X5_checkFourth, c_X8_isFourth, c_X5_checkValue, c_X8_isShort, mc_pi, mc_pT, mi_pi, mi_pT, ml_pi, ml_pT, mz_pT, mcs_0, mcs_i, mcs_r, Kn_v, Kn_0, Kn_x, mrf_some, true_and, and_true, or_false, false_or, not_true_eq_false, not_false_eq_true, false_implies, forall_const, if_true, if_false, and_self, Nat.reduceLeDiff, Nat.reduceSub, Nat.reduceAdd, Nat.zero_le, Nat.le_refl, i10, Sum.inl.injEq, Option.some.injEq, Value.int.injEq, exists_eq_left', Nat.reduceLT, i20, kc0, kc22, kr0_9, kz, bs, bs2, bf, bv]
      intro t ht
      first | refine ⟨⟨?_, ?_, ?_, ?_, ?_, ?_, ?_, ?_, ?_, ?_, ?_, ?_⟩, rfl⟩ | refine ⟨?_, ?_, ?_, ?_, ?_, ?_, ?_, ?_, ?_, ?_, ?_, ?_⟩
      · (try simp only [K_pi])
        exact K_pT ht vk
      · (try simp only [Cn_pi_j22 hA, Cn_pT])
        exact vcn
      · (try simp only [Vq0_pi_j22 hA, Vq0_pT])
        exact v0
      · (try simp only [Vq1_pi_j22 hA, Vq1_pT])
        exact v1
      · (try simp only [Vq2_pi_j22 hA, Vq2_pT])
        exact v2
      · (try simp only [Vp_thr hA, Vp_pT])
        exact vp
      · (try simp only [Vl0_pi_j22 hA, Vl0_pT])
        exact vl0
      · (try simp only [Vl1_pi_j22 hA, Vl1_pT])
        exact vl1
      · (try simp only [Vlr_pi_j22 hA, Vlr_pT])
        exact vlr
      · (try simp only [Vsr_pi_j22 hA, Vsr_pT])
        exact vsr
      · (try simp only [Vc_pi_j22 hA, Vc_pT])
        exact vc
      · (try simp only [Tx_pi_j22 hA])
        exact Tx_pT ht tx
  · have s1 : ¬ s < 0 := fun z => bs (Or.inl z)
    have s2 : s < 6 := Classical.byContradiction fun z => bs (Or.inr z)
    have hs := ix_ok s1 s2
    have hs2 := hs
    obtain ⟨⟨j0, j1, j2, j3⟩, d01, d02, d03, d10, d12, d13, d20, d21, d23, d30, d31, d32⟩ := hs2
    obtain ⟨l0, l1, l2, l3⟩ := ix_lt hs
    have vs0 := (vsr _ l0).1
    have vs1 := (vsr _ l1).1
    have vs2 := (vsr _ l2).1
    have vs3 := (vsr _ l3).1
    have bs2 : (¬ s < 0 ∧ s < 6) = True := eq_true ⟨s1, s2⟩
    by_cases bf : f < 0 ∨ ¬ f < 4
    · have bf2 : (¬ f < 0 ∧ f < 4) = False := nrng bf
      by_cases bv : (¬ v < -32768 ∧ v < 32768)
      all_goals
        simp only [o291_0, o291_2, o291_3, o291_4, o291_5, o291_6, o291_16, o291_18, o291_19, o291_20, o291_22, o291_23, o59_0, o59_1, o59_4, o59_5, o59_8, o59_9, o59_12, o59_13, o59_16, o59_17, o59_18, o59_19, o59_20, o59_21, o177_0, o177_1, o177_2, o177_5, o177_8, o177_9, o177_12, o177_13, o177_14, o177_17, o177_20, o177_21, o177_24, o177_27, o177_28, o177_31, o177_32, o177_35, o177_38, o177_39, o177_40, o177_41, o177_42, o177_44, o177_45, o177_46, o177_47, o177_48, o177_49, o177_50, o177_51, hx_291_1, hx_291_2, c_X5_checkSlot, c_X8_isSlot, c_X8_isThrown_, c_X5_checkFourth, c_X8_isFourth, c_X5_checkValue, c_X8_isShort, mc_pi, mc_pT, mi_pi, mi_pT, ml_pi, ml_pT, mz_pT, mcs_0, mcs_i, mcs_r, Kn_v, Kn_0, Kn_x, mrf_some, true_and, and_true, and_false, or_false, false_or, not_true_eq_false, not_false_eq_true, false_implies, forall_const, if_true, if_false, and_self, Nat.reduceLeDiff, Nat.reduceSub, Nat.reduceAdd, Nat.zero_le, Nat.le_refl, i10, Sum.inl.injEq, Option.some.injEq, Value.int.injEq, exists_eq_left', Nat.reduceLT, i20, kc0, kc22, kr0_9, kz, bf, bf2, bv, s1, s2]
        intro t ht
        first | refine ⟨⟨?_, ?_, ?_, ?_, ?_, ?_, ?_, ?_, ?_, ?_, ?_, ?_⟩, rfl⟩ | refine ⟨?_, ?_, ?_, ?_, ?_, ?_, ?_, ?_, ?_, ?_, ?_, ?_⟩
        · (try simp only [K_pi])
          exact K_pT ht vk
        · (try simp only [Cn_pi_j22 hA, Cn_pT])
          exact vcn
        · (try simp only [Vq0_pi_j22 hA, Vq0_pT])
          exact v0
        · (try simp only [Vq1_pi_j22 hA, Vq1_pT])
          exact v1
        · (try simp only [Vq2_pi_j22 hA, Vq2_pT])
          exact v2
        · (try simp only [Vp_thr hA, Vp_pT])
          exact vp
        · (try simp only [Vl0_pi_j22 hA, Vl0_pT])
          exact vl0
        · (try simp only [Vl1_pi_j22 hA, Vl1_pT])
          exact vl1
        · (try simp only [Vlr_pi_j22 hA, Vlr_pT])
          exact vlr
        · (try simp only [Vsr_pi_j22 hA, Vsr_pT])
          exact vsr
        · (try simp only [Vc_pi_j22 hA, Vc_pT])
          exact vc
        · (try simp only [Tx_pi_j22 hA])
          exact Tx_pT ht tx
    · have f1 : ¬ f < 0 := fun z => bf (Or.inl z)
      have f2 : f < 4 := Classical.byContradiction fun z => bf (Or.inr z)
      have bf2 : (¬ f < 0 ∧ f < 4) = True := eq_true ⟨f1, f2⟩
      have hj := ixf_ok s1 s2 f1 f2
      have hv := hj.2.2
      have vsf := (vsr _ (rdy_lt hj)).1
      by_cases bv : v < -32768 ∨ 32767 < v
      · have bv2 := sh_bad bv
        simp only [o291_0, o291_2, o291_3, o291_4, o291_5, o291_6, o291_16, o291_18, o291_19, o291_20, o291_22, o291_23, o59_0, o59_1, o59_4, o59_5, o59_8, o59_9, o59_12, o59_13, o59_16, o59_17, o59_18, o59_19, o59_20, o59_21, o177_0, o177_1, o177_2, o177_5, o177_8, o177_9, o177_12, o177_13, o177_14, o177_17, o177_20, o177_21, o177_24, o177_27, o177_28, o177_31, o177_32, o177_35, o177_38, o177_39, o177_40, o177_41, o177_42, o177_44, o177_45, o177_46, o177_47, o177_48, o177_49, o177_50, o177_51, hx_291_1, hx_291_2, c_X5_checkSlot, c_X8_isSlot, c_X8_isThrown_, c_X5_checkFourth, c_X8_isFourth, c_X5_checkValue, c_X8_isShort, mc_pi, mc_pT, mi_pi, mi_pT, ml_pi, ml_pT, mz_pT, mcs_0, mcs_i, mcs_r, Kn_v, Kn_0, Kn_x, mrf_some, true_and, and_true, and_false, or_false, not_true_eq_false, not_false_eq_true, false_implies, forall_const, if_true, if_false, and_self, Nat.reduceLeDiff, Nat.reduceSub, Nat.reduceAdd, Nat.zero_le, Nat.le_refl, i10, Sum.inl.injEq, Option.some.injEq, Value.int.injEq, exists_eq_left', Nat.reduceLT, i20, kc0, kc22, kr0_9, kz, f1, f2, bv, bv2, s1, s2]
        intro t ht
        first | refine ⟨⟨?_, ?_, ?_, ?_, ?_, ?_, ?_, ?_, ?_, ?_, ?_, ?_⟩, rfl⟩ | refine ⟨?_, ?_, ?_, ?_, ?_, ?_, ?_, ?_, ?_, ?_, ?_, ?_⟩
        · (try simp only [K_pi])
          exact K_pT ht vk
        · (try simp only [Cn_pi_j22 hA, Cn_pT])
          exact vcn
        · (try simp only [Vq0_pi_j22 hA, Vq0_pT])
          exact v0
        · (try simp only [Vq1_pi_j22 hA, Vq1_pT])
          exact v1
        · (try simp only [Vq2_pi_j22 hA, Vq2_pT])
          exact v2
        · (try simp only [Vp_thr hA, Vp_pT])
          exact vp
        · (try simp only [Vl0_pi_j22 hA, Vl0_pT])
          exact vl0
        · (try simp only [Vl1_pi_j22 hA, Vl1_pT])
          exact vl1
        · (try simp only [Vlr_pi_j22 hA, Vlr_pT])
          exact vlr
        · (try simp only [Vsr_pi_j22 hA, Vsr_pT])
          exact vsr
        · (try simp only [Vc_pi_j22 hA, Vc_pT])
          exact vc
        · (try simp only [Tx_pi_j22 hA])
          exact Tx_pT ht tx
      · have v3 : ¬ v < -32768 := fun z => bv (Or.inl z)
        have v4 : ¬ 32767 < v := fun z => bv (Or.inr z)
        obtain ⟨v5, v6⟩ := sh_rng v3 v4
        have bv2 : (¬ v < -32768 ∧ v < 32768) = True := eq_true ⟨v3, v5⟩
        by_cases be : g_i h (A 24) (11 + 4 * s + f).toNatClampNeg = v
        all_goals
          simp only [o291_0, o291_2, o291_3, o291_4, o291_5, o291_6, o291_9, o291_10, o291_13, o291_16, o291_18, o291_19, o291_20, o291_22, o291_23, o291_24, o291_25, o59_0, o59_1, o59_4, o59_5, o59_8, o59_9, o59_12, o59_13, o59_16, o59_17, o59_18, o59_19, o59_20, o59_21, o59_24, o59_27, o59_28, o59_31, o59_32, o59_35, o177_0, o177_1, o177_2, o177_5, o177_8, o177_9, o177_12, o177_13, o177_14, o177_17, o177_20, o177_21, o177_24, o177_27, o177_28, o177_31, o177_32, o177_35, o177_38, o177_39, o177_40, o177_41, o177_42, o177_44, o177_45, o177_46, o177_47, o177_48, o177_49, o177_50, o177_51, o177_54, o177_57, hx_291_1, hx_291_2, c_X5_checkSlot, c_X8_isSlot, c_X8_isThrown_, c_X5_checkFourth, c_X8_isFourth, c_X5_checkValue, c_X8_isShort, c_X5_changeFourth (rw := A 2) (cs := A 4), c_X8_writeShort (sr := A 24), c_X0_done (cs := A 18), c_X8_done (cs := A 30), mc_pi, mc_pl, mc_pT, mn_pi, mn_pl, mn_pT, mi_pi, mi_pl, mi_pT, ml_pi, ml_pl, ml_pT, mr_pi, mr_pl, mr_pT, mz_pi, mz_pl, mz_pT, mcs_0, mcs_i, mcs_r, Kn_v, Kn_0, Kn_x, mrf_some, true_and, and_true, false_and, and_false, or_false, not_true_eq_false, not_false_eq_true, false_implies, implies_true, forall_const, if_true, if_false, and_self, Nat.reduceEqDiff, Nat.reduceLeDiff, Nat.reduceSub, Nat.reduceAdd, Nat.zero_le, Nat.le_refl, i10, i01, Kc_v, Sum.inl.injEq, Option.some.injEq, Value.int.injEq, exists_eq_left', Nat.reduceLT, hAe, i20, kc0, kc2, kc4, kc17, kc18, kc22, kc24, kc30, kc39, kn4, kn18, kn24, kn30, kr0_1, kr0_9, kr2_0, kr17_0, kr22_1, kr22_8, kz, f1, f2, v3, v4, v5, be, hj, hv, vsf, s1, s2, i64_inj]
          first | refine ⟨⟨?_, ?_, ?_, ?_, ?_, ?_, ?_, ?_, ?_, ?_, ?_, ?_⟩, rfl⟩ | refine ⟨?_, ?_, ?_, ?_, ?_, ?_, ?_, ?_, ?_, ?_, ?_, ?_⟩
          · (try simp only [K_pi, K_pl])
            exact vk
          · (try simp only [Cn_pi_j18 hA, Cn_pi_j22 hA, Cn_pi_j30 hA, Cn_pi_j24 hA, Cn_pl])
            exact vcn
          · (try simp only [Vq0_pi_j18 hA, Vq0_pi_j22 hA, Vq0_pi_j30 hA, Vq0_pi_j24 hA, Vq0_pl])
            exact v0
          · (try simp only [Vq1_pi_j18 hA, Vq1_pi_j22 hA, Vq1_pi_j30 hA, Vq1_pi_j24 hA, Vq1_pl])
            exact v1
          · (try simp only [Vq2_pi_j18 hA, Vq2_pi_j22 hA, Vq2_pi_j30 hA, Vq2_pi_j24 hA, Vq2_pl])
            exact v2
          · (try simp only [Vp_pi_j18 hA, Vp_pi_j30 hA, Vp_pi_j24 hA, Vp_thr hA, Vp_pl])
            exact vp
          · (try simp only [Vl0_pi_j18 hA, Vl0_pi_j22 hA, Vl0_pi_j30 hA, Vl0_pi_j24 hA, Vl0_pl])
            exact vl0
          · (try simp only [Vl1_pi_j18 hA, Vl1_pi_j22 hA, Vl1_pi_j30 hA, Vl1_pi_j24 hA, Vl1_pl])
            exact vl1
          · (try simp only [Vlr_pi_j18 hA, Vlr_pi_j22 hA, Vlr_pi_j30 hA, Vlr_pi_j24 hA, Vlr_pl_j39 hA, Vlr_pl_j4 hA])
            exact vlr
          · refine Vsr_1 (i0 := (11 + 4 * s + f).toNatClampNeg) vsr v6 (fun k => ?_) (fun k => ?_) <;> simp only [mi_pi, mi_pl, ml_pi, ml_pl, hAe, Nat.reduceLT, Nat.reduceEqDiff, false_and, true_and, if_false]
          · refine Vc_of (c := 0) vc (by decide) (fun k => ?_) (fun k => ?_) <;> simp only [mi_pi, mi_pl, hAe, Nat.reduceLT, Nat.reduceEqDiff, false_and, true_and, if_false]
          · (try simp only [Tx_pi_j18 hA, Tx_pi_j22 hA, Tx_pi_j30 hA, Tx_pi_j24 hA, Tx_pl])
            exact tx


set_option maxRecDepth 16384
/-! TEXTS of the reference -/
theorem nSB {h : MH} (hz : g_z h ≤ g_t h) : Bd (g_t h) 0 (p_i (p_r (p_N (p_N h 10 0) 103 16) (g_t h) 0 (some (g_t h + 1))) (g_t h) 1 0) ∧ Fr h (p_i (p_r (p_N (p_N h 10 0) 103 16) (g_t h) 0 (some (g_t h + 1))) (g_t h) 1 0) := by
  have n1 : (g_t h = g_t h + 1) = False := eq_false (by omega)
  refine ⟨⟨?_, hz, ?_, ?_, ?_, g_t h + 1, ?_, ?_, ?_, ?_, ?_, ?_⟩, Fr_pi (Fr_pr (Fr_pN (Fr_pN Fr_rfl)) (Nat.le_refl _)) (Nat.le_refl _)⟩
  all_goals simp only [mc_pi, mc_pr, mc_pN, mn_pi, mn_pr, mn_pN, mi_pi, mi_pr, mi_pN, mr_pi, mr_pr, mr_pN, mt_pi, mt_pr, mt_pN, mz_pi, mz_pr, mz_pN, and_false, if_true, if_false, and_self, Nat.reduceEqDiff, Nat.zero_le, n1]
  · omega
  · rfl
  · omega
  · omega
  · exact Or.inl rfl
theorem Rl_z {A : Nat → Nat} {h : MH} (R : Rl A h) : g_z h ≤ g_t h := Nat.le_trans (R.1.2.2.1.1 0 (by decide)) (Nat.le_of_lt (R.1.2.2.1.2 0 (by decide)))
theorem Rl_ne {A : Nat → Nat} {h : MH} {sb : Nat} (R : Rl A h) (hs : g_t h ≤ sb) {i : Nat} (hi : i < 40) : ¬ A i = sb := fun z => by
  have := R.1.2.2.1.2 i hi
  omega
theorem Rl_at {A : Nat → Nat} {h m : MH} {sb : Nat} (R : Rl A h) (f : Fx sb sb h m) (hs : g_t h ≤ sb) {i : Nat} (hi : i < 40) : (∀ j, g_i m (A i) j = g_i h (A i) j) ∧ (∀ j, g_l m (A i) j = g_l h (A i) j) ∧ ∀ j, g_r m (A i) j = g_r h (A i) j := Fx_at R.1 f hi (Rl_ne R hs hi) (Rl_ne R hs hi)
theorem mt_same0 {A : Nat → Nat} {h m : MH} {sb : Nat} (R : Rl A h) (f : Fx sb sb h m) (hs : g_t h ≤ sb) : (mT m (A 27) 0 (A 31) (A 34)) = (cT h (A 5) (A 8) (A 9)) ∧ ∀ j, j < (lyF (cT h (A 5) (A 8) (A 9))).toNatClampNeg → g_l m (A 23) (1 + ceF (cT h (A 5) (A 8) (A 9)) (Int32.ofNat j)).toNatClampNeg = qv0 A h j ∧ vp_in (1 + ceF (cT h (A 5) (A 8) (A 9)) (Int32.ofNat j)) 16 := by
  have i27 := (Rl_at R f hs (i := 27) (by decide)).1
  have iW := (Rl_at R f hs (i := 31) (by decide)).1
  have iR := (Rl_at R f hs (i := 34) (by decide)).1
  have l23 := (Rl_at R f hs (i := 23) (by decide)).2.1
  obtain ⟨l6, le⟩ := qL6_0 _ R.2.2.1.2
  refine ⟨?_, fun j hj => ?_⟩
  · rw [R.2.2.1.1]
    simp only [mT, i27, iW, iR]
  · obtain ⟨x1, x2, x3⟩ := (qX_0 _ R.2.2.1.2 _ (nmem (j := j) (by omega))).resolve_left (fun z => z (by rw [le, n_lt (by omega) (by omega)]; exact hj))
    refine ⟨?_, x3.2.2⟩
    rw [l23]
    exact (R.2.2.2.2.2.2.2.2.1 _ (rdy_lt x3)).symm
theorem mt_half0 {A : Nat → Nat} {h m : MH} {sb d j n : Nat} {Q : MR → MH → Prop} (R : Rl A h) (C : Cs h) (hs : g_t h ≤ sb) (f : Fx sb sb h m) (b : Bd sb n m) (hj : j < (lyF (cT h (A 5) (A 8) (A 9))).toNatClampNeg) (hn : n + tsz (qv0 A h j) ≤ 142) (hQ : ∀ q, Fx sb sb h q → Bd sb (n + tsz (qv0 A h j)) q → Ok 205 10 [.ref (A 22), .int 0, .ref sb, .int (Int32.ofNat (j + 1))] [] q (2 * d + 2) (300 * d + 154) Q) : Ok 205 34 [.ref (A 22), .int 0, .ref sb, .int (Int32.ofNat j)] [.ref sb] m (2 * d + 3) (300 * d + 304) Q := by
  have Rm := Rl_Fn R f hs hs
  have Cm := Cs_Fx C f (Nat.le_trans (Rl_z R) hs) (Nat.le_trans (Rl_z R) hs)
  obtain ⟨hT, hv⟩ := mt_same0 R f hs
  obtain ⟨hv1, hv2⟩ := hv j hj
  have R0 := Rm
  obtain ⟨vk, vcn, v0, v1, v2, vp, vl0, vl1, vlr, vsr, vc, tx⟩ := R0
  have vk0 := vk
  have vcn0 := vcn
  (refine K_el vk0 ?_; intros hA kc0 kc1 kc2 kc3 kc4 kc5 kc6 kc7 kc8 kc9 kc10 kc11 kc12 kc13 kc14 kc15 kc16 kc17 kc18 kc19 kc20 kc21 kc22 kc23 kc24 kc25 kc26 kc27 kc28 kc29 kc30 kc31 kc32 kc33 kc34 kc35 kc36 kc37 kc38 kc39 kz kt kn3 kn4 kn18 kn21 kn23 kn24 kn25 kn26 kn27 kn29 kn30 kr0_0 kr0_1 kr0_2 kr0_3 kr0_4 kr0_5 kr0_7 kr0_8 kr0_9 kr0_10 kr1_0 kr2_0 kr5_0 kr5_1 kr6_0 kr6_1 kr7_0 kr7_1 kr8_0 kr9_0 kr10_0 kr11_0 kr12_0 kr13_0 kr14_0 kr15_0 kr16_0 kr17_0 kr19_0 kr19_1 kr22_0 kr22_1 kr22_2 kr22_3 kr22_4 kr22_5 kr22_7 kr22_8 kr25_0 kr25_1 kr25_2 kr26_0 kr26_1 kr26_2 kr29_0 kr29_1)
  (refine Cn_el vcn0 ?_; intros ki5_2 ki6_2 ki7_2 ki8_1 ki8_2 ki8_3 ki9_1 ki9_2 ki9_3 ki10_1 ki10_2 ki10_3 ki11_1 ki11_2 ki11_3 ki12_1 ki12_2 ki12_3 ki13_1 ki13_2 ki13_3 ki14_1 ki14_2 ki14_3 ki28_0 ki28_1 ki31_0 ki31_1 ki32_0 ki32_1 ki33_0 ki33_1 ki34_0 ki34_1 ki35_0 ki35_1 ki36_0 ki36_1)
  have hAe : ∀ i j, i < 40 → j < 40 → (A i = A j ↔ i = j) := hA
  have l6 := (qL6_0 _ R.2.2.1.2).1
  have c5 : Int32.ofNat j + 1 = Int32.ofNat (j + 1) := n_add j 1
  have c6 : (1 ≤ 2 * d + 3) = True := eq_true (by omega)
  have c7 : (150 ≤ 300 * d + 304) = True := eq_true (by omega)
  have c8 : 300 * d + 304 - 150 = 300 * d + 154 := by omega
  have c9 : 2 * d + 3 - 1 = 2 * d + 2 := by omega
  simp only [o205_34, o205_35, o205_38, o205_39, o205_40, o205_41, o205_44, o205_45, c_X8_cellOf (x2 := A 25) (x3 := A 26) (a := A 27) (w := A 31) (r := A 34), mcs_0, mcs_r, Kn_v, mrf_some, true_and, and_self, Nat.reduceLeDiff, Nat.reduceAdd, Nat.zero_le, cl0, kc22, kc23, kc25, kc26, kc27, kc31, kc34, kn23, kn25, kn26, kn27, kr22_0, kr22_2, kr22_3, kr22_4, kr25_0, kr26_0, ki34_0, hT, hv1, hv2, c6, c7, c8, c9, vq3, cl0, b.1]
  refine J_apL4 b (Cs_Dt Cm).1 (Cs_Dt Cm).2 hn (fun q f2 b2 => ?_)
  simp only [o205_48, o205_49, o205_52, Kn_v, c5]
  exact hQ q (Fx_tr f f2) b2

theorem mt_loop0 {A : Nat → Nat} {h : MH} {sb : Nat} {Q : MR → MH → Prop} (R : Rl A h) (C : Cs h) (hs : g_t h ≤ sb) (hQ : ∀ q s, Fx sb sb h q → St s (tq (qv0 A h) (lyF (cT h (A 5) (A 8) (A 9))).toNatClampNeg) q → Q (.inl (some (.ref s))) q) : ∀ (d j : Nat) (m : MH), j + d = (lyF (cT h (A 5) (A 8) (A 9))).toNatClampNeg → Fx sb sb h m → Bd sb (tq (qv0 A h) j) m → Ok 205 10 [.ref (A 22), .int 0, .ref sb, .int (Int32.ofNat j)] [] m (2 * d + 2) (300 * d + 154) Q
  | 0, j, m, hj, f, b => by
    have Rm := Rl_Fn R f hs hs
    obtain ⟨hT, -⟩ := mt_same0 R f hs
    obtain ⟨l6, le⟩ := qL6_0 _ R.2.2.1.2
    have hj2 : j = (lyF (cT h (A 5) (A 8) (A 9))).toNatClampNeg := by omega
    rw [← hj2] at le hQ
    have R0 := Rm
    obtain ⟨vk, vcn, v0, v1, v2, vp, vl0, vl1, vlr, vsr, vc, tx⟩ := R0
    have vk0 := vk
    have vcn0 := vcn
    (refine K_el vk0 ?_; intros hA kc0 kc1 kc2 kc3 kc4 kc5 kc6 kc7 kc8 kc9 kc10 kc11 kc12 kc13 kc14 kc15 kc16 kc17 kc18 kc19 kc20 kc21 kc22 kc23 kc24 kc25 kc26 kc27 kc28 kc29 kc30 kc31 kc32 kc33 kc34 kc35 kc36 kc37 kc38 kc39 kz kt kn3 kn4 kn18 kn21 kn23 kn24 kn25 kn26 kn27 kn29 kn30 kr0_0 kr0_1 kr0_2 kr0_3 kr0_4 kr0_5 kr0_7 kr0_8 kr0_9 kr0_10 kr1_0 kr2_0 kr5_0 kr5_1 kr6_0 kr6_1 kr7_0 kr7_1 kr8_0 kr9_0 kr10_0 kr11_0 kr12_0 kr13_0 kr14_0 kr15_0 kr16_0 kr17_0 kr19_0 kr19_1 kr22_0 kr22_1 kr22_2 kr22_3 kr22_4 kr22_5 kr22_7 kr22_8 kr25_0 kr25_1 kr25_2 kr26_0 kr26_1 kr26_2 kr29_0 kr29_1)
    (refine Cn_el vcn0 ?_; intros ki5_2 ki6_2 ki7_2 ki8_1 ki8_2 ki8_3 ki9_1 ki9_2 ki9_3 ki10_1 ki10_2 ki10_3 ki11_1 ki11_2 ki11_3 ki12_1 ki12_2 ki12_3 ki13_1 ki13_2 ki13_3 ki14_1 ki14_2 ki14_3 ki28_0 ki28_1 ki31_0 ki31_1 ki32_0 ki32_1 ki33_0 ki33_1 ki34_0 ki34_1 ki35_0 ki35_1 ki36_0 ki36_1)
    have hAe : ∀ i j, i < 40 → j < 40 → (A i = A j ↔ i = j) := hA
    rw [o205_10]
    simp only [o205_11, o205_12, o205_13, o205_16, o205_55, o205_56, c_X8_liesOf (x2 := A 25) (x3 := A 26) (a := A 27) (w := A 31) (r := A 34), mcs_0, mcs_i, Kn_v, true_and, and_true, not_true_eq_false, not_false_eq_true, false_implies, forall_const, Nat.reduceLeDiff, Nat.reduceAdd, Nat.zero_le, Nat.le_refl, lt_le, cl0, kc22, kc25, kc26, kc27, kc31, kc34, kn25, kn26, kn27, kr22_2, kr22_3, kr22_4, kr25_0, kr26_0, hT, le, n_irr, vq3, cl0, b.1]
    refine J_str b (fun q s f2 t hs2 => ?_)
    simp only [o205_59, Kn_v]
    exact hQ q s (Fx_tr f (Fx_Fr f2)) t
  | d + 1, j, m, hj, f, b => by
    have lp := mt_loop0 R C hs hQ d (j + 1)
    have Rm := Rl_Fn R f hs hs
    have Cm := Cs_Fx C f (Nat.le_trans (Rl_z R) hs) (Nat.le_trans (Rl_z R) hs)
    obtain ⟨hT, -⟩ := mt_same0 R f hs
    obtain ⟨l6, le⟩ := qL6_0 _ R.2.2.1.2
    have R0 := Rm
    obtain ⟨vk, vcn, v0, v1, v2, vp, vl0, vl1, vlr, vsr, vc, tx⟩ := R0
    have vk0 := vk
    have vcn0 := vcn
    (refine K_el vk0 ?_; intros hA kc0 kc1 kc2 kc3 kc4 kc5 kc6 kc7 kc8 kc9 kc10 kc11 kc12 kc13 kc14 kc15 kc16 kc17 kc18 kc19 kc20 kc21 kc22 kc23 kc24 kc25 kc26 kc27 kc28 kc29 kc30 kc31 kc32 kc33 kc34 kc35 kc36 kc37 kc38 kc39 kz kt kn3 kn4 kn18 kn21 kn23 kn24 kn25 kn26 kn27 kn29 kn30 kr0_0 kr0_1 kr0_2 kr0_3 kr0_4 kr0_5 kr0_7 kr0_8 kr0_9 kr0_10 kr1_0 kr2_0 kr5_0 kr5_1 kr6_0 kr6_1 kr7_0 kr7_1 kr8_0 kr9_0 kr10_0 kr11_0 kr12_0 kr13_0 kr14_0 kr15_0 kr16_0 kr17_0 kr19_0 kr19_1 kr22_0 kr22_1 kr22_2 kr22_3 kr22_4 kr22_5 kr22_7 kr22_8 kr25_0 kr25_1 kr25_2 kr26_0 kr26_1 kr26_2 kr29_0 kr29_1)
    (refine Cn_el vcn0 ?_; intros ki5_2 ki6_2 ki7_2 ki8_1 ki8_2 ki8_3 ki9_1 ki9_2 ki9_3 ki10_1 ki10_2 ki10_3 ki11_1 ki11_2 ki11_3 ki12_1 ki12_2 ki12_3 ki13_1 ki13_2 ki13_3 ki14_1 ki14_2 ki14_3 ki28_0 ki28_1 ki31_0 ki31_1 ki32_0 ki32_1 ki33_0 ki33_1 ki34_0 ki34_1 ki35_0 ki35_1 ki36_0 ki36_1)
    have hAe : ∀ i j, i < 40 → j < 40 → (A i = A j ↔ i = j) := hA
    have c1 : (Int32.ofNat j < lyF (cT h (A 5) (A 8) (A 9))) = True := by rw [le, n_lt (by omega) (by omega)]; exact eq_true (by omega)
    have c6 : (1 ≤ 2 * (d + 1) + 2) = True := eq_true (by omega)
    have c7 : (150 ≤ 300 * (d + 1) + 154) = True := eq_true (by omega)
    have c8 : 300 * (d + 1) + 154 - 150 = 300 * d + 304 := by omega
    have c9 : 2 * (d + 1) + 2 - 1 = 2 * d + 3 := by omega
    have t6 := tq_le (qv0 A h) 20 (fun j => tsz_le _) (j + 1)
    unfold tq at t6
    have sp : sep (tq (qv0 A h) j) = if j = 0 then 0 else 1 := by unfold sep; simp only [tq_z]
    rw [sp] at t6
    rw [o205_10]
    by_cases h0 : j = 0
    · have c2 : (Int32.ofNat j = 0) = True := by rw [h0]; decide
      rw [if_pos h0, Nat.add_zero] at t6
      simp only [o205_11, o205_12, o205_13, o205_16, o205_19, o205_20, o205_21, o205_24, o205_26, o205_29, o205_31, c_X8_liesOf (x2 := A 25) (x3 := A 26) (a := A 27) (w := A 31) (r := A 34), mcs_0, mcs_i, Kn_v, true_and, not_true_eq_false, not_false_eq_true, false_implies, forall_const, Nat.reduceLeDiff, Nat.reduceAdd, Nat.zero_le, lt_le, cl0, kc22, kc25, kc26, kc27, kc31, kc34, kn25, kn26, kn27, kr22_2, kr22_3, kr22_4, kr25_0, kr26_0, hT, c1, c2, c6, c7, c8, c9, vq3, cl0, b.1]
      refine J_apS4 b (Cs_St Cm).1 (by decide) (by omega) (fun q f2 b2 => ?_)
      simp only [Kn_v]
      refine mt_half0 R C hs (Fx_tr f f2) b2 (by omega) (by omega) (fun q2 f3 b3 => lp q2 (by omega) f3 ?_)
      unfold tq
      rw [sp, if_pos h0]
      exact b3
    · have c2 : (Int32.ofNat j = 0) = False := eq_false (fun z => by
        have z2 := congrArg Int32.toNatClampNeg z
        rw [n_cl (by omega)] at z2
        exact h0 z2)
      rw [if_neg h0] at t6
      simp only [o205_11, o205_12, o205_13, o205_16, o205_19, o205_20, o205_21, o205_24, o205_26, o205_29, o205_31, c_X8_liesOf (x2 := A 25) (x3 := A 26) (a := A 27) (w := A 31) (r := A 34), mcs_0, mcs_i, Kn_v, true_and, and_true, not_true_eq_false, not_false_eq_true, false_implies, forall_const, Nat.reduceLeDiff, Nat.reduceAdd, Nat.zero_le, lt_le, cl0, kc22, kc25, kc26, kc27, kc31, kc34, kn25, kn26, kn27, kr22_2, kr22_3, kr22_4, kr25_0, kr26_0, hT, c1, c2, c6, c7, c8, c9, vq3, cl0, b.1]
      refine J_apS4 b (Cs_St Cm).2 (by decide) (by omega) (fun q f2 b2 => ?_)
      simp only [Kn_v]
      refine mt_half0 R C hs (Fx_tr f f2) b2 (by omega) (by omega) (fun q2 f3 b3 => lp q2 (by omega) f3 ?_)
      unfold tq
      rw [sp, if_neg h0]
      exact b3

theorem m_textOf0 {A : Nat → Nat} {h : MH} {Q : MR → MH → Prop} (R : Rl A h) (C : Cs h) (hQ : ∀ m s sb, g_t h ≤ sb → Fx sb sb h m → St s (tq (qv0 A h) (lyF (cT h (A 5) (A 8) (A 9))).toNatClampNeg) m → Q (.inl (some (.ref s))) m) : Ok 205 0 [.ref (A 22), .int 0, mk0, mk0] [] h 16 1974 Q := by
  obtain ⟨b, f⟩ := nSB (Rl_z R)
  have l6 := (qL6_0 _ R.2.2.1.2).1
  have lp := mt_loop0 (sb := g_t h) (Q := Q) R C (Nat.le_refl _) (fun q s f2 t => hQ q s (g_t h) (Nat.le_refl _) f2 t) (lyF (cT h (A 5) (A 8) (A 9))).toNatClampNeg 0 _ (by omega) (Fx_Fr f) b
  have n3 := Rl_z R
  simp only [o205_0, o205_3, o205_4, o205_7, o205_8, o205_9, J_init, mc_pN, mt_pN, mz_pN, mcs_0, mcs_r, Kn_0, true_and, if_true, Nat.reduceLeDiff, Nat.reduceSub, Nat.reduceAdd, n3, Nat.lt_succ_self]
  exact Ok_le lp _ _ (by omega) (by omega)

theorem mt_same1 {A : Nat → Nat} {h m : MH} {sb : Nat} (R : Rl A h) (f : Fx sb sb h m) (hs : g_t h ≤ sb) : (mT m (A 27) 1 (A 32) (A 35)) = (cT h (A 6) (A 10) (A 11)) ∧ ∀ j, j < (lyF (cT h (A 6) (A 10) (A 11))).toNatClampNeg → g_l m (A 23) (6 + ceF (cT h (A 6) (A 10) (A 11)) (Int32.ofNat j)).toNatClampNeg = qv1 A h j ∧ vp_in (6 + ceF (cT h (A 6) (A 10) (A 11)) (Int32.ofNat j)) 16 := by
  have i27 := (Rl_at R f hs (i := 27) (by decide)).1
  have iW := (Rl_at R f hs (i := 32) (by decide)).1
  have iR := (Rl_at R f hs (i := 35) (by decide)).1
  have l23 := (Rl_at R f hs (i := 23) (by decide)).2.1
  obtain ⟨l6, le⟩ := qL6_1 _ R.2.2.2.1.2
  refine ⟨?_, fun j hj => ?_⟩
  · rw [R.2.2.2.1.1]
    simp only [mT, i27, iW, iR]
  · obtain ⟨x1, x2, x3⟩ := (qX_1 _ R.2.2.2.1.2 _ (nmem (j := j) (by omega))).resolve_left (fun z => z (by rw [le, n_lt (by omega) (by omega)]; exact hj))
    refine ⟨?_, x3.2.2⟩
    rw [l23]
    exact (R.2.2.2.2.2.2.2.2.1 _ (rdy_lt x3)).symm
theorem mt_half1 {A : Nat → Nat} {h m : MH} {sb d j n : Nat} {Q : MR → MH → Prop} (R : Rl A h) (C : Cs h) (hs : g_t h ≤ sb) (f : Fx sb sb h m) (b : Bd sb n m) (hj : j < (lyF (cT h (A 6) (A 10) (A 11))).toNatClampNeg) (hn : n + tsz (qv1 A h j) ≤ 142) (hQ : ∀ q, Fx sb sb h q → Bd sb (n + tsz (qv1 A h j)) q → Ok 205 10 [.ref (A 22), .int 1, .ref sb, .int (Int32.ofNat (j + 1))] [] q (2 * d + 2) (300 * d + 154) Q) : Ok 205 34 [.ref (A 22), .int 1, .ref sb, .int (Int32.ofNat j)] [.ref sb] m (2 * d + 3) (300 * d + 304) Q := by
  have Rm := Rl_Fn R f hs hs
  have Cm := Cs_Fx C f (Nat.le_trans (Rl_z R) hs) (Nat.le_trans (Rl_z R) hs)
  obtain ⟨hT, hv⟩ := mt_same1 R f hs
  obtain ⟨hv1, hv2⟩ := hv j hj
  have R0 := Rm
  obtain ⟨vk, vcn, v0, v1, v2, vp, vl0, vl1, vlr, vsr, vc, tx⟩ := R0
  have vk0 := vk
  have vcn0 := vcn
  (refine K_el vk0 ?_; intros hA kc0 kc1 kc2 kc3 kc4 kc5 kc6 kc7 kc8 kc9 kc10 kc11 kc12 kc13 kc14 kc15 kc16 kc17 kc18 kc19 kc20 kc21 kc22 kc23 kc24 kc25 kc26 kc27 kc28 kc29 kc30 kc31 kc32 kc33 kc34 kc35 kc36 kc37 kc38 kc39 kz kt kn3 kn4 kn18 kn21 kn23 kn24 kn25 kn26 kn27 kn29 kn30 kr0_0 kr0_1 kr0_2 kr0_3 kr0_4 kr0_5 kr0_7 kr0_8 kr0_9 kr0_10 kr1_0 kr2_0 kr5_0 kr5_1 kr6_0 kr6_1 kr7_0 kr7_1 kr8_0 kr9_0 kr10_0 kr11_0 kr12_0 kr13_0 kr14_0 kr15_0 kr16_0 kr17_0 kr19_0 kr19_1 kr22_0 kr22_1 kr22_2 kr22_3 kr22_4 kr22_5 kr22_7 kr22_8 kr25_0 kr25_1 kr25_2 kr26_0 kr26_1 kr26_2 kr29_0 kr29_1)
  (refine Cn_el vcn0 ?_; intros ki5_2 ki6_2 ki7_2 ki8_1 ki8_2 ki8_3 ki9_1 ki9_2 ki9_3 ki10_1 ki10_2 ki10_3 ki11_1 ki11_2 ki11_3 ki12_1 ki12_2 ki12_3 ki13_1 ki13_2 ki13_3 ki14_1 ki14_2 ki14_3 ki28_0 ki28_1 ki31_0 ki31_1 ki32_0 ki32_1 ki33_0 ki33_1 ki34_0 ki34_1 ki35_0 ki35_1 ki36_0 ki36_1)
  have hAe : ∀ i j, i < 40 → j < 40 → (A i = A j ↔ i = j) := hA
  have l6 := (qL6_1 _ R.2.2.2.1.2).1
  have c5 : Int32.ofNat j + 1 = Int32.ofNat (j + 1) := n_add j 1
  have c6 : (1 ≤ 2 * d + 3) = True := eq_true (by omega)
  have c7 : (150 ≤ 300 * d + 304) = True := eq_true (by omega)
  have c8 : 300 * d + 304 - 150 = 300 * d + 154 := by omega
  have c9 : 2 * d + 3 - 1 = 2 * d + 2 := by omega
  simp only [o205_34, o205_35, o205_38, o205_39, o205_40, o205_41, o205_44, o205_45, c_X8_cellOf (x2 := A 25) (x3 := A 26) (a := A 27) (w := A 32) (r := A 35), mcs_0, mcs_r, Kn_v, mrf_some, true_and, and_self, Nat.reduceLeDiff, Nat.reduceAdd, Nat.zero_le, cl1, kc22, kc23, kc25, kc26, kc27, kc32, kc35, kn23, kn25, kn26, kn27, kr22_0, kr22_2, kr22_3, kr22_4, kr25_1, kr26_1, ki35_0, hT, hv1, hv2, c6, c7, c8, c9, vq3, cl1, b.1]
  refine J_apL4 b (Cs_Dt Cm).1 (Cs_Dt Cm).2 hn (fun q f2 b2 => ?_)
  simp only [o205_48, o205_49, o205_52, Kn_v, c5]
  exact hQ q (Fx_tr f f2) b2

theorem mt_loop1 {A : Nat → Nat} {h : MH} {sb : Nat} {Q : MR → MH → Prop} (R : Rl A h) (C : Cs h) (hs : g_t h ≤ sb) (hQ : ∀ q s, Fx sb sb h q → St s (tq (qv1 A h) (lyF (cT h (A 6) (A 10) (A 11))).toNatClampNeg) q → Q (.inl (some (.ref s))) q) : ∀ (d j : Nat) (m : MH), j + d = (lyF (cT h (A 6) (A 10) (A 11))).toNatClampNeg → Fx sb sb h m → Bd sb (tq (qv1 A h) j) m → Ok 205 10 [.ref (A 22), .int 1, .ref sb, .int (Int32.ofNat j)] [] m (2 * d + 2) (300 * d + 154) Q
  | 0, j, m, hj, f, b => by
    have Rm := Rl_Fn R f hs hs
    obtain ⟨hT, -⟩ := mt_same1 R f hs
    obtain ⟨l6, le⟩ := qL6_1 _ R.2.2.2.1.2
    have hj2 : j = (lyF (cT h (A 6) (A 10) (A 11))).toNatClampNeg := by omega
    rw [← hj2] at le hQ
    have R0 := Rm
    obtain ⟨vk, vcn, v0, v1, v2, vp, vl0, vl1, vlr, vsr, vc, tx⟩ := R0
    have vk0 := vk
    have vcn0 := vcn
    (refine K_el vk0 ?_; intros hA kc0 kc1 kc2 kc3 kc4 kc5 kc6 kc7 kc8 kc9 kc10 kc11 kc12 kc13 kc14 kc15 kc16 kc17 kc18 kc19 kc20 kc21 kc22 kc23 kc24 kc25 kc26 kc27 kc28 kc29 kc30 kc31 kc32 kc33 kc34 kc35 kc36 kc37 kc38 kc39 kz kt kn3 kn4 kn18 kn21 kn23 kn24 kn25 kn26 kn27 kn29 kn30 kr0_0 kr0_1 kr0_2 kr0_3 kr0_4 kr0_5 kr0_7 kr0_8 kr0_9 kr0_10 kr1_0 kr2_0 kr5_0 kr5_1 kr6_0 kr6_1 kr7_0 kr7_1 kr8_0 kr9_0 kr10_0 kr11_0 kr12_0 kr13_0 kr14_0 kr15_0 kr16_0 kr17_0 kr19_0 kr19_1 kr22_0 kr22_1 kr22_2 kr22_3 kr22_4 kr22_5 kr22_7 kr22_8 kr25_0 kr25_1 kr25_2 kr26_0 kr26_1 kr26_2 kr29_0 kr29_1)
    (refine Cn_el vcn0 ?_; intros ki5_2 ki6_2 ki7_2 ki8_1 ki8_2 ki8_3 ki9_1 ki9_2 ki9_3 ki10_1 ki10_2 ki10_3 ki11_1 ki11_2 ki11_3 ki12_1 ki12_2 ki12_3 ki13_1 ki13_2 ki13_3 ki14_1 ki14_2 ki14_3 ki28_0 ki28_1 ki31_0 ki31_1 ki32_0 ki32_1 ki33_0 ki33_1 ki34_0 ki34_1 ki35_0 ki35_1 ki36_0 ki36_1)
    have hAe : ∀ i j, i < 40 → j < 40 → (A i = A j ↔ i = j) := hA
    rw [o205_10]
    simp only [o205_11, o205_12, o205_13, o205_16, o205_55, o205_56, c_X8_liesOf (x2 := A 25) (x3 := A 26) (a := A 27) (w := A 32) (r := A 35), mcs_0, mcs_i, Kn_v, true_and, and_true, not_true_eq_false, not_false_eq_true, false_implies, forall_const, Nat.reduceLeDiff, Nat.reduceAdd, Nat.zero_le, Nat.le_refl, lt_le, cl1, kc22, kc25, kc26, kc27, kc32, kc35, kn25, kn26, kn27, kr22_2, kr22_3, kr22_4, kr25_1, kr26_1, hT, le, n_irr, vq3, cl1, b.1]
    refine J_str b (fun q s f2 t hs2 => ?_)
    simp only [o205_59, Kn_v]
    exact hQ q s (Fx_tr f (Fx_Fr f2)) t
  | d + 1, j, m, hj, f, b => by
    have lp := mt_loop1 R C hs hQ d (j + 1)
    have Rm := Rl_Fn R f hs hs
    have Cm := Cs_Fx C f (Nat.le_trans (Rl_z R) hs) (Nat.le_trans (Rl_z R) hs)
    obtain ⟨hT, -⟩ := mt_same1 R f hs
    obtain ⟨l6, le⟩ := qL6_1 _ R.2.2.2.1.2
    have R0 := Rm
    obtain ⟨vk, vcn, v0, v1, v2, vp, vl0, vl1, vlr, vsr, vc, tx⟩ := R0
    have vk0 := vk
    have vcn0 := vcn
    (refine K_el vk0 ?_; intros hA kc0 kc1 kc2 kc3 kc4 kc5 kc6 kc7 kc8 kc9 kc10 kc11 kc12 kc13 kc14 kc15 kc16 kc17 kc18 kc19 kc20 kc21 kc22 kc23 kc24 kc25 kc26 kc27 kc28 kc29 kc30 kc31 kc32 kc33 kc34 kc35 kc36 kc37 kc38 kc39 kz kt kn3 kn4 kn18 kn21 kn23 kn24 kn25 kn26 kn27 kn29 kn30 kr0_0 kr0_1 kr0_2 kr0_3 kr0_4 kr0_5 kr0_7 kr0_8 kr0_9 kr0_10 kr1_0 kr2_0 kr5_0 kr5_1 kr6_0 kr6_1 kr7_0 kr7_1 kr8_0 kr9_0 kr10_0 kr11_0 kr12_0 kr13_0 kr14_0 kr15_0 kr16_0 kr17_0 kr19_0 kr19_1 kr22_0 kr22_1 kr22_2 kr22_3 kr22_4 kr22_5 kr22_7 kr22_8 kr25_0 kr25_1 kr25_2 kr26_0 kr26_1 kr26_2 kr29_0 kr29_1)
    (refine Cn_el vcn0 ?_; intros ki5_2 ki6_2 ki7_2 ki8_1 ki8_2 ki8_3 ki9_1 ki9_2 ki9_3 ki10_1 ki10_2 ki10_3 ki11_1 ki11_2 ki11_3 ki12_1 ki12_2 ki12_3 ki13_1 ki13_2 ki13_3 ki14_1 ki14_2 ki14_3 ki28_0 ki28_1 ki31_0 ki31_1 ki32_0 ki32_1 ki33_0 ki33_1 ki34_0 ki34_1 ki35_0 ki35_1 ki36_0 ki36_1)
    have hAe : ∀ i j, i < 40 → j < 40 → (A i = A j ↔ i = j) := hA
    have c1 : (Int32.ofNat j < lyF (cT h (A 6) (A 10) (A 11))) = True := by rw [le, n_lt (by omega) (by omega)]; exact eq_true (by omega)
    have c6 : (1 ≤ 2 * (d + 1) + 2) = True := eq_true (by omega)
    have c7 : (150 ≤ 300 * (d + 1) + 154) = True := eq_true (by omega)
    have c8 : 300 * (d + 1) + 154 - 150 = 300 * d + 304 := by omega
    have c9 : 2 * (d + 1) + 2 - 1 = 2 * d + 3 := by omega
    have t6 := tq_le (qv1 A h) 20 (fun j => tsz_le _) (j + 1)
    unfold tq at t6
    have sp : sep (tq (qv1 A h) j) = if j = 0 then 0 else 1 := by unfold sep; simp only [tq_z]
    rw [sp] at t6
    rw [o205_10]
    by_cases h0 : j = 0
    · have c2 : (Int32.ofNat j = 0) = True := by rw [h0]; decide
      rw [if_pos h0, Nat.add_zero] at t6
      simp only [o205_11, o205_12, o205_13, o205_16, o205_19, o205_20, o205_21, o205_24, o205_26, o205_29, o205_31, c_X8_liesOf (x2 := A 25) (x3 := A 26) (a := A 27) (w := A 32) (r := A 35), mcs_0, mcs_i, Kn_v, true_and, not_true_eq_false, not_false_eq_true, false_implies, forall_const, Nat.reduceLeDiff, Nat.reduceAdd, Nat.zero_le, lt_le, cl1, kc22, kc25, kc26, kc27, kc32, kc35, kn25, kn26, kn27, kr22_2, kr22_3, kr22_4, kr25_1, kr26_1, hT, c1, c2, c6, c7, c8, c9, vq3, cl1, b.1]
      refine J_apS4 b (Cs_St Cm).1 (by decide) (by omega) (fun q f2 b2 => ?_)
      simp only [Kn_v]
      refine mt_half1 R C hs (Fx_tr f f2) b2 (by omega) (by omega) (fun q2 f3 b3 => lp q2 (by omega) f3 ?_)
      unfold tq
      rw [sp, if_pos h0]
      exact b3
    · have c2 : (Int32.ofNat j = 0) = False := eq_false (fun z => by
        have z2 := congrArg Int32.toNatClampNeg z
        rw [n_cl (by omega)] at z2
        exact h0 z2)
      rw [if_neg h0] at t6
      simp only [o205_11, o205_12, o205_13, o205_16, o205_19, o205_20, o205_21, o205_24, o205_26, o205_29, o205_31, c_X8_liesOf (x2 := A 25) (x3 := A 26) (a := A 27) (w := A 32) (r := A 35), mcs_0, mcs_i, Kn_v, true_and, and_true, not_true_eq_false, not_false_eq_true, false_implies, forall_const, Nat.reduceLeDiff, Nat.reduceAdd, Nat.zero_le, lt_le, cl1, kc22, kc25, kc26, kc27, kc32, kc35, kn25, kn26, kn27, kr22_2, kr22_3, kr22_4, kr25_1, kr26_1, hT, c1, c2, c6, c7, c8, c9, vq3, cl1, b.1]
      refine J_apS4 b (Cs_St Cm).2 (by decide) (by omega) (fun q f2 b2 => ?_)
      simp only [Kn_v]
      refine mt_half1 R C hs (Fx_tr f f2) b2 (by omega) (by omega) (fun q2 f3 b3 => lp q2 (by omega) f3 ?_)
      unfold tq
      rw [sp, if_neg h0]
      exact b3

theorem m_textOf1 {A : Nat → Nat} {h : MH} {Q : MR → MH → Prop} (R : Rl A h) (C : Cs h) (hQ : ∀ m s sb, g_t h ≤ sb → Fx sb sb h m → St s (tq (qv1 A h) (lyF (cT h (A 6) (A 10) (A 11))).toNatClampNeg) m → Q (.inl (some (.ref s))) m) : Ok 205 0 [.ref (A 22), .int 1, mk0, mk0] [] h 16 1974 Q := by
  obtain ⟨b, f⟩ := nSB (Rl_z R)
  have l6 := (qL6_1 _ R.2.2.2.1.2).1
  have lp := mt_loop1 (sb := g_t h) (Q := Q) R C (Nat.le_refl _) (fun q s f2 t => hQ q s (g_t h) (Nat.le_refl _) f2 t) (lyF (cT h (A 6) (A 10) (A 11))).toNatClampNeg 0 _ (by omega) (Fx_Fr f) b
  have n3 := Rl_z R
  simp only [o205_0, o205_3, o205_4, o205_7, o205_8, o205_9, J_init, mc_pN, mt_pN, mz_pN, mcs_0, mcs_r, Kn_0, true_and, if_true, Nat.reduceLeDiff, Nat.reduceSub, Nat.reduceAdd, n3, Nat.lt_succ_self]
  exact Ok_le lp _ _ (by omega) (by omega)

theorem mt_same2 {A : Nat → Nat} {h m : MH} {sb : Nat} (R : Rl A h) (f : Fx sb sb h m) (hs : g_t h ≤ sb) : (mT m (A 27) 2 (A 33) (A 36)) = (cT h (A 7) (A 12) (A 13)) ∧ ∀ j, j < (lyF (cT h (A 7) (A 12) (A 13))).toNatClampNeg → g_l m (A 23) (9 + ceF (cT h (A 7) (A 12) (A 13)) (Int32.ofNat j)).toNatClampNeg = qv2 A h j ∧ vp_in (9 + ceF (cT h (A 7) (A 12) (A 13)) (Int32.ofNat j)) 16 := by
  have i27 := (Rl_at R f hs (i := 27) (by decide)).1
  have iW := (Rl_at R f hs (i := 33) (by decide)).1
  have iR := (Rl_at R f hs (i := 36) (by decide)).1
  have l23 := (Rl_at R f hs (i := 23) (by decide)).2.1
  obtain ⟨l6, le⟩ := qL6_2 _ R.2.2.2.2.1.2
  refine ⟨?_, fun j hj => ?_⟩
  · rw [R.2.2.2.2.1.1]
    simp only [mT, i27, iW, iR]
  · obtain ⟨x1, x2, x3⟩ := (qX_2 _ R.2.2.2.2.1.2 _ (nmem (j := j) (by omega))).resolve_left (fun z => z (by rw [le, n_lt (by omega) (by omega)]; exact hj))
    refine ⟨?_, x3.2.2⟩
    rw [l23]
    exact (R.2.2.2.2.2.2.2.2.1 _ (rdy_lt x3)).symm
theorem mt_half2 {A : Nat → Nat} {h m : MH} {sb d j n : Nat} {Q : MR → MH → Prop} (R : Rl A h) (C : Cs h) (hs : g_t h ≤ sb) (f : Fx sb sb h m) (b : Bd sb n m) (hj : j < (lyF (cT h (A 7) (A 12) (A 13))).toNatClampNeg) (hn : n + tsz (qv2 A h j) ≤ 142) (hQ : ∀ q, Fx sb sb h q → Bd sb (n + tsz (qv2 A h j)) q → Ok 205 10 [.ref (A 22), .int 2, .ref sb, .int (Int32.ofNat (j + 1))] [] q (2 * d + 2) (300 * d + 154) Q) : Ok 205 34 [.ref (A 22), .int 2, .ref sb, .int (Int32.ofNat j)] [.ref sb] m (2 * d + 3) (300 * d + 304) Q := by
  have Rm := Rl_Fn R f hs hs
  have Cm := Cs_Fx C f (Nat.le_trans (Rl_z R) hs) (Nat.le_trans (Rl_z R) hs)
  obtain ⟨hT, hv⟩ := mt_same2 R f hs
  obtain ⟨hv1, hv2⟩ := hv j hj
  have R0 := Rm
  obtain ⟨vk, vcn, v0, v1, v2, vp, vl0, vl1, vlr, vsr, vc, tx⟩ := R0
  have vk0 := vk
  have vcn0 := vcn
  (refine K_el vk0 ?_; intros hA kc0 kc1 kc2 kc3 kc4 kc5 kc6 kc7 kc8 kc9 kc10 kc11 kc12 kc13 kc14 kc15 kc16 kc17 kc18 kc19 kc20 kc21 kc22 kc23 kc24 kc25 kc26 kc27 kc28 kc29 kc30 kc31 kc32 kc33 kc34 kc35 kc36 kc37 kc38 kc39 kz kt kn3 kn4 kn18 kn21 kn23 kn24 kn25 kn26 kn27 kn29 kn30 kr0_0 kr0_1 kr0_2 kr0_3 kr0_4 kr0_5 kr0_7 kr0_8 kr0_9 kr0_10 kr1_0 kr2_0 kr5_0 kr5_1 kr6_0 kr6_1 kr7_0 kr7_1 kr8_0 kr9_0 kr10_0 kr11_0 kr12_0 kr13_0 kr14_0 kr15_0 kr16_0 kr17_0 kr19_0 kr19_1 kr22_0 kr22_1 kr22_2 kr22_3 kr22_4 kr22_5 kr22_7 kr22_8 kr25_0 kr25_1 kr25_2 kr26_0 kr26_1 kr26_2 kr29_0 kr29_1)
  (refine Cn_el vcn0 ?_; intros ki5_2 ki6_2 ki7_2 ki8_1 ki8_2 ki8_3 ki9_1 ki9_2 ki9_3 ki10_1 ki10_2 ki10_3 ki11_1 ki11_2 ki11_3 ki12_1 ki12_2 ki12_3 ki13_1 ki13_2 ki13_3 ki14_1 ki14_2 ki14_3 ki28_0 ki28_1 ki31_0 ki31_1 ki32_0 ki32_1 ki33_0 ki33_1 ki34_0 ki34_1 ki35_0 ki35_1 ki36_0 ki36_1)
  have hAe : ∀ i j, i < 40 → j < 40 → (A i = A j ↔ i = j) := hA
  have l6 := (qL6_2 _ R.2.2.2.2.1.2).1
  have c5 : Int32.ofNat j + 1 = Int32.ofNat (j + 1) := n_add j 1
  have c6 : (1 ≤ 2 * d + 3) = True := eq_true (by omega)
  have c7 : (150 ≤ 300 * d + 304) = True := eq_true (by omega)
  have c8 : 300 * d + 304 - 150 = 300 * d + 154 := by omega
  have c9 : 2 * d + 3 - 1 = 2 * d + 2 := by omega
  simp only [o205_34, o205_35, o205_38, o205_39, o205_40, o205_41, o205_44, o205_45, c_X8_cellOf (x2 := A 25) (x3 := A 26) (a := A 27) (w := A 33) (r := A 36), mcs_0, mcs_r, Kn_v, mrf_some, true_and, and_self, Nat.reduceLeDiff, Nat.reduceAdd, Nat.zero_le, cl2, kc22, kc23, kc25, kc26, kc27, kc33, kc36, kn23, kn25, kn26, kn27, kr22_0, kr22_2, kr22_3, kr22_4, kr25_2, kr26_2, ki36_0, hT, hv1, hv2, c6, c7, c8, c9, vq3, cl2, b.1]
  refine J_apL4 b (Cs_Dt Cm).1 (Cs_Dt Cm).2 hn (fun q f2 b2 => ?_)
  simp only [o205_48, o205_49, o205_52, Kn_v, c5]
  exact hQ q (Fx_tr f f2) b2

theorem mt_loop2 {A : Nat → Nat} {h : MH} {sb : Nat} {Q : MR → MH → Prop} (R : Rl A h) (C : Cs h) (hs : g_t h ≤ sb) (hQ : ∀ q s, Fx sb sb h q → St s (tq (qv2 A h) (lyF (cT h (A 7) (A 12) (A 13))).toNatClampNeg) q → Q (.inl (some (.ref s))) q) : ∀ (d j : Nat) (m : MH), j + d = (lyF (cT h (A 7) (A 12) (A 13))).toNatClampNeg → Fx sb sb h m → Bd sb (tq (qv2 A h) j) m → Ok 205 10 [.ref (A 22), .int 2, .ref sb, .int (Int32.ofNat j)] [] m (2 * d + 2) (300 * d + 154) Q
  | 0, j, m, hj, f, b => by
    have Rm := Rl_Fn R f hs hs
    obtain ⟨hT, -⟩ := mt_same2 R f hs
    obtain ⟨l6, le⟩ := qL6_2 _ R.2.2.2.2.1.2
    have hj2 : j = (lyF (cT h (A 7) (A 12) (A 13))).toNatClampNeg := by omega
    rw [← hj2] at le hQ
    have R0 := Rm
    obtain ⟨vk, vcn, v0, v1, v2, vp, vl0, vl1, vlr, vsr, vc, tx⟩ := R0
    have vk0 := vk
    have vcn0 := vcn
    (refine K_el vk0 ?_; intros hA kc0 kc1 kc2 kc3 kc4 kc5 kc6 kc7 kc8 kc9 kc10 kc11 kc12 kc13 kc14 kc15 kc16 kc17 kc18 kc19 kc20 kc21 kc22 kc23 kc24 kc25 kc26 kc27 kc28 kc29 kc30 kc31 kc32 kc33 kc34 kc35 kc36 kc37 kc38 kc39 kz kt kn3 kn4 kn18 kn21 kn23 kn24 kn25 kn26 kn27 kn29 kn30 kr0_0 kr0_1 kr0_2 kr0_3 kr0_4 kr0_5 kr0_7 kr0_8 kr0_9 kr0_10 kr1_0 kr2_0 kr5_0 kr5_1 kr6_0 kr6_1 kr7_0 kr7_1 kr8_0 kr9_0 kr10_0 kr11_0 kr12_0 kr13_0 kr14_0 kr15_0 kr16_0 kr17_0 kr19_0 kr19_1 kr22_0 kr22_1 kr22_2 kr22_3 kr22_4 kr22_5 kr22_7 kr22_8 kr25_0 kr25_1 kr25_2 kr26_0 kr26_1 kr26_2 kr29_0 kr29_1)
    (refine Cn_el vcn0 ?_; intros ki5_2 ki6_2 ki7_2 ki8_1 ki8_2 ki8_3 ki9_1 ki9_2 ki9_3 ki10_1 ki10_2 ki10_3 ki11_1 ki11_2 ki11_3 ki12_1 ki12_2 ki12_3 ki13_1 ki13_2 ki13_3 ki14_1 ki14_2 ki14_3 ki28_0 ki28_1 ki31_0 ki31_1 ki32_0 ki32_1 ki33_0 ki33_1 ki34_0 ki34_1 ki35_0 ki35_1 ki36_0 ki36_1)
    have hAe : ∀ i j, i < 40 → j < 40 → (A i = A j ↔ i = j) := hA
    rw [o205_10]
    simp only [o205_11, o205_12, o205_13, o205_16, o205_55, o205_56, c_X8_liesOf (x2 := A 25) (x3 := A 26) (a := A 27) (w := A 33) (r := A 36), mcs_0, mcs_i, Kn_v, true_and, and_true, not_true_eq_false, not_false_eq_true, false_implies, forall_const, Nat.reduceLeDiff, Nat.reduceAdd, Nat.zero_le, Nat.le_refl, lt_le, cl2, kc22, kc25, kc26, kc27, kc33, kc36, kn25, kn26, kn27, kr22_2, kr22_3, kr22_4, kr25_2, kr26_2, hT, le, n_irr, vq3, cl2, b.1]
    refine J_str b (fun q s f2 t hs2 => ?_)
    simp only [o205_59, Kn_v]
    exact hQ q s (Fx_tr f (Fx_Fr f2)) t
  | d + 1, j, m, hj, f, b => by
    have lp := mt_loop2 R C hs hQ d (j + 1)
    have Rm := Rl_Fn R f hs hs
    have Cm := Cs_Fx C f (Nat.le_trans (Rl_z R) hs) (Nat.le_trans (Rl_z R) hs)
    obtain ⟨hT, -⟩ := mt_same2 R f hs
    obtain ⟨l6, le⟩ := qL6_2 _ R.2.2.2.2.1.2
    have R0 := Rm
    obtain ⟨vk, vcn, v0, v1, v2, vp, vl0, vl1, vlr, vsr, vc, tx⟩ := R0
    have vk0 := vk
    have vcn0 := vcn
    (refine K_el vk0 ?_; intros hA kc0 kc1 kc2 kc3 kc4 kc5 kc6 kc7 kc8 kc9 kc10 kc11 kc12 kc13 kc14 kc15 kc16 kc17 kc18 kc19 kc20 kc21 kc22 kc23 kc24 kc25 kc26 kc27 kc28 kc29 kc30 kc31 kc32 kc33 kc34 kc35 kc36 kc37 kc38 kc39 kz kt kn3 kn4 kn18 kn21 kn23 kn24 kn25 kn26 kn27 kn29 kn30 kr0_0 kr0_1 kr0_2 kr0_3 kr0_4 kr0_5 kr0_7 kr0_8 kr0_9 kr0_10 kr1_0 kr2_0 kr5_0 kr5_1 kr6_0 kr6_1 kr7_0 kr7_1 kr8_0 kr9_0 kr10_0 kr11_0 kr12_0 kr13_0 kr14_0 kr15_0 kr16_0 kr17_0 kr19_0 kr19_1 kr22_0 kr22_1 kr22_2 kr22_3 kr22_4 kr22_5 kr22_7 kr22_8 kr25_0 kr25_1 kr25_2 kr26_0 kr26_1 kr26_2 kr29_0 kr29_1)
    (refine Cn_el vcn0 ?_; intros ki5_2 ki6_2 ki7_2 ki8_1 ki8_2 ki8_3 ki9_1 ki9_2 ki9_3 ki10_1 ki10_2 ki10_3 ki11_1 ki11_2 ki11_3 ki12_1 ki12_2 ki12_3 ki13_1 ki13_2 ki13_3 ki14_1 ki14_2 ki14_3 ki28_0 ki28_1 ki31_0 ki31_1 ki32_0 ki32_1 ki33_0 ki33_1 ki34_0 ki34_1 ki35_0 ki35_1 ki36_0 ki36_1)
    have hAe : ∀ i j, i < 40 → j < 40 → (A i = A j ↔ i = j) := hA
    have c1 : (Int32.ofNat j < lyF (cT h (A 7) (A 12) (A 13))) = True := by rw [le, n_lt (by omega) (by omega)]; exact eq_true (by omega)
    have c6 : (1 ≤ 2 * (d + 1) + 2) = True := eq_true (by omega)
    have c7 : (150 ≤ 300 * (d + 1) + 154) = True := eq_true (by omega)
    have c8 : 300 * (d + 1) + 154 - 150 = 300 * d + 304 := by omega
    have c9 : 2 * (d + 1) + 2 - 1 = 2 * d + 3 := by omega
    have t6 := tq_le (qv2 A h) 20 (fun j => tsz_le _) (j + 1)
    unfold tq at t6
    have sp : sep (tq (qv2 A h) j) = if j = 0 then 0 else 1 := by unfold sep; simp only [tq_z]
    rw [sp] at t6
    rw [o205_10]
    by_cases h0 : j = 0
    · have c2 : (Int32.ofNat j = 0) = True := by rw [h0]; decide
      rw [if_pos h0, Nat.add_zero] at t6
      simp only [o205_11, o205_12, o205_13, o205_16, o205_19, o205_20, o205_21, o205_24, o205_26, o205_29, o205_31, c_X8_liesOf (x2 := A 25) (x3 := A 26) (a := A 27) (w := A 33) (r := A 36), mcs_0, mcs_i, Kn_v, true_and, not_true_eq_false, not_false_eq_true, false_implies, forall_const, Nat.reduceLeDiff, Nat.reduceAdd, Nat.zero_le, lt_le, cl2, kc22, kc25, kc26, kc27, kc33, kc36, kn25, kn26, kn27, kr22_2, kr22_3, kr22_4, kr25_2, kr26_2, hT, c1, c2, c6, c7, c8, c9, vq3, cl2, b.1]
      refine J_apS4 b (Cs_St Cm).1 (by decide) (by omega) (fun q f2 b2 => ?_)
      simp only [Kn_v]
      refine mt_half2 R C hs (Fx_tr f f2) b2 (by omega) (by omega) (fun q2 f3 b3 => lp q2 (by omega) f3 ?_)
      unfold tq
      rw [sp, if_pos h0]
      exact b3
    · have c2 : (Int32.ofNat j = 0) = False := eq_false (fun z => by
        have z2 := congrArg Int32.toNatClampNeg z
        rw [n_cl (by omega)] at z2
        exact h0 z2)
      rw [if_neg h0] at t6
      simp only [o205_11, o205_12, o205_13, o205_16, o205_19, o205_20, o205_21, o205_24, o205_26, o205_29, o205_31, c_X8_liesOf (x2 := A 25) (x3 := A 26) (a := A 27) (w := A 33) (r := A 36), mcs_0, mcs_i, Kn_v, true_and, and_true, not_true_eq_false, not_false_eq_true, false_implies, forall_const, Nat.reduceLeDiff, Nat.reduceAdd, Nat.zero_le, lt_le, cl2, kc22, kc25, kc26, kc27, kc33, kc36, kn25, kn26, kn27, kr22_2, kr22_3, kr22_4, kr25_2, kr26_2, hT, c1, c2, c6, c7, c8, c9, vq3, cl2, b.1]
      refine J_apS4 b (Cs_St Cm).2 (by decide) (by omega) (fun q f2 b2 => ?_)
      simp only [Kn_v]
      refine mt_half2 R C hs (Fx_tr f f2) b2 (by omega) (by omega) (fun q2 f3 b3 => lp q2 (by omega) f3 ?_)
      unfold tq
      rw [sp, if_neg h0]
      exact b3

theorem m_textOf2 {A : Nat → Nat} {h : MH} {Q : MR → MH → Prop} (R : Rl A h) (C : Cs h) (hQ : ∀ m s sb, g_t h ≤ sb → Fx sb sb h m → St s (tq (qv2 A h) (lyF (cT h (A 7) (A 12) (A 13))).toNatClampNeg) m → Q (.inl (some (.ref s))) m) : Ok 205 0 [.ref (A 22), .int 2, mk0, mk0] [] h 16 1974 Q := by
  obtain ⟨b, f⟩ := nSB (Rl_z R)
  have l6 := (qL6_2 _ R.2.2.2.2.1.2).1
  have lp := mt_loop2 (sb := g_t h) (Q := Q) R C (Nat.le_refl _) (fun q s f2 t => hQ q s (g_t h) (Nat.le_refl _) f2 t) (lyF (cT h (A 7) (A 12) (A 13))).toNatClampNeg 0 _ (by omega) (Fx_Fr f) b
  have n3 := Rl_z R
  simp only [o205_0, o205_3, o205_4, o205_7, o205_8, o205_9, J_init, mc_pN, mt_pN, mz_pN, mcs_0, mcs_r, Kn_0, true_and, if_true, Nat.reduceLeDiff, Nat.reduceSub, Nat.reduceAdd, n3, Nat.lt_succ_self]
  exact Ok_le lp _ _ (by omega) (by omega)


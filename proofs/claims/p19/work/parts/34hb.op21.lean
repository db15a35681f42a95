set_option maxRecDepth 16384
theorem mp_same {A : Nat → Nat} {h m : MH} {sb : Nat} (R : Rl A h) (f : Fx sb sb h m) (hs : g_t h ≤ sb) : (∀ j, j < pNn A h → isz (g_i m (A 24) (1 + (pS A h + j))) = tsz (pv A h j)) ∧ ((g_i m (A 22) 6 = 0 ∧ pS A h = 0 ∧ g_i m (A 28) 3 = Int32.ofNat (pS A h + pNn A h)) ∨ (g_i m (A 22) 6 = 1 ∧ g_i m (A 28) 3 = Int32.ofNat (pS A h) ∧ g_i m (A 28) 4 = Int32.ofNat (pS A h + pNn A h))) := by
  obtain ⟨i24, -, -⟩ := Rl_at R f hs (i := 24) (by decide)
  obtain ⟨i22, -, -⟩ := Rl_at R f hs (i := 22) (by decide)
  obtain ⟨i28, -, -⟩ := Rl_at R f hs (i := 28) (by decide)
  obtain ⟨hS, hst⟩ := pSN R
  obtain ⟨⟨p1, p2, p3, p4⟩, -⟩ := R.2.2.2.2.2.1
  refine ⟨fun j hj => ?_, ?_⟩
  · rw [i24, ← isz_tsz]
    congr 1
    exact ((R.2.2.2.2.2.2.2.2.2.1 _ (by omega)).1).symm
  · rw [i22, i28, i28, ← p1, ← p2, ← p4]
    exact hst
theorem mp_loop {A : Nat → Nat} {h : MH} {sb : Nat} {Q : MR → MH → Prop} (R : Rl A h) (C : Cs h) (hs : g_t h ≤ sb) (hQ : ∀ q s, Fx sb sb h q → St s (tq (pv A h) (pNn A h)) q → Q (.inl (some (.ref s))) q) : ∀ (d j : Nat) (m : MH), j + d = pNn A h → Fx sb sb h m → Bd sb (tq (pv A h) j) m → Ok 220 29 [.ref (A 22), .ref sb, .int (Int32.ofNat (pS A h)), .int (Int32.ofNat j)] [] m (2 * d + 2) (300 * d + 154) Q
  | 0, j, m, hj, f, b => by
    have Rm := Rl_Fn R f hs hs
    obtain ⟨-, hst⟩ := mp_same R f hs
    have hS := (pSN R).1
    have hj2 : j = pNn A h := by omega
    rw [← hj2] at hst hQ
    have R0 := Rm
    obtain ⟨vk, vcn, v0, v1, v2, vp, vl0, vl1, vlr, vsr, vc, tx⟩ := R0
    have vk0 := vk
    have vcn0 := vcn
    (refine K_el vk0 ?_; intros hA kc0 kc1 kc2 kc3 kc4 kc5 kc6 kc7 kc8 kc9 kc10 kc11 kc12 kc13 kc14 kc15 kc16 kc17 kc18 kc19 kc20 kc21 kc22 kc23 kc24 kc25 kc26 kc27 kc28 kc29 kc30 kc31 kc32 kc33 kc34 kc35 kc36 kc37 kc38 kc39 kz kt kn3 kn4 kn18 kn21 kn23 kn24 kn25 kn26 kn27 kn29 kn30 kr0_0 kr0_1 kr0_2 kr0_3 kr0_4 kr0_5 kr0_7 kr0_8 kr0_9 kr0_10 kr1_0 kr2_0 kr5_0 kr5_1 kr6_0 kr6_1 kr7_0 kr7_1 kr8_0 kr9_0 kr10_0 kr11_0 kr12_0 kr13_0 kr14_0 kr15_0 kr16_0 kr17_0 kr19_0 kr19_1 kr22_0 kr22_1 kr22_2 kr22_3 kr22_4 kr22_5 kr22_7 kr22_8 kr25_0 kr25_1 kr25_2 kr26_0 kr26_1 kr26_2 kr29_0 kr29_1)
    (refine Cn_el vcn0 ?_; intros ki5_2 ki6_2 ki7_2 ki8_1 ki8_2 ki8_3 ki9_1 ki9_2 ki9_3 ki10_1 ki10_2 ki10_3 ki11_1 ki11_2 ki11_3 ki12_1 ki12_2 ki12_3 ki13_1 ki13_2 ki13_3 ki14_1 ki14_2 ki14_3 ki28_0 ki28_1 ki31_0 ki31_1 ki32_0 ki32_1 ki33_0 ki33_1 ki34_0 ki34_1 ki35_0 ki35_1 ki36_0 ki36_1)
    have hAe : ∀ i j, i < 40 → j < 40 → (A i = A j ↔ i = j) := hA
    have e1 : Int32.ofNat (pS A h + j) - Int32.ofNat (pS A h) = Int32.ofNat j := by
      rw [n_sub (by omega) (by omega)]
      congr 1
      omega
    rw [o220_29]
    have go : Ok 220 72 [.ref (A 22), .ref sb, .int (Int32.ofNat (pS A h)), .int (Int32.ofNat j)] [] m 2 154 Q := by
      simp only [o220_72, o220_73, mcs_0, true_and, Nat.reduceSub, Nat.zero_le, Nat.le_refl, b.1]
      refine J_str b (fun q s f2 t hs2 => ?_)
      simp only [o220_76, Kn_v]
      exact hQ q s (Fx_tr f (Fx_Fr f2)) t
    rcases hst with ⟨z1, z2, z3⟩ | ⟨z1, z3, z4⟩
    · rw [z2, Nat.zero_add] at z3
      simp only [o220_30, o220_31, o220_34, o218_0, o218_1, o218_4, o218_7, o218_8, o218_11, o218_14, o218_17, o218_18, o218_21, o218_24, c_X7_rests, mcs_0, mcs_i, Kn_v, mrf_some, true_and, and_true, not_true_eq_false, not_false_eq_true, false_implies, forall_const, Nat.reduceLeDiff, Nat.reduceAdd, Nat.zero_le, lt_le, Classical.not_not, kc22, kc28, kr22_5, z1, z3, n_irr]
      exact go
    · simp only [o220_30, o220_31, o220_34, o218_0, o218_1, o218_4, o218_7, o218_8, o218_11, o218_14, o218_17, o218_18, o218_21, o218_24, c_X7_rests, mcs_0, mcs_i, Kn_v, mrf_some, true_and, and_true, not_true_eq_false, not_false_eq_true, false_implies, forall_const, Nat.reduceLeDiff, Nat.reduceAdd, Nat.zero_le, i10, lt_le, Classical.not_not, kc22, kc28, kr22_5, z1, z3, z4, e1, n_irr]
      exact go
  | d + 1, j, m, hj, f, b => by
    have lp := mp_loop R C hs hQ d (j + 1)
    have Rm := Rl_Fn R f hs hs
    have Cm := Cs_Fx C f (Nat.le_trans (Rl_z R) hs) (Nat.le_trans (Rl_z R) hs)
    obtain ⟨-, hst⟩ := mp_same R f hs
    have hS := (pSN R).1
    have R0 := Rm
    obtain ⟨vk, vcn, v0, v1, v2, vp, vl0, vl1, vlr, vsr, vc, tx⟩ := R0
    have vk0 := vk
    have vcn0 := vcn
    (refine K_el vk0 ?_; intros hA kc0 kc1 kc2 kc3 kc4 kc5 kc6 kc7 kc8 kc9 kc10 kc11 kc12 kc13 kc14 kc15 kc16 kc17 kc18 kc19 kc20 kc21 kc22 kc23 kc24 kc25 kc26 kc27 kc28 kc29 kc30 kc31 kc32 kc33 kc34 kc35 kc36 kc37 kc38 kc39 kz kt kn3 kn4 kn18 kn21 kn23 kn24 kn25 kn26 kn27 kn29 kn30 kr0_0 kr0_1 kr0_2 kr0_3 kr0_4 kr0_5 kr0_7 kr0_8 kr0_9 kr0_10 kr1_0 kr2_0 kr5_0 kr5_1 kr6_0 kr6_1 kr7_0 kr7_1 kr8_0 kr9_0 kr10_0 kr11_0 kr12_0 kr13_0 kr14_0 kr15_0 kr16_0 kr17_0 kr19_0 kr19_1 kr22_0 kr22_1 kr22_2 kr22_3 kr22_4 kr22_5 kr22_7 kr22_8 kr25_0 kr25_1 kr25_2 kr26_0 kr26_1 kr26_2 kr29_0 kr29_1)
    (refine Cn_el vcn0 ?_; intros ki5_2 ki6_2 ki7_2 ki8_1 ki8_2 ki8_3 ki9_1 ki9_2 ki9_3 ki10_1 ki10_2 ki10_3 ki11_1 ki11_2 ki11_3 ki12_1 ki12_2 ki12_3 ki13_1 ki13_2 ki13_3 ki14_1 ki14_2 ki14_3 ki28_0 ki28_1 ki31_0 ki31_1 ki32_0 ki32_1 ki33_0 ki33_1 ki34_0 ki34_1 ki35_0 ki35_1 ki36_0 ki36_1)
    have hAe : ∀ i j, i < 40 → j < 40 → (A i = A j ↔ i = j) := hA
    have c1 : (Int32.ofNat j < Int32.ofNat (pNn A h)) = True := by rw [n_lt (by omega) (by omega)]; exact eq_true (by omega)
    have e1 : Int32.ofNat (pS A h + pNn A h) - Int32.ofNat (pS A h) = Int32.ofNat (pNn A h) := by
      rw [n_sub (by omega) (by omega)]
      congr 1
      omega
    have c6 : (1 ≤ 2 * (d + 1) + 2) = True := eq_true (by omega)
    have c7 : (150 ≤ 300 * (d + 1) + 154) = True := eq_true (by omega)
    have c8 : 300 * (d + 1) + 154 - 150 = 300 * d + 304 := by omega
    have c9 : 2 * (d + 1) + 2 - 1 = 2 * d + 3 := by omega
    have t6 := tq_lt (pv A h) 6 (pNn A h) (fun j hj => pv_sz R hj) (j + 1) (by omega)
    unfold tq at t6
    have sp : sep (tq (pv A h) j) = if j = 0 then 0 else 1 := by unfold sep; simp only [tq_z]
    rw [sp] at t6
    have half : ∀ (q : MH) (n : Nat), Fx sb sb h q → Bd sb n q → n + tsz (pv A h j) ≤ 142 → (∀ q2, Fx sb sb h q2 → Bd sb (n + tsz (pv A h j)) q2 → Ok 220 29 [.ref (A 22), .ref sb, .int (Int32.ofNat (pS A h)), .int (Int32.ofNat (j + 1))] [] q2 (2 * d + 2) (300 * d + 154) Q) → Ok 220 52 [.ref (A 22), .ref sb, .int (Int32.ofNat (pS A h)), .int (Int32.ofNat j)] [.ref sb] q (2 * d + 3) (300 * d + 304) Q := by
      intro q n f2 b2 hn hQ2
      have Rm := Rl_Fn R f2 hs hs
      have Cm := Cs_Fx C f2 (Nat.le_trans (Rl_z R) hs) (Nat.le_trans (Rl_z R) hs)
      have hv := (mp_same R f2 hs).1 j (by omega)
      have R0 := Rm
      obtain ⟨vk, vcn, v0, v1, v2, vp, vl0, vl1, vlr, vsr, vc, tx⟩ := R0
      have vk0 := vk
      have vcn0 := vcn
      (refine K_el vk0 ?_; intros hA kc0 kc1 kc2 kc3 kc4 kc5 kc6 kc7 kc8 kc9 kc10 kc11 kc12 kc13 kc14 kc15 kc16 kc17 kc18 kc19 kc20 kc21 kc22 kc23 kc24 kc25 kc26 kc27 kc28 kc29 kc30 kc31 kc32 kc33 kc34 kc35 kc36 kc37 kc38 kc39 kz kt kn3 kn4 kn18 kn21 kn23 kn24 kn25 kn26 kn27 kn29 kn30 kr0_0 kr0_1 kr0_2 kr0_3 kr0_4 kr0_5 kr0_7 kr0_8 kr0_9 kr0_10 kr1_0 kr2_0 kr5_0 kr5_1 kr6_0 kr6_1 kr7_0 kr7_1 kr8_0 kr9_0 kr10_0 kr11_0 kr12_0 kr13_0 kr14_0 kr15_0 kr16_0 kr17_0 kr19_0 kr19_1 kr22_0 kr22_1 kr22_2 kr22_3 kr22_4 kr22_5 kr22_7 kr22_8 kr25_0 kr25_1 kr25_2 kr26_0 kr26_1 kr26_2 kr29_0 kr29_1)
      (refine Cn_el vcn0 ?_; intros ki5_2 ki6_2 ki7_2 ki8_1 ki8_2 ki8_3 ki9_1 ki9_2 ki9_3 ki10_1 ki10_2 ki10_3 ki11_1 ki11_2 ki11_3 ki12_1 ki12_2 ki12_3 ki13_1 ki13_2 ki13_3 ki14_1 ki14_2 ki14_3 ki28_0 ki28_1 ki31_0 ki31_1 ki32_0 ki32_1 ki33_0 ki33_1 ki34_0 ki34_1 ki35_0 ki35_1 ki36_0 ki36_1)
      have hAe : ∀ i j, i < 40 → j < 40 → (A i = A j ↔ i = j) := hA
      have c5 : Int32.ofNat j + 1 = Int32.ofNat (j + 1) := n_add j 1
      have c6 : (1 ≤ 2 * d + 3) = True := eq_true (by omega)
      have c7 : (150 ≤ 300 * d + 304) = True := eq_true (by omega)
      have c8 : 300 * d + 304 - 150 = 300 * d + 154 := by omega
      have c9 : 2 * d + 3 - 1 = 2 * d + 2 := by omega
      have c10 : 1 + Int32.ofNat (pS A h) + Int32.ofNat j = Int32.ofNat (1 + (pS A h + j)) := by
        rw [show (1 : Int32) = Int32.ofNat 1 from rfl, n_add, n_add, Nat.add_assoc]
      have c11 : vp_in (Int32.ofNat (1 + (pS A h + j))) 36 := vp_of (by omega) (by omega)
      have c12 : (Int32.ofNat (1 + (pS A h + j))).toNatClampNeg = 1 + (pS A h + j) := n_cl (by omega)
      simp only [o220_52, o220_53, o220_56, o220_57, o220_58, o220_59, o220_60, o220_61, o220_62, mcs_0, mrf_some, true_and, and_self, Nat.zero_le, kc22, kc24, kn24, kr22_1, c10, c11, c12, c6, c7, c8, c9, b2.1]
      refine J_apI4 b2 (Cs_Dt Cm).1 (Cs_Dt Cm).2 (by rw [hv]; exact hn) (fun q3 f3 b3 => ?_)
      simp only [o220_65, o220_66, o220_69, Kn_v, c5]
      rw [hv] at b3
      exact hQ2 q3 (Fx_tr f2 f3) b3
    rw [o220_29]
    by_cases h0 : j = 0
    · have c2 : (Int32.ofNat j = 0) = True := by rw [h0]; decide
      rw [if_pos h0, Nat.add_zero] at t6
      have go : Ok 220 37 [.ref (A 22), .ref sb, .int (Int32.ofNat (pS A h)), .int (Int32.ofNat j)] [] m (2 * (d + 1) + 2) (300 * (d + 1) + 154) Q := by
        simp only [o220_37, o220_38, o220_39, o220_42, o220_44, o220_47, o220_49, mcs_0, true_and, not_true_eq_false, false_implies, forall_const, Nat.zero_le, c2, c6, c7, c8, c9, b.1]
        refine J_apS4 b (Cs_St Cm).1 (by decide) (by omega) (fun q f2 b2 => ?_)
        simp only [Kn_v]
        refine half q _ (Fx_tr f f2) b2 (by omega) (fun q2 f3 b3 => lp q2 (by omega) f3 ?_)
        unfold tq
        rw [sp, if_pos h0]
        exact b3
      rcases hst with ⟨z1, z2, z3⟩ | ⟨z1, z3, z4⟩
      · rw [z2, Nat.zero_add] at z3
        simp only [o220_30, o220_31, o220_34, o218_0, o218_1, o218_4, o218_7, o218_8, o218_11, o218_14, o218_17, o218_18, o218_21, o218_24, c_X7_rests, mcs_0, mcs_i, Kn_v, mrf_some, true_and, and_true, not_true_eq_false, not_false_eq_true, false_implies, forall_const, Nat.reduceLeDiff, Nat.reduceAdd, Nat.zero_le, lt_le, Classical.not_not, kc22, kc28, kr22_5, z1, z3, c1]
        exact go
      · simp only [o220_30, o220_31, o220_34, o218_0, o218_1, o218_4, o218_7, o218_8, o218_11, o218_14, o218_17, o218_18, o218_21, o218_24, c_X7_rests, mcs_0, mcs_i, Kn_v, mrf_some, true_and, not_true_eq_false, not_false_eq_true, false_implies, forall_const, Nat.reduceLeDiff, Nat.reduceAdd, Nat.zero_le, i10, lt_le, Classical.not_not, kc22, kc28, kr22_5, z1, z3, z4, e1, c1]
        exact go
    · have c2 : (Int32.ofNat j = 0) = False := eq_false (fun z => by
        have z2 := congrArg Int32.toNatClampNeg z
        rw [n_cl (by omega)] at z2
        exact h0 z2)
      rw [if_neg h0] at t6
      have go : Ok 220 37 [.ref (A 22), .ref sb, .int (Int32.ofNat (pS A h)), .int (Int32.ofNat j)] [] m (2 * (d + 1) + 2) (300 * (d + 1) + 154) Q := by
        simp only [o220_37, o220_38, o220_39, o220_42, o220_44, o220_47, o220_49, mcs_0, true_and, and_true, not_false_eq_true, false_implies, forall_const, Nat.zero_le, c2, c6, c7, c8, c9, b.1]
        refine J_apS4 b (Cs_St Cm).2 (by decide) (by omega) (fun q f2 b2 => ?_)
        simp only [Kn_v]
        refine half q _ (Fx_tr f f2) b2 (by omega) (fun q2 f3 b3 => lp q2 (by omega) f3 ?_)
        unfold tq
        rw [sp, if_neg h0]
        exact b3
      rcases hst with ⟨z1, z2, z3⟩ | ⟨z1, z3, z4⟩
      · rw [z2, Nat.zero_add] at z3
        simp only [o220_30, o220_31, o220_34, o218_0, o218_1, o218_4, o218_7, o218_8, o218_11, o218_14, o218_17, o218_18, o218_21, o218_24, c_X7_rests, mcs_0, mcs_i, Kn_v, mrf_some, true_and, and_true, not_true_eq_false, not_false_eq_true, false_implies, forall_const, Nat.reduceLeDiff, Nat.reduceAdd, Nat.zero_le, lt_le, Classical.not_not, kc22, kc28, kr22_5, z1, z3, c1]
        exact go
      · simp only [o220_30, o220_31, o220_34, o218_0, o218_1, o218_4, o218_7, o218_8, o218_11, o218_14, o218_17, o218_18, o218_21, o218_24, c_X7_rests, mcs_0, mcs_i, Kn_v, mrf_some, true_and, not_true_eq_false, not_false_eq_true, false_implies, forall_const, Nat.reduceLeDiff, Nat.reduceAdd, Nat.zero_le, i10, lt_le, Classical.not_not, kc22, kc28, kr22_5, z1, z3, z4, e1, c1]
        exact go

theorem m_pipeTextNow {A : Nat → Nat} {h : MH} {Q : MR → MH → Prop} (R : Rl A h) (C : Cs h) (hQ : ∀ m s sb, g_t h ≤ sb → Fx sb sb h m → St s (tq (pv A h) (pNn A h)) m → Q (.inl (some (.ref s))) m) : Ok 220 0 [.ref (A 22), mk0, mk0, mk0] [] h 24 3174 Q := by
  obtain ⟨b, f⟩ := nSB (Rl_z R)
  have hS := (pSN R).1
  have lp := Ok_le (mp_loop (sb := g_t h) (Q := Q) R C (Nat.le_refl _) (fun q s f2 t => hQ q s (g_t h) (Nat.le_refl _) f2 t) (pNn A h) 0 _ (by omega) (Fx_Fr f) b) 22 3154 (by omega) (by omega)
  obtain ⟨-, hst⟩ := mp_same R (Fx_Fr f : Fx (g_t h) (g_t h) h _) (Nat.le_refl _)
  have Rm := Rl_Fr R f
  have n3 := Rl_z R
  have RH := R
  have R0 := R
  obtain ⟨vk, vcn, v0, v1, v2, vp, vl0, vl1, vlr, vsr, vc, tx⟩ := R0
  have vk0 := vk
  have vcn0 := vcn
  (refine K_el vk0 ?_; intros hA kc0 kc1 kc2 kc3 kc4 kc5 kc6 kc7 kc8 kc9 kc10 kc11 kc12 kc13 kc14 kc15 kc16 kc17 kc18 kc19 kc20 kc21 kc22 kc23 kc24 kc25 kc26 kc27 kc28 kc29 kc30 kc31 kc32 kc33 kc34 kc35 kc36 kc37 kc38 kc39 kz kt kn3 kn4 kn18 kn21 kn23 kn24 kn25 kn26 kn27 kn29 kn30 kr0_0 kr0_1 kr0_2 kr0_3 kr0_4 kr0_5 kr0_7 kr0_8 kr0_9 kr0_10 kr1_0 kr2_0 kr5_0 kr5_1 kr6_0 kr6_1 kr7_0 kr7_1 kr8_0 kr9_0 kr10_0 kr11_0 kr12_0 kr13_0 kr14_0 kr15_0 kr16_0 kr17_0 kr19_0 kr19_1 kr22_0 kr22_1 kr22_2 kr22_3 kr22_4 kr22_5 kr22_7 kr22_8 kr25_0 kr25_1 kr25_2 kr26_0 kr26_1 kr26_2 kr29_0 kr29_1)
  (refine Cn_el vcn0 ?_; intros ki5_2 ki6_2 ki7_2 ki8_1 ki8_2 ki8_3 ki9_1 ki9_2 ki9_3 ki10_1 ki10_2 ki10_3 ki11_1 ki11_2 ki11_3 ki12_1 ki12_2 ki12_3 ki13_1 ki13_2 ki13_3 ki14_1 ki14_2 ki14_3 ki28_0 ki28_1 ki31_0 ki31_1 ki32_0 ki32_1 ki33_0 ki33_1 ki34_0 ki34_1 ki35_0 ki35_1 ki36_0 ki36_1)
  have hAe : ∀ i j, i < 40 → j < 40 → (A i = A j ↔ i = j) := hA
  have nt : ∀ i, i < 40 → (A i = g_t h) = False := fun i hi => eq_false (fun z => by have := kt i hi; omega)
  have nt2 : ∀ i, i < 40 → (A i = g_t h + 1) = False := fun i hi => eq_false (fun z => by have := kt i hi; omega)
  simp only [mi_pi, mi_pr, mi_pN, mt_pN, if_false, and_self, Nat.reduceEqDiff, nt, nt2, Nat.reduceLT] at hst
  rcases hst with ⟨z1, z2, z3⟩ | ⟨z1, z3, z4⟩
  · rw [z2] at lp
    simp only [o220_0, o220_3, o220_4, o220_7, o220_8, o220_9, o220_12, o220_15, o220_16, o220_19, o220_22, o220_25, o220_26, o220_27, o220_28, J_init, mc_pi, mc_pr, mc_pN, mi_pi, mi_pr, mi_pN, mr_pi, mr_pr, mr_pN, mt_pN, mz_pN, mcs_0, mcs_r, Kn_0, mrf_some, true_and, and_true, not_true_eq_false, false_implies, forall_const, if_true, if_false, and_self, Nat.reduceEqDiff, Nat.reduceLeDiff, Nat.reduceSub, Nat.reduceAdd, kc22, kc28, kr22_5, n3, Nat.lt_succ_self, nt, nt2, Nat.reduceLT, z1]
    exact lp
  · simp only [o220_0, o220_3, o220_4, o220_7, o220_8, o220_9, o220_12, o220_15, o220_16, o220_19, o220_22, o220_25, o220_26, o220_27, o220_28, J_init, mc_pi, mc_pr, mc_pN, mi_pi, mi_pr, mi_pN, mr_pi, mr_pr, mr_pN, mt_pN, mz_pN, mcs_0, mcs_r, Kn_0, mrf_some, true_and, not_false_eq_true, false_implies, forall_const, if_true, if_false, and_self, Nat.reduceEqDiff, Nat.reduceLeDiff, Nat.reduceSub, Nat.reduceAdd, i10, kc22, kc28, kr22_5, n3, Nat.lt_succ_self, nt, nt2, Nat.reduceLT, z1, z3]
    exact lp


set_option maxRecDepth 16384
theorem lc_squeeze {scr n j : Nat} {A : Nat → Nat} {h : MH} {a5 a6 : Value} {bc bs B1 B2 : Nat} {Q : MR → MH → Prop} (R : Rl A h) (C : Cs h) (S : Scr scr n h) (hj : 4 * j + 4 ≤ n) (hn : n ≤ 256) (hb1 : bc + 826 ≤ B1) (hb2 : bs + 98959 ≤ B2) (hQ : LQ A scr n j bc bs Q) : Ok 329 752 [.ref scr, .ref (A 0), .ref (A 22), .ref (A 39), .int (Int32.ofNat (4 * j)), a5, a6] [] h B1 B2 Q := by
  have S0 := S
  obtain ⟨s1, s2, s3, s4⟩ := S
  obtain ⟨k0, k1, k2⟩ := Rl_c R
  have e1 : Int32.ofNat (4 * j) + 1 = Int32.ofNat (4 * j + 1) := n_add (4 * j) 1
  have v1 : vp_in (Int32.ofNat (4 * j + 1)) n := vp_of (by omega) (by omega)
  have e2 : Int32.ofNat (4 * j) + 2 = Int32.ofNat (4 * j + 2) := n_add (4 * j) 2
  have v2 : vp_in (Int32.ofNat (4 * j + 2)) n := vp_of (by omega) (by omega)
  have e3 : Int32.ofNat (4 * j) + 3 = Int32.ofNat (4 * j + 3) := n_add (4 * j) 3
  have v3 : vp_in (Int32.ofNat (4 * j + 3)) n := vp_of (by omega) (by omega)
  have b0 : (0 ≤ B1) = True := eq_true (by omega)
  have b1 : (0 ≤ B2) = True := eq_true (by omega)
  simp only [o329_752, o329_753, mcs_0, true_and, Nat.zero_le, k0]
  refine Ok_mono _ _ _ _ _ _ _ _ _ (fun r h1 q => ?_) (Ok_low (op_squeeze R))
  obtain ⟨⟨k, rfl, g1, z⟩, lw⟩ := q
  replace lw := lw s4
  obtain ⟨S1, si⟩ := Scr_Lw S0 lw
  have C1 := Cs_Lw C lw
  obtain ⟨t1, t2, t3, t4⟩ := id S1
  have d0 : (0 ≤ B1) = True := eq_true (by omega)
  have d1 : (0 ≤ B2) = True := eq_true (by omega)
  simp only [o329_756, o329_757, o329_758, mcs_0, Kn_v, true_and, Nat.zero_le, g1]
  refine Ok_mono _ _ _ _ _ _ _ _ _ (fun r h2 q => ?_) (Ok_low (z))
  obtain ⟨⟨b, rfl, R2, x1, x2⟩, lw2⟩ := q
  subst x2
  have hB0 : A 0 = A 0 := rfl
  have hB1 : A 22 = A 22 := rfl
  have hB2 : A 39 = A 39 := rfl
  replace lw2 := lw2 t4
  have S2 := (Scr_Lw S1 lw2).1
  have C2 := Cs_Lw C1 lw2
  simp only [o329_761, o329_762, Kn_v]
  exact Ok_le (hQ A h2 _ _ hB0 hB1 hB2 R2 C2 S2) _ _ (by omega) (by omega)
theorem lc_empty {scr n j : Nat} {A : Nat → Nat} {h : MH} {a5 a6 : Value} {bc bs B1 B2 : Nat} {Q : MR → MH → Prop} (R : Rl A h) (C : Cs h) (S : Scr scr n h) (hj : 4 * j + 4 ≤ n) (hn : n ≤ 256) (hb1 : bc + 826 ≤ B1) (hb2 : bs + 98959 ≤ B2) (hQ : LQ A scr n j bc bs Q) : Ok 329 765 [.ref scr, .ref (A 0), .ref (A 22), .ref (A 39), .int (Int32.ofNat (4 * j)), a5, a6] [] h B1 B2 Q := by
  have S0 := S
  obtain ⟨s1, s2, s3, s4⟩ := S
  obtain ⟨k0, k1, k2⟩ := Rl_c R
  have e1 : Int32.ofNat (4 * j) + 1 = Int32.ofNat (4 * j + 1) := n_add (4 * j) 1
  have v1 : vp_in (Int32.ofNat (4 * j + 1)) n := vp_of (by omega) (by omega)
  have e2 : Int32.ofNat (4 * j) + 2 = Int32.ofNat (4 * j + 2) := n_add (4 * j) 2
  have v2 : vp_in (Int32.ofNat (4 * j + 2)) n := vp_of (by omega) (by omega)
  have e3 : Int32.ofNat (4 * j) + 3 = Int32.ofNat (4 * j + 3) := n_add (4 * j) 3
  have v3 : vp_in (Int32.ofNat (4 * j + 3)) n := vp_of (by omega) (by omega)
  have b0 : (1 ≤ B1) = True := eq_true (by omega)
  have b1 : (6 ≤ B2) = True := eq_true (by omega)
  simp only [o329_765, o329_766, o329_767, o329_769, o329_770, o329_771, o329_772, o329_773, mcs_0, true_and, and_self, Nat.zero_le, s1, s2, e1, v1, b0, b1]
  refine Ok_mono _ _ _ _ _ _ _ _ _ (fun r h1 q => ?_) (Ok_low (op_empty R))
  obtain ⟨⟨k, rfl, g1, z⟩, lw⟩ := q
  replace lw := lw s4
  obtain ⟨S1, si⟩ := Scr_Lw S0 lw
  have C1 := Cs_Lw C lw
  obtain ⟨t1, t2, t3, t4⟩ := id S1
  have d0 : (2 ≤ (B1 - 1)) = True := eq_true (by omega)
  have d1 : (12 ≤ (B2 - 6)) = True := eq_true (by omega)
  simp only [o329_776, o329_778, o329_779, o329_780, o329_782, o329_783, o329_784, o329_785, mcs_0, Kn_v, true_and, and_self, Nat.zero_le, t1, t2, g1, si, e1, v1, d0, d1]
  refine Ok_mono _ _ _ _ _ _ _ _ _ (fun r h2 q => ?_) (Ok_low (z))
  obtain ⟨⟨b, rfl, R2, x1, x2⟩, lw2⟩ := q
  obtain ⟨B, hB0, hB1, hB2, R2⟩ := R2
  replace lw2 := lw2 t4
  have S2 := (Scr_Lw S1 lw2).1
  have C2 := Cs_Lw C1 lw2
  simp only [o329_788, o329_790, Kn_v]
  exact Ok_le (hQ B h2 _ _ hB0 hB1 hB2 R2 C2 S2) _ _ (by omega) (by omega)
theorem lc_pass {scr n j : Nat} {A : Nat → Nat} {h : MH} {a5 a6 : Value} {bc bs B1 B2 : Nat} {Q : MR → MH → Prop} (R : Rl A h) (C : Cs h) (S : Scr scr n h) (hj : 4 * j + 4 ≤ n) (hn : n ≤ 256) (hb1 : bc + 826 ≤ B1) (hb2 : bs + 98959 ≤ B2) (hQ : LQ A scr n j bc bs Q) : Ok 329 793 [.ref scr, .ref (A 0), .ref (A 22), .ref (A 39), .int (Int32.ofNat (4 * j)), a5, a6] [] h B1 B2 Q := by
  have S0 := S
  obtain ⟨s1, s2, s3, s4⟩ := S
  obtain ⟨k0, k1, k2⟩ := Rl_c R
  have e1 : Int32.ofNat (4 * j) + 1 = Int32.ofNat (4 * j + 1) := n_add (4 * j) 1
  have v1 : vp_in (Int32.ofNat (4 * j + 1)) n := vp_of (by omega) (by omega)
  have e2 : Int32.ofNat (4 * j) + 2 = Int32.ofNat (4 * j + 2) := n_add (4 * j) 2
  have v2 : vp_in (Int32.ofNat (4 * j + 2)) n := vp_of (by omega) (by omega)
  have e3 : Int32.ofNat (4 * j) + 3 = Int32.ofNat (4 * j + 3) := n_add (4 * j) 3
  have v3 : vp_in (Int32.ofNat (4 * j + 3)) n := vp_of (by omega) (by omega)
  have b0 : (3 ≤ B1) = True := eq_true (by omega)
  have b1 : (18 ≤ B2) = True := eq_true (by omega)
  simp only [o329_793, o329_794, o329_795, o329_797, o329_798, o329_799, o329_800, o329_801, o329_803, o329_804, o329_805, o329_806, o329_807, mcs_0, true_and, and_self, Nat.zero_le, s1, s2, e1, v1, e2, v2, b0, b1]
  refine Ok_mono _ _ _ _ _ _ _ _ _ (fun r h1 q => ?_) (Ok_low (op_pass R))
  obtain ⟨⟨k, rfl, g1, z⟩, lw⟩ := q
  replace lw := lw s4
  obtain ⟨S1, si⟩ := Scr_Lw S0 lw
  have C1 := Cs_Lw C lw
  obtain ⟨t1, t2, t3, t4⟩ := id S1
  have d0 : (0 ≤ (B1 - 3)) = True := eq_true (by omega)
  have d1 : (0 ≤ (B2 - 18)) = True := eq_true (by omega)
  simp only [o329_810, o329_812, o329_813, o329_814, o329_816, o329_817, o329_818, o329_819, o329_820, o329_822, o329_823, o329_824, o329_825, mcs_0, Kn_v, true_and, and_self, Nat.zero_le, t1, t2, g1, si, e1, v1, e2, v2]
  refine Ok_mono _ _ _ _ _ _ _ _ _ (fun r h2 q => ?_) (Ok_low (z))
  obtain ⟨⟨b, rfl, R2, x1, x2⟩, lw2⟩ := q
  have hB0 : A 0 = A 0 := rfl
  have hB1 : A 22 = A 22 := rfl
  have hB2 : A 39 = A 39 := rfl
  replace lw2 := lw2 t4
  have S2 := (Scr_Lw S1 lw2).1
  have C2 := Cs_Lw C1 lw2
  simp only [o329_828, o329_830, Kn_v]
  exact Ok_le (hQ A h2 _ _ hB0 hB1 hB2 R2 C2 S2) _ _ (by omega) (by omega)
theorem lc_poke {scr n j : Nat} {A : Nat → Nat} {h : MH} {a5 a6 : Value} {bc bs B1 B2 : Nat} {Q : MR → MH → Prop} (R : Rl A h) (C : Cs h) (S : Scr scr n h) (hj : 4 * j + 4 ≤ n) (hn : n ≤ 256) (hb1 : bc + 826 ≤ B1) (hb2 : bs + 98959 ≤ B2) (hQ : LQ A scr n j bc bs Q) : Ok 329 833 [.ref scr, .ref (A 0), .ref (A 22), .ref (A 39), .int (Int32.ofNat (4 * j)), a5, a6] [] h B1 B2 Q := by
  have S0 := S
  obtain ⟨s1, s2, s3, s4⟩ := S
  obtain ⟨k0, k1, k2⟩ := Rl_c R
  have e1 : Int32.ofNat (4 * j) + 1 = Int32.ofNat (4 * j + 1) := n_add (4 * j) 1
  have v1 : vp_in (Int32.ofNat (4 * j + 1)) n := vp_of (by omega) (by omega)
  have e2 : Int32.ofNat (4 * j) + 2 = Int32.ofNat (4 * j + 2) := n_add (4 * j) 2
  have v2 : vp_in (Int32.ofNat (4 * j + 2)) n := vp_of (by omega) (by omega)
  have e3 : Int32.ofNat (4 * j) + 3 = Int32.ofNat (4 * j + 3) := n_add (4 * j) 3
  have v3 : vp_in (Int32.ofNat (4 * j + 3)) n := vp_of (by omega) (by omega)
  have b0 : (2 ≤ B1) = True := eq_true (by omega)
  have b1 : (12 ≤ B2) = True := eq_true (by omega)
  simp only [o329_833, o329_834, o329_835, o329_837, o329_838, o329_839, o329_840, o329_841, o329_843, o329_844, o329_845, o329_846, o329_847, mcs_0, true_and, and_self, Nat.zero_le, s1, s2, e1, v1, e2, v2, b0, b1]
  refine Ok_mono _ _ _ _ _ _ _ _ _ (fun r h1 q => ?_) (Ok_low (op_poke R))
  obtain ⟨⟨k, rfl, g1, z⟩, lw⟩ := q
  replace lw := lw s4
  obtain ⟨S1, si⟩ := Scr_Lw S0 lw
  have C1 := Cs_Lw C lw
  obtain ⟨t1, t2, t3, t4⟩ := id S1
  have d0 : (0 ≤ (B1 - 2)) = True := eq_true (by omega)
  have d1 : (0 ≤ (B2 - 12)) = True := eq_true (by omega)
  simp only [o329_850, o329_852, o329_853, o329_854, o329_856, o329_857, o329_858, o329_859, o329_860, o329_862, o329_863, o329_864, o329_865, mcs_0, Kn_v, true_and, and_self, Nat.zero_le, t1, t2, g1, si, e1, v1, e2, v2]
  refine Ok_mono _ _ _ _ _ _ _ _ _ (fun r h2 q => ?_) (Ok_low (z))
  obtain ⟨⟨b, rfl, R2, x1, x2⟩, lw2⟩ := q
  have hB0 : A 0 = A 0 := rfl
  have hB1 : A 22 = A 22 := rfl
  have hB2 : A 39 = A 39 := rfl
  replace lw2 := lw2 t4
  have S2 := (Scr_Lw S1 lw2).1
  have C2 := Cs_Lw C1 lw2
  simp only [o329_868, o329_870, Kn_v]
  exact Ok_le (hQ A h2 _ _ hB0 hB1 hB2 R2 C2 S2) _ _ (by omega) (by omega)
theorem lc_lies {scr n j : Nat} {A : Nat → Nat} {h : MH} {a5 a6 : Value} {bc bs B1 B2 : Nat} {Q : MR → MH → Prop} (R : Rl A h) (C : Cs h) (S : Scr scr n h) (hj : 4 * j + 4 ≤ n) (hn : n ≤ 256) (hb1 : bc + 826 ≤ B1) (hb2 : bs + 98959 ≤ B2) (hQ : LQ A scr n j bc bs Q) : Ok 329 873 [.ref scr, .ref (A 0), .ref (A 22), .ref (A 39), .int (Int32.ofNat (4 * j)), a5, a6] [] h B1 B2 Q := by
  have S0 := S
  obtain ⟨s1, s2, s3, s4⟩ := S
  obtain ⟨k0, k1, k2⟩ := Rl_c R
  have e1 : Int32.ofNat (4 * j) + 1 = Int32.ofNat (4 * j + 1) := n_add (4 * j) 1
  have v1 : vp_in (Int32.ofNat (4 * j + 1)) n := vp_of (by omega) (by omega)
  have e2 : Int32.ofNat (4 * j) + 2 = Int32.ofNat (4 * j + 2) := n_add (4 * j) 2
  have v2 : vp_in (Int32.ofNat (4 * j + 2)) n := vp_of (by omega) (by omega)
  have e3 : Int32.ofNat (4 * j) + 3 = Int32.ofNat (4 * j + 3) := n_add (4 * j) 3
  have v3 : vp_in (Int32.ofNat (4 * j + 3)) n := vp_of (by omega) (by omega)
  have b0 : (1 ≤ B1) = True := eq_true (by omega)
  have b1 : (6 ≤ B2) = True := eq_true (by omega)
  simp only [o329_873, o329_874, o329_875, o329_877, o329_878, o329_879, o329_880, o329_881, mcs_0, true_and, and_self, Nat.zero_le, s1, s2, e1, v1, b0, b1]
  refine Ok_mono _ _ _ _ _ _ _ _ _ (fun r h1 q => ?_) (Ok_low (op_lies R))
  obtain ⟨⟨k, rfl, g1, z⟩, lw⟩ := q
  replace lw := lw s4
  obtain ⟨S1, si⟩ := Scr_Lw S0 lw
  have C1 := Cs_Lw C lw
  obtain ⟨t1, t2, t3, t4⟩ := id S1
  have d0 : (0 ≤ (B1 - 1)) = True := eq_true (by omega)
  have d1 : (0 ≤ (B2 - 6)) = True := eq_true (by omega)
  simp only [o329_884, o329_886, o329_887, o329_888, o329_890, o329_891, o329_892, o329_893, mcs_0, Kn_v, true_and, and_self, Nat.zero_le, t1, t2, g1, si, e1, v1]
  refine Ok_mono _ _ _ _ _ _ _ _ _ (fun r h2 q => ?_) (Ok_low (z))
  obtain ⟨⟨b, rfl, R2, x1, x2⟩, lw2⟩ := q
  have hB0 : A 0 = A 0 := rfl
  have hB1 : A 22 = A 22 := rfl
  have hB2 : A 39 = A 39 := rfl
  replace lw2 := lw2 t4
  have S2 := (Scr_Lw S1 lw2).1
  have C2 := Cs_Lw C1 lw2
  obtain ⟨y0, y1, y2⟩ := Rl_c R2
  by_cases hk : k = 0
  · have x3 := x2 hk
    subst hk
    simp only [o329_896, o329_898, o329_899, o329_902, o329_904, o329_907, o329_908, o329_909, o329_911, o329_914, o329_915, o329_918, o329_920, o329_921, o329_922, o329_925, o329_926, o329_927, o159_0, o159_1, o159_4, mc_pi, mc_pl, mc_pr, mc_pN, mc_pT, mc_pC, mn_pi, mn_pl, mn_pr, mn_pN, mn_pT, mn_pC, mi_pi, mi_pl, mi_pr, mi_pN, mi_pT, mi_pC, ml_pi, ml_pl, ml_pr, ml_pN, ml_pT, ml_pC, mr_pi, mr_pl, mr_pr, mr_pN, mr_pT, mr_pC, mt_pi, mt_pl, mt_pr, mt_pN, mt_pT, mt_pC, mz_pi, mz_pl, mz_pr, mz_pN, mz_pT, mz_pC, ma_pi, ma_pl, ma_pr, ma_pN, ma_pT, ma_pC, mcs_0, mcs_i, mcs_l, mcs_r, mcs_n, csum_rf, Kn_v, Kn_0, Kn_x, mrf_some, kok_0, true_and, and_true, false_and, and_false, true_or, or_true, or_false, false_or, not_true_eq_false, not_false_eq_true, true_implies, false_implies, implies_true, forall_const, if_true, if_false, and_self, Nat.reduceEqDiff, Nat.reduceLeDiff, Nat.reduceSub, Nat.reduceAdd, Nat.zero_le, Nat.le_refl, i10, i01, kz0, kz1, eq_self, lt_le, Classical.not_not, Int32.reduceLT, Int32.reduceAdd, Int32.reduceSub, Int32.reduceMul, cl0, cl1, cl2, cl3, cl4, cl5, cl6, cl7, cl8, cl9, cl10, cl11, cl12, cl13, cl14, cl15, cl16, cl17, cl18, cl19, cl20, cl21, cl22, cl23, cl24, cl25, cl26, cl27, cl28, cl29, cl30, cl31, cl32, cl33, cl34, cl35, cl36, cl37, cl38, cl39, lg_cmp_eq, y1, y2, x1, x3]
    exact Ok_le (hQ A h2 _ _ hB0 hB1 hB2 R2 C2 S2) _ _ (by omega) (by omega)
  · simp only [o329_896, o329_898, o329_899, o329_902, o329_904, o329_907, o329_908, o329_909, o329_911, o329_914, o329_915, o329_918, o329_920, o329_921, o329_922, o329_925, o329_926, o329_927, o159_0, o159_1, o159_4, mc_pi, mc_pl, mc_pr, mc_pN, mc_pT, mc_pC, mn_pi, mn_pl, mn_pr, mn_pN, mn_pT, mn_pC, mi_pi, mi_pl, mi_pr, mi_pN, mi_pT, mi_pC, ml_pi, ml_pl, ml_pr, ml_pN, ml_pT, ml_pC, mr_pi, mr_pl, mr_pr, mr_pN, mr_pT, mr_pC, mt_pi, mt_pl, mt_pr, mt_pN, mt_pT, mt_pC, mz_pi, mz_pl, mz_pr, mz_pN, mz_pT, mz_pC, ma_pi, ma_pl, ma_pr, ma_pN, ma_pT, ma_pC, mcs_0, mcs_i, mcs_l, mcs_r, mcs_n, csum_rf, Kn_v, Kn_0, Kn_x, mrf_some, kok_0, true_and, and_true, false_and, and_false, true_or, or_true, or_false, false_or, not_true_eq_false, not_false_eq_true, true_implies, false_implies, implies_true, forall_const, if_true, if_false, and_self, Nat.reduceEqDiff, Nat.reduceLeDiff, Nat.reduceSub, Nat.reduceAdd, Nat.zero_le, Nat.le_refl, i10, i01, kz0, kz1, eq_self, lt_le, Classical.not_not, Int32.reduceLT, Int32.reduceAdd, Int32.reduceSub, Int32.reduceMul, cl0, cl1, cl2, cl3, cl4, cl5, cl6, cl7, cl8, cl9, cl10, cl11, cl12, cl13, cl14, cl15, cl16, cl17, cl18, cl19, cl20, cl21, cl22, cl23, cl24, cl25, cl26, cl27, cl28, cl29, cl30, cl31, cl32, cl33, cl34, cl35, cl36, cl37, cl38, cl39, lg_cmp_eq, y1, y2, x1, hk]
    exact Ok_le (hQ A h2 _ _ hB0 hB1 hB2 R2 C2 S2) _ _ (by omega) (by omega)
theorem lc_room {scr n j : Nat} {A : Nat → Nat} {h : MH} {a5 a6 : Value} {bc bs B1 B2 : Nat} {Q : MR → MH → Prop} (R : Rl A h) (C : Cs h) (S : Scr scr n h) (hj : 4 * j + 4 ≤ n) (hn : n ≤ 256) (hb1 : bc + 826 ≤ B1) (hb2 : bs + 98959 ≤ B2) (hQ : LQ A scr n j bc bs Q) : Ok 329 930 [.ref scr, .ref (A 0), .ref (A 22), .ref (A 39), .int (Int32.ofNat (4 * j)), a5, a6] [] h B1 B2 Q := by
  have S0 := S
  obtain ⟨s1, s2, s3, s4⟩ := S
  obtain ⟨k0, k1, k2⟩ := Rl_c R
  have e1 : Int32.ofNat (4 * j) + 1 = Int32.ofNat (4 * j + 1) := n_add (4 * j) 1
  have v1 : vp_in (Int32.ofNat (4 * j + 1)) n := vp_of (by omega) (by omega)
  have e2 : Int32.ofNat (4 * j) + 2 = Int32.ofNat (4 * j + 2) := n_add (4 * j) 2
  have v2 : vp_in (Int32.ofNat (4 * j + 2)) n := vp_of (by omega) (by omega)
  have e3 : Int32.ofNat (4 * j) + 3 = Int32.ofNat (4 * j + 3) := n_add (4 * j) 3
  have v3 : vp_in (Int32.ofNat (4 * j + 3)) n := vp_of (by omega) (by omega)
  have b0 : (1 ≤ B1) = True := eq_true (by omega)
  have b1 : (6 ≤ B2) = True := eq_true (by omega)
  simp only [o329_930, o329_931, o329_932, o329_934, o329_935, o329_936, o329_937, o329_938, mcs_0, true_and, and_self, Nat.zero_le, s1, s2, e1, v1, b0, b1]
  refine Ok_mono _ _ _ _ _ _ _ _ _ (fun r h1 q => ?_) (Ok_low (op_room R))
  obtain ⟨⟨k, rfl, g1, z⟩, lw⟩ := q
  replace lw := lw s4
  obtain ⟨S1, si⟩ := Scr_Lw S0 lw
  have C1 := Cs_Lw C lw
  obtain ⟨t1, t2, t3, t4⟩ := id S1
  have d0 : (0 ≤ (B1 - 1)) = True := eq_true (by omega)
  have d1 : (0 ≤ (B2 - 6)) = True := eq_true (by omega)
  simp only [o329_941, o329_943, o329_944, o329_945, o329_947, o329_948, o329_949, o329_950, mcs_0, Kn_v, true_and, and_self, Nat.zero_le, t1, t2, g1, si, e1, v1]
  refine Ok_mono _ _ _ _ _ _ _ _ _ (fun r h2 q => ?_) (Ok_low (z))
  obtain ⟨⟨b, rfl, R2, x1, x2⟩, lw2⟩ := q
  have hB0 : A 0 = A 0 := rfl
  have hB1 : A 22 = A 22 := rfl
  have hB2 : A 39 = A 39 := rfl
  replace lw2 := lw2 t4
  have S2 := (Scr_Lw S1 lw2).1
  have C2 := Cs_Lw C1 lw2
  simp only [o329_953, o329_955, Kn_v]
  exact Ok_le (hQ A h2 _ _ hB0 hB1 hB2 R2 C2 S2) _ _ (by omega) (by omega)
theorem lc_isEmpty {scr n j : Nat} {A : Nat → Nat} {h : MH} {a5 a6 : Value} {bc bs B1 B2 : Nat} {Q : MR → MH → Prop} (R : Rl A h) (C : Cs h) (S : Scr scr n h) (hj : 4 * j + 4 ≤ n) (hn : n ≤ 256) (hb1 : bc + 826 ≤ B1) (hb2 : bs + 98959 ≤ B2) (hQ : LQ A scr n j bc bs Q) : Ok 329 958 [.ref scr, .ref (A 0), .ref (A 22), .ref (A 39), .int (Int32.ofNat (4 * j)), a5, a6] [] h B1 B2 Q := by
  have S0 := S
  obtain ⟨s1, s2, s3, s4⟩ := S
  obtain ⟨k0, k1, k2⟩ := Rl_c R
  have e1 : Int32.ofNat (4 * j) + 1 = Int32.ofNat (4 * j + 1) := n_add (4 * j) 1
  have v1 : vp_in (Int32.ofNat (4 * j + 1)) n := vp_of (by omega) (by omega)
  have e2 : Int32.ofNat (4 * j) + 2 = Int32.ofNat (4 * j + 2) := n_add (4 * j) 2
  have v2 : vp_in (Int32.ofNat (4 * j + 2)) n := vp_of (by omega) (by omega)
  have e3 : Int32.ofNat (4 * j) + 3 = Int32.ofNat (4 * j + 3) := n_add (4 * j) 3
  have v3 : vp_in (Int32.ofNat (4 * j + 3)) n := vp_of (by omega) (by omega)
  have b0 : (1 ≤ B1) = True := eq_true (by omega)
  have b1 : (6 ≤ B2) = True := eq_true (by omega)
  simp only [o329_958, o329_959, o329_960, o329_962, o329_963, o329_964, o329_965, o329_966, mcs_0, true_and, and_self, Nat.zero_le, s1, s2, e1, v1, b0, b1]
  refine Ok_mono _ _ _ _ _ _ _ _ _ (fun r h1 q => ?_) (Ok_low (op_isEmpty R))
  obtain ⟨⟨k, rfl, g1, z⟩, lw⟩ := q
  replace lw := lw s4
  obtain ⟨S1, si⟩ := Scr_Lw S0 lw
  have C1 := Cs_Lw C lw
  obtain ⟨t1, t2, t3, t4⟩ := id S1
  have d0 : (0 ≤ (B1 - 1)) = True := eq_true (by omega)
  have d1 : (0 ≤ (B2 - 6)) = True := eq_true (by omega)
  simp only [o329_969, o329_971, o329_972, o329_973, o329_975, o329_976, o329_977, o329_978, mcs_0, Kn_v, true_and, and_self, Nat.zero_le, t1, t2, g1, si, e1, v1]
  refine Ok_mono _ _ _ _ _ _ _ _ _ (fun r h2 q => ?_) (Ok_low (z))
  obtain ⟨⟨b, rfl, R2, x1, x2⟩, lw2⟩ := q
  have hB0 : A 0 = A 0 := rfl
  have hB1 : A 22 = A 22 := rfl
  have hB2 : A 39 = A 39 := rfl
  replace lw2 := lw2 t4
  have S2 := (Scr_Lw S1 lw2).1
  have C2 := Cs_Lw C1 lw2
  simp only [o329_981, o329_983, Kn_v]
  exact Ok_le (hQ A h2 _ _ hB0 hB1 hB2 R2 C2 S2) _ _ (by omega) (by omega)
theorem lc_isFull {scr n j : Nat} {A : Nat → Nat} {h : MH} {a5 a6 : Value} {bc bs B1 B2 : Nat} {Q : MR → MH → Prop} (R : Rl A h) (C : Cs h) (S : Scr scr n h) (hj : 4 * j + 4 ≤ n) (hn : n ≤ 256) (hb1 : bc + 826 ≤ B1) (hb2 : bs + 98959 ≤ B2) (hQ : LQ A scr n j bc bs Q) : Ok 329 986 [.ref scr, .ref (A 0), .ref (A 22), .ref (A 39), .int (Int32.ofNat (4 * j)), a5, a6] [] h B1 B2 Q := by
  have S0 := S
  obtain ⟨s1, s2, s3, s4⟩ := S
  obtain ⟨k0, k1, k2⟩ := Rl_c R
  have e1 : Int32.ofNat (4 * j) + 1 = Int32.ofNat (4 * j + 1) := n_add (4 * j) 1
  have v1 : vp_in (Int32.ofNat (4 * j + 1)) n := vp_of (by omega) (by omega)
  have e2 : Int32.ofNat (4 * j) + 2 = Int32.ofNat (4 * j + 2) := n_add (4 * j) 2
  have v2 : vp_in (Int32.ofNat (4 * j + 2)) n := vp_of (by omega) (by omega)
  have e3 : Int32.ofNat (4 * j) + 3 = Int32.ofNat (4 * j + 3) := n_add (4 * j) 3
  have v3 : vp_in (Int32.ofNat (4 * j + 3)) n := vp_of (by omega) (by omega)
  have b0 : (1 ≤ B1) = True := eq_true (by omega)
  have b1 : (6 ≤ B2) = True := eq_true (by omega)
  simp only [o329_986, o329_987, o329_988, o329_990, o329_991, o329_992, o329_993, o329_994, mcs_0, true_and, and_self, Nat.zero_le, s1, s2, e1, v1, b0, b1]
  refine Ok_mono _ _ _ _ _ _ _ _ _ (fun r h1 q => ?_) (Ok_low (op_isFull R))
  obtain ⟨⟨k, rfl, g1, z⟩, lw⟩ := q
  replace lw := lw s4
  obtain ⟨S1, si⟩ := Scr_Lw S0 lw
  have C1 := Cs_Lw C lw
  obtain ⟨t1, t2, t3, t4⟩ := id S1
  have d0 : (0 ≤ (B1 - 1)) = True := eq_true (by omega)
  have d1 : (0 ≤ (B2 - 6)) = True := eq_true (by omega)
  simp only [o329_997, o329_999, o329_1000, o329_1001, o329_1003, o329_1004, o329_1005, o329_1006, mcs_0, Kn_v, true_and, and_self, Nat.zero_le, t1, t2, g1, si, e1, v1]
  refine Ok_mono _ _ _ _ _ _ _ _ _ (fun r h2 q => ?_) (Ok_low (z))
  obtain ⟨⟨b, rfl, R2, x1, x2⟩, lw2⟩ := q
  have hB0 : A 0 = A 0 := rfl
  have hB1 : A 22 = A 22 := rfl
  have hB2 : A 39 = A 39 := rfl
  replace lw2 := lw2 t4
  have S2 := (Scr_Lw S1 lw2).1
  have C2 := Cs_Lw C1 lw2
  simp only [o329_1009, o329_1011, Kn_v]
  exact Ok_le (hQ A h2 _ _ hB0 hB1 hB2 R2 C2 S2) _ _ (by omega) (by omega)
theorem lc_place {scr n j : Nat} {A : Nat → Nat} {h : MH} {a5 a6 : Value} {bc bs B1 B2 : Nat} {Q : MR → MH → Prop} (R : Rl A h) (C : Cs h) (S : Scr scr n h) (hj : 4 * j + 4 ≤ n) (hn : n ≤ 256) (hb1 : bc + 826 ≤ B1) (hb2 : bs + 98959 ≤ B2) (hQ : LQ A scr n j bc bs Q) : Ok 329 1014 [.ref scr, .ref (A 0), .ref (A 22), .ref (A 39), .int (Int32.ofNat (4 * j)), a5, a6] [] h B1 B2 Q := by
  have S0 := S
  obtain ⟨s1, s2, s3, s4⟩ := S
  obtain ⟨k0, k1, k2⟩ := Rl_c R
  have e1 : Int32.ofNat (4 * j) + 1 = Int32.ofNat (4 * j + 1) := n_add (4 * j) 1
  have v1 : vp_in (Int32.ofNat (4 * j + 1)) n := vp_of (by omega) (by omega)
  have e2 : Int32.ofNat (4 * j) + 2 = Int32.ofNat (4 * j + 2) := n_add (4 * j) 2
  have v2 : vp_in (Int32.ofNat (4 * j + 2)) n := vp_of (by omega) (by omega)
  have e3 : Int32.ofNat (4 * j) + 3 = Int32.ofNat (4 * j + 3) := n_add (4 * j) 3
  have v3 : vp_in (Int32.ofNat (4 * j + 3)) n := vp_of (by omega) (by omega)
  have b0 : (2 ≤ B1) = True := eq_true (by omega)
  have b1 : (12 ≤ B2) = True := eq_true (by omega)
  simp only [o329_1014, o329_1015, o329_1016, o329_1018, o329_1019, o329_1020, o329_1021, o329_1022, o329_1024, o329_1025, o329_1026, o329_1027, o329_1028, mcs_0, true_and, and_self, Nat.zero_le, s1, s2, e1, v1, e2, v2, b0, b1]
  refine Ok_mono _ _ _ _ _ _ _ _ _ (fun r h1 q => ?_) (Ok_low (op_place R))
  obtain ⟨⟨k, rfl, g1, z⟩, lw⟩ := q
  replace lw := lw s4
  obtain ⟨S1, si⟩ := Scr_Lw S0 lw
  have C1 := Cs_Lw C lw
  obtain ⟨t1, t2, t3, t4⟩ := id S1
  have d0 : (1 ≤ (B1 - 2)) = True := eq_true (by omega)
  have d1 : (7 ≤ (B2 - 12)) = True := eq_true (by omega)
  simp only [o329_1031, o329_1033, o329_1034, o329_1035, o329_1037, o329_1038, o329_1039, o329_1040, o329_1041, o329_1043, o329_1044, o329_1045, o329_1046, mcs_0, Kn_v, true_and, and_self, Nat.zero_le, t1, t2, g1, si, e1, v1, e2, v2, d0, d1]
  refine Ok_mono _ _ _ _ _ _ _ _ _ (fun r h2 q => ?_) (Ok_low (z))
  obtain ⟨⟨b, rfl, R2, x1, x2⟩, lw2⟩ := q
  have hB0 : A 0 = A 0 := rfl
  have hB1 : A 22 = A 22 := rfl
  have hB2 : A 39 = A 39 := rfl
  replace lw2 := lw2 t4
  have S2 := (Scr_Lw S1 lw2).1
  have C2 := Cs_Lw C1 lw2
  simp only [o329_1049, o329_1051, Kn_v]
  exact Ok_le (hQ A h2 _ _ hB0 hB1 hB2 R2 C2 S2) _ _ (by omega) (by omega)
theorem lc_queueText {scr n j : Nat} {A : Nat → Nat} {h : MH} {a5 a6 : Value} {bc bs B1 B2 : Nat} {Q : MR → MH → Prop} (R : Rl A h) (C : Cs h) (S : Scr scr n h) (hj : 4 * j + 4 ≤ n) (hn : n ≤ 256) (hb1 : bc + 826 ≤ B1) (hb2 : bs + 98959 ≤ B2) (hQ : LQ A scr n j bc bs Q) : Ok 329 1054 [.ref scr, .ref (A 0), .ref (A 22), .ref (A 39), .int (Int32.ofNat (4 * j)), a5, a6] [] h B1 B2 Q := by
  have S0 := S
  obtain ⟨s1, s2, s3, s4⟩ := S
  obtain ⟨k0, k1, k2⟩ := Rl_c R
  have e1 : Int32.ofNat (4 * j) + 1 = Int32.ofNat (4 * j + 1) := n_add (4 * j) 1
  have v1 : vp_in (Int32.ofNat (4 * j + 1)) n := vp_of (by omega) (by omega)
  have e2 : Int32.ofNat (4 * j) + 2 = Int32.ofNat (4 * j + 2) := n_add (4 * j) 2
  have v2 : vp_in (Int32.ofNat (4 * j + 2)) n := vp_of (by omega) (by omega)
  have e3 : Int32.ofNat (4 * j) + 3 = Int32.ofNat (4 * j + 3) := n_add (4 * j) 3
  have v3 : vp_in (Int32.ofNat (4 * j + 3)) n := vp_of (by omega) (by omega)
  have b0 : (130 ≤ B1) = True := eq_true (by omega)
  have b1 : (19210 ≤ B2) = True := eq_true (by omega)
  simp only [o329_1054, o329_1055, o329_1056, o329_1058, o329_1059, o329_1060, o329_1061, o329_1062, mcs_0, true_and, and_self, Nat.zero_le, s1, s2, e1, v1, b0, b1]
  refine Ok_mono _ _ _ _ _ _ _ _ _ (fun r h1 q => ?_) (Ok_low (x_queueText R))
  obtain ⟨⟨k, rfl, R1⟩, lw⟩ := q
  have g1 := (Rl_c R1).2.1
  replace lw := lw s4
  obtain ⟨S1, si⟩ := Scr_Lw S0 lw
  have C1 := Cs_Lw C lw
  obtain ⟨t1, t2, t3, t4⟩ := id S1
  have d0 : (16 ≤ (B1 - 130)) = True := eq_true (by omega)
  have d1 : (1974 ≤ (B2 - 19210)) = True := eq_true (by omega)
  simp only [o329_1065, o329_1067, o329_1068, o329_1069, o329_1071, o329_1072, o329_1073, o329_1074, mcs_0, Kn_v, true_and, and_self, Nat.zero_le, t1, t2, g1, si, e1, v1, d0, d1]
  refine Ok_mono _ _ _ _ _ _ _ _ _ (fun r h2 q => ?_) (Ok_low (m_queueText R1 C1))
  obtain ⟨⟨b, rfl, R2⟩, lw2⟩ := q
  have hB0 : A 0 = A 0 := rfl
  have hB1 : A 22 = A 22 := rfl
  have hB2 : A 39 = A 39 := rfl
  replace lw2 := lw2 t4
  have S2 := (Scr_Lw S1 lw2).1
  have C2 := Cs_Lw C1 lw2
  simp only [o329_1077, o329_1079, Kn_v]
  exact Ok_le (hQ A h2 _ _ hB0 hB1 hB2 R2 C2 S2) _ _ (by omega) (by omega)
theorem lc_pour {scr n j : Nat} {A : Nat → Nat} {h : MH} {a5 a6 : Value} {bc bs B1 B2 : Nat} {Q : MR → MH → Prop} (R : Rl A h) (C : Cs h) (S : Scr scr n h) (hj : 4 * j + 4 ≤ n) (hn : n ≤ 256) (hb1 : bc + 826 ≤ B1) (hb2 : bs + 98959 ≤ B2) (hQ : LQ A scr n j bc bs Q) : Ok 329 1082 [.ref scr, .ref (A 0), .ref (A 22), .ref (A 39), .int (Int32.ofNat (4 * j)), a5, a6] [] h B1 B2 Q := by
  have S0 := S
  obtain ⟨s1, s2, s3, s4⟩ := S
  obtain ⟨k0, k1, k2⟩ := Rl_c R
  have e1 : Int32.ofNat (4 * j) + 1 = Int32.ofNat (4 * j + 1) := n_add (4 * j) 1
  have v1 : vp_in (Int32.ofNat (4 * j + 1)) n := vp_of (by omega) (by omega)
  have e2 : Int32.ofNat (4 * j) + 2 = Int32.ofNat (4 * j + 2) := n_add (4 * j) 2
  have v2 : vp_in (Int32.ofNat (4 * j + 2)) n := vp_of (by omega) (by omega)
  have e3 : Int32.ofNat (4 * j) + 3 = Int32.ofNat (4 * j + 3) := n_add (4 * j) 3
  have v3 : vp_in (Int32.ofNat (4 * j + 3)) n := vp_of (by omega) (by omega)
  have b0 : (3 ≤ B1) = True := eq_true (by omega)
  have b1 : (18 ≤ B2) = True := eq_true (by omega)
  simp only [o329_1082, o329_1083, o329_1084, o329_1086, o329_1087, o329_1088, o329_1089, o329_1090, o329_1092, o329_1093, o329_1094, o329_1095, o329_1096, mcs_0, true_and, and_self, Nat.zero_le, s1, s2, e1, v1, e2, v2, b0, b1]
  refine Ok_mono _ _ _ _ _ _ _ _ _ (fun r h1 q => ?_) (Ok_low (op_pour R))
  obtain ⟨⟨k, rfl, g1, z⟩, lw⟩ := q
  replace lw := lw s4
  obtain ⟨S1, si⟩ := Scr_Lw S0 lw
  have C1 := Cs_Lw C lw
  obtain ⟨t1, t2, t3, t4⟩ := id S1
  have d0 : (0 ≤ (B1 - 3)) = True := eq_true (by omega)
  have d1 : (0 ≤ (B2 - 18)) = True := eq_true (by omega)
  simp only [o329_1099, o329_1101, o329_1102, o329_1103, o329_1105, o329_1106, o329_1107, o329_1108, o329_1109, o329_1111, o329_1112, o329_1113, o329_1114, mcs_0, Kn_v, true_and, and_self, Nat.zero_le, t1, t2, g1, si, e1, v1, e2, v2]
  refine Ok_mono _ _ _ _ _ _ _ _ _ (fun r h2 q => ?_) (Ok_low (z))
  obtain ⟨⟨b, rfl, R2, x1, x2⟩, lw2⟩ := q
  have hB0 : A 0 = A 0 := rfl
  have hB1 : A 22 = A 22 := rfl
  have hB2 : A 39 = A 39 := rfl
  replace lw2 := lw2 t4
  have S2 := (Scr_Lw S1 lw2).1
  have C2 := Cs_Lw C1 lw2
  simp only [o329_1117, o329_1119, Kn_v]
  exact Ok_le (hQ A h2 _ _ hB0 hB1 hB2 R2 C2 S2) _ _ (by omega) (by omega)
theorem lc_pourAll {scr n j : Nat} {A : Nat → Nat} {h : MH} {a5 a6 : Value} {bc bs B1 B2 : Nat} {Q : MR → MH → Prop} (R : Rl A h) (C : Cs h) (S : Scr scr n h) (hj : 4 * j + 4 ≤ n) (hn : n ≤ 256) (hb1 : bc + 826 ≤ B1) (hb2 : bs + 98959 ≤ B2) (hQ : LQ A scr n j bc bs Q) : Ok 329 1122 [.ref scr, .ref (A 0), .ref (A 22), .ref (A 39), .int (Int32.ofNat (4 * j)), a5, a6] [] h B1 B2 Q := by
  have S0 := S
  obtain ⟨s1, s2, s3, s4⟩ := S
  obtain ⟨k0, k1, k2⟩ := Rl_c R
  have e1 : Int32.ofNat (4 * j) + 1 = Int32.ofNat (4 * j + 1) := n_add (4 * j) 1
  have v1 : vp_in (Int32.ofNat (4 * j + 1)) n := vp_of (by omega) (by omega)
  have e2 : Int32.ofNat (4 * j) + 2 = Int32.ofNat (4 * j + 2) := n_add (4 * j) 2
  have v2 : vp_in (Int32.ofNat (4 * j + 2)) n := vp_of (by omega) (by omega)
  have e3 : Int32.ofNat (4 * j) + 3 = Int32.ofNat (4 * j + 3) := n_add (4 * j) 3
  have v3 : vp_in (Int32.ofNat (4 * j + 3)) n := vp_of (by omega) (by omega)
  have b0 : (3 ≤ B1) = True := eq_true (by omega)
  have b1 : (18 ≤ B2) = True := eq_true (by omega)
  simp only [o329_1122, o329_1123, o329_1124, o329_1126, o329_1127, o329_1128, o329_1129, o329_1130, o329_1132, o329_1133, o329_1134, o329_1135, o329_1136, mcs_0, true_and, and_self, Nat.zero_le, s1, s2, e1, v1, e2, v2, b0, b1]
  refine Ok_mono _ _ _ _ _ _ _ _ _ (fun r h1 q => ?_) (Ok_low (op_pourAll R))
  obtain ⟨⟨k, rfl, g1, z⟩, lw⟩ := q
  replace lw := lw s4
  obtain ⟨S1, si⟩ := Scr_Lw S0 lw
  have C1 := Cs_Lw C lw
  obtain ⟨t1, t2, t3, t4⟩ := id S1
  have d0 : (0 ≤ (B1 - 3)) = True := eq_true (by omega)
  have d1 : (0 ≤ (B2 - 18)) = True := eq_true (by omega)
  simp only [o329_1139, o329_1141, o329_1142, o329_1143, o329_1145, o329_1146, o329_1147, o329_1148, o329_1149, o329_1151, o329_1152, o329_1153, o329_1154, mcs_0, Kn_v, true_and, and_self, Nat.zero_le, t1, t2, g1, si, e1, v1, e2, v2]
  refine Ok_mono _ _ _ _ _ _ _ _ _ (fun r h2 q => ?_) (Ok_low (z))
  obtain ⟨⟨b, rfl, R2, x1, x2⟩, lw2⟩ := q
  have hB0 : A 0 = A 0 := rfl
  have hB1 : A 22 = A 22 := rfl
  have hB2 : A 39 = A 39 := rfl
  replace lw2 := lw2 t4
  have S2 := (Scr_Lw S1 lw2).1
  have C2 := Cs_Lw C1 lw2
  simp only [o329_1157, o329_1159, Kn_v]
  exact Ok_le (hQ A h2 _ _ hB0 hB1 hB2 R2 C2 S2) _ _ (by omega) (by omega)
theorem lc_draw {scr n j : Nat} {A : Nat → Nat} {h : MH} {a5 a6 : Value} {bc bs B1 B2 : Nat} {Q : MR → MH → Prop} (R : Rl A h) (C : Cs h) (S : Scr scr n h) (hj : 4 * j + 4 ≤ n) (hn : n ≤ 256) (hb1 : bc + 826 ≤ B1) (hb2 : bs + 98959 ≤ B2) (hQ : LQ A scr n j bc bs Q) : Ok 329 1162 [.ref scr, .ref (A 0), .ref (A 22), .ref (A 39), .int (Int32.ofNat (4 * j)), a5, a6] [] h B1 B2 Q := by
  have S0 := S
  obtain ⟨s1, s2, s3, s4⟩ := S
  obtain ⟨k0, k1, k2⟩ := Rl_c R
  have e1 : Int32.ofNat (4 * j) + 1 = Int32.ofNat (4 * j + 1) := n_add (4 * j) 1
  have v1 : vp_in (Int32.ofNat (4 * j + 1)) n := vp_of (by omega) (by omega)
  have e2 : Int32.ofNat (4 * j) + 2 = Int32.ofNat (4 * j + 2) := n_add (4 * j) 2
  have v2 : vp_in (Int32.ofNat (4 * j + 2)) n := vp_of (by omega) (by omega)
  have e3 : Int32.ofNat (4 * j) + 3 = Int32.ofNat (4 * j + 3) := n_add (4 * j) 3
  have v3 : vp_in (Int32.ofNat (4 * j + 3)) n := vp_of (by omega) (by omega)
  have b0 : (1 ≤ B1) = True := eq_true (by omega)
  have b1 : (6 ≤ B2) = True := eq_true (by omega)
  simp only [o329_1162, o329_1163, o329_1164, mcs_0, true_and, Nat.zero_le, b0, b1]
  refine Ok_mono _ _ _ _ _ _ _ _ _ (fun r h1 q => ?_) (Ok_low (op_draw R))
  obtain ⟨⟨k, rfl, g1, z⟩, lw⟩ := q
  replace lw := lw s4
  obtain ⟨S1, si⟩ := Scr_Lw S0 lw
  have C1 := Cs_Lw C lw
  obtain ⟨t1, t2, t3, t4⟩ := id S1
  have d0 : (0 ≤ (B1 - 1)) = True := eq_true (by omega)
  have d1 : (0 ≤ (B2 - 6)) = True := eq_true (by omega)
  simp only [o329_1167, o329_1169, o329_1170, mcs_0, Kn_v, true_and, Nat.zero_le, g1]
  refine Ok_mono _ _ _ _ _ _ _ _ _ (fun r h2 q => ?_) (Ok_low (z))
  obtain ⟨⟨b, rfl, R2, x1, x2⟩, lw2⟩ := q
  have hB0 : A 0 = A 0 := rfl
  have hB1 : A 22 = A 22 := rfl
  have hB2 : A 39 = A 39 := rfl
  replace lw2 := lw2 t4
  have S2 := (Scr_Lw S1 lw2).1
  have C2 := Cs_Lw C1 lw2
  simp only [o329_1173, o329_1175, Kn_v]
  exact Ok_le (hQ A h2 _ _ hB0 hB1 hB2 R2 C2 S2) _ _ (by omega) (by omega)

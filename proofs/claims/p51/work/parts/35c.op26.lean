section
set_option maxRecDepth 16384
theorem lc_drawAll {scr n j : Nat} {A : Nat → Nat} {h : MH} {a5 a6 : Value} {bc bs B1 B2 : Nat} {Q : MR → MH → Prop} (R : Rl A h) (C : Cs h) (S : Scr scr n h) (hj : 4 * j + 4 ≤ n) (hn : n ≤ 256) (hb1 : bc + 826 ≤ B1) (hb2 : bs + 98959 ≤ B2) (hQ : LQ A scr n j bc bs Q) : Ok 328 1149 [.ref scr, .ref (A 0), .ref (A 22), .ref (A 39), .int (Int32.ofNat (4 * j)), a5, a6] [] h B1 B2 Q := by
  have S0 := S
  obtain ⟨s1, s2, s3, s4⟩ := S
  obtain ⟨k0, k1, k2⟩ := Rl_c R
  have e1 : Int32.ofNat (4 * j) + 1 = Int32.ofNat (4 * j + 1) := n_add (4 * j) 1
  have v1 : vp_in (Int32.ofNat (4 * j + 1)) n := vp_of (by omega) (by omega)
  have e2 : Int32.ofNat (4 * j) + 2 = Int32.ofNat (4 * j + 2) := n_add (4 * j) 2
  have v2 : vp_in (Int32.ofNat (4 * j + 2)) n := vp_of (by omega) (by omega)
  have e3 : Int32.ofNat (4 * j) + 3 = Int32.ofNat (4 * j + 3) := n_add (4 * j) 3
  have v3 : vp_in (Int32.ofNat (4 * j + 3)) n := vp_of (by omega) (by omega)
  have b0 : (2 ≤ B1) = True := eq_true (by omega)
  have b1 : (12 ≤ B2) = True := eq_true (by omega)
  simp only [o328_1149, o328_1150, o328_1151, o328_1153, o328_1154, o328_1155, o328_1156, o328_1157, mcs_0, true_and, and_self, Nat.zero_le, s1, s2, e1, v1, b0, b1]
  refine Ok_mono _ _ _ _ _ _ _ _ _ (fun r h1 q => ?_) (Ok_low (op_drawAll R))
  obtain ⟨⟨k, rfl, g1, z⟩, lw⟩ := q
  replace lw := lw s4
  obtain ⟨S1, si⟩ := Scr_Lw S0 lw
  have C1 := Cs_Lw C lw
  obtain ⟨t1, t2, t3, t4⟩ := id S1
  have d0 : (0 ≤ (B1 - 2)) = True := eq_true (by omega)
  have d1 : (0 ≤ (B2 - 12)) = True := eq_true (by omega)
  simp only [o328_1160, o328_1162, o328_1163, o328_1164, o328_1166, o328_1167, o328_1168, o328_1169, mcs_0, Kn_v, true_and, and_self, Nat.zero_le, t1, t2, g1, si, e1, v1]
  refine Ok_mono _ _ _ _ _ _ _ _ _ (fun r h2 q => ?_) (Ok_low (z))
  obtain ⟨⟨b, rfl, R2, x1, x2⟩, lw2⟩ := q
  have hB0 : A 0 = A 0 := rfl
  have hB1 : A 22 = A 22 := rfl
  have hB2 : A 39 = A 39 := rfl
  replace lw2 := lw2 t4
  have S2 := (Scr_Lw S1 lw2).1
  have C2 := Cs_Lw C1 lw2
  simp only [o328_1172, o328_1174, Kn_v]
  exact Ok_le (hQ A h2 _ _ hB0 hB1 hB2 R2 C2 S2) _ _ (by omega) (by omega)
theorem lc_turn {scr n j : Nat} {A : Nat → Nat} {h : MH} {a5 a6 : Value} {bc bs B1 B2 : Nat} {Q : MR → MH → Prop} (R : Rl A h) (C : Cs h) (S : Scr scr n h) (hj : 4 * j + 4 ≤ n) (hn : n ≤ 256) (hb1 : bc + 826 ≤ B1) (hb2 : bs + 98959 ≤ B2) (hQ : LQ A scr n j bc bs Q) : Ok 328 1177 [.ref scr, .ref (A 0), .ref (A 22), .ref (A 39), .int (Int32.ofNat (4 * j)), a5, a6] [] h B1 B2 Q := by
  have S0 := S
  obtain ⟨s1, s2, s3, s4⟩ := S
  obtain ⟨k0, k1, k2⟩ := Rl_c R
  have e1 : Int32.ofNat (4 * j) + 1 = Int32.ofNat (4 * j + 1) := n_add (4 * j) 1
  have v1 : vp_in (Int32.ofNat (4 * j + 1)) n := vp_of (by omega) (by omega)
  have e2 : Int32.ofNat (4 * j) + 2 = Int32.ofNat (4 * j + 2) := n_add (4 * j) 2
  have v2 : vp_in (Int32.ofNat (4 * j + 2)) n := vp_of (by omega) (by omega)
  have e3 : Int32.ofNat (4 * j) + 3 = Int32.ofNat (4 * j + 3) := n_add (4 * j) 3
  have v3 : vp_in (Int32.ofNat (4 * j + 3)) n := vp_of (by omega) (by omega)
  have b0 : (0 ≤ B1) = True := eq_true (by omega)
  have b1 : (0 ≤ B2) = True := eq_true (by omega)
  simp only [o328_1177, o328_1178, mcs_0, true_and, Nat.zero_le, k0]
  refine Ok_mono _ _ _ _ _ _ _ _ _ (fun r h1 q => ?_) (Ok_low (op_turn R))
  obtain ⟨⟨k, rfl, g1, z⟩, lw⟩ := q
  replace lw := lw s4
  obtain ⟨S1, si⟩ := Scr_Lw S0 lw
  have C1 := Cs_Lw C lw
  obtain ⟨t1, t2, t3, t4⟩ := id S1
  have d0 : (0 ≤ B1) = True := eq_true (by omega)
  have d1 : (0 ≤ B2) = True := eq_true (by omega)
  simp only [o328_1181, o328_1182, o328_1183, mcs_0, Kn_v, true_and, Nat.zero_le, g1]
  refine Ok_mono _ _ _ _ _ _ _ _ _ (fun r h2 q => ?_) (Ok_low (z))
  obtain ⟨⟨b, rfl, R2, x1, x2⟩, lw2⟩ := q
  subst x2
  have hB0 : A 0 = A 0 := rfl
  have hB1 : A 22 = A 22 := rfl
  have hB2 : A 39 = A 39 := rfl
  replace lw2 := lw2 t4
  have S2 := (Scr_Lw S1 lw2).1
  have C2 := Cs_Lw C1 lw2
  simp only [o328_1186, o328_1187, Kn_v]
  exact Ok_le (hQ A h2 _ _ hB0 hB1 hB2 R2 C2 S2) _ _ (by omega) (by omega)
theorem lc_again {scr n j : Nat} {A : Nat → Nat} {h : MH} {a5 a6 : Value} {bc bs B1 B2 : Nat} {Q : MR → MH → Prop} (R : Rl A h) (C : Cs h) (S : Scr scr n h) (hj : 4 * j + 4 ≤ n) (hn : n ≤ 256) (hb1 : bc + 826 ≤ B1) (hb2 : bs + 98959 ≤ B2) (hQ : LQ A scr n j bc bs Q) : Ok 328 1190 [.ref scr, .ref (A 0), .ref (A 22), .ref (A 39), .int (Int32.ofNat (4 * j)), a5, a6] [] h B1 B2 Q := by
  have S0 := S
  obtain ⟨s1, s2, s3, s4⟩ := S
  obtain ⟨k0, k1, k2⟩ := Rl_c R
  have e1 : Int32.ofNat (4 * j) + 1 = Int32.ofNat (4 * j + 1) := n_add (4 * j) 1
  have v1 : vp_in (Int32.ofNat (4 * j + 1)) n := vp_of (by omega) (by omega)
  have e2 : Int32.ofNat (4 * j) + 2 = Int32.ofNat (4 * j + 2) := n_add (4 * j) 2
  have v2 : vp_in (Int32.ofNat (4 * j + 2)) n := vp_of (by omega) (by omega)
  have e3 : Int32.ofNat (4 * j) + 3 = Int32.ofNat (4 * j + 3) := n_add (4 * j) 3
  have v3 : vp_in (Int32.ofNat (4 * j + 3)) n := vp_of (by omega) (by omega)
  have b0 : (0 ≤ B1) = True := eq_true (by omega)
  have b1 : (0 ≤ B2) = True := eq_true (by omega)
  simp only [o328_1190, o328_1191, mcs_0, true_and, Nat.zero_le, k0]
  refine Ok_mono _ _ _ _ _ _ _ _ _ (fun r h1 q => ?_) (Ok_low (op_again R))
  obtain ⟨⟨k, rfl, g1, z⟩, lw⟩ := q
  replace lw := lw s4
  obtain ⟨S1, si⟩ := Scr_Lw S0 lw
  have C1 := Cs_Lw C lw
  obtain ⟨t1, t2, t3, t4⟩ := id S1
  have d0 : (0 ≤ B1) = True := eq_true (by omega)
  have d1 : (0 ≤ B2) = True := eq_true (by omega)
  simp only [o328_1194, o328_1195, o328_1196, mcs_0, Kn_v, true_and, Nat.zero_le, g1]
  refine Ok_mono _ _ _ _ _ _ _ _ _ (fun r h2 q => ?_) (Ok_low (z))
  obtain ⟨⟨b, rfl, R2, x1, x2⟩, lw2⟩ := q
  subst x2
  have hB0 : A 0 = A 0 := rfl
  have hB1 : A 22 = A 22 := rfl
  have hB2 : A 39 = A 39 := rfl
  replace lw2 := lw2 t4
  have S2 := (Scr_Lw S1 lw2).1
  have C2 := Cs_Lw C1 lw2
  simp only [o328_1199, o328_1200, Kn_v]
  exact Ok_le (hQ A h2 _ _ hB0 hB1 hB2 R2 C2 S2) _ _ (by omega) (by omega)
theorem lc_pipeMark {scr n j : Nat} {A : Nat → Nat} {h : MH} {a5 a6 : Value} {bc bs B1 B2 : Nat} {Q : MR → MH → Prop} (R : Rl A h) (C : Cs h) (S : Scr scr n h) (hj : 4 * j + 4 ≤ n) (hn : n ≤ 256) (hb1 : bc + 826 ≤ B1) (hb2 : bs + 98959 ≤ B2) (hQ : LQ A scr n j bc bs Q) : Ok 328 1203 [.ref scr, .ref (A 0), .ref (A 22), .ref (A 39), .int (Int32.ofNat (4 * j)), a5, a6] [] h B1 B2 Q := by
  have S0 := S
  obtain ⟨s1, s2, s3, s4⟩ := S
  obtain ⟨k0, k1, k2⟩ := Rl_c R
  have e1 : Int32.ofNat (4 * j) + 1 = Int32.ofNat (4 * j + 1) := n_add (4 * j) 1
  have v1 : vp_in (Int32.ofNat (4 * j + 1)) n := vp_of (by omega) (by omega)
  have e2 : Int32.ofNat (4 * j) + 2 = Int32.ofNat (4 * j + 2) := n_add (4 * j) 2
  have v2 : vp_in (Int32.ofNat (4 * j + 2)) n := vp_of (by omega) (by omega)
  have e3 : Int32.ofNat (4 * j) + 3 = Int32.ofNat (4 * j + 3) := n_add (4 * j) 3
  have v3 : vp_in (Int32.ofNat (4 * j + 3)) n := vp_of (by omega) (by omega)
  have b0 : (0 ≤ B1) = True := eq_true (by omega)
  have b1 : (0 ≤ B2) = True := eq_true (by omega)
  simp only [o328_1203, o328_1204, mcs_0, true_and, Nat.zero_le, k0]
  refine Ok_mono _ _ _ _ _ _ _ _ _ (fun r h1 q => ?_) (Ok_low (op_pipeMark R))
  obtain ⟨⟨k, rfl, g1, z⟩, lw⟩ := q
  replace lw := lw s4
  obtain ⟨S1, si⟩ := Scr_Lw S0 lw
  have C1 := Cs_Lw C lw
  obtain ⟨t1, t2, t3, t4⟩ := id S1
  have d0 : (0 ≤ B1) = True := eq_true (by omega)
  have d1 : (0 ≤ B2) = True := eq_true (by omega)
  simp only [o328_1207, o328_1208, o328_1209, mcs_0, Kn_v, true_and, Nat.zero_le, g1]
  refine Ok_mono _ _ _ _ _ _ _ _ _ (fun r h2 q => ?_) (Ok_low (z))
  obtain ⟨⟨b, rfl, R2, x1, x2⟩, lw2⟩ := q
  subst x2
  have hB0 : A 0 = A 0 := rfl
  have hB1 : A 22 = A 22 := rfl
  have hB2 : A 39 = A 39 := rfl
  replace lw2 := lw2 t4
  have S2 := (Scr_Lw S1 lw2).1
  have C2 := Cs_Lw C1 lw2
  simp only [o328_1212, o328_1213, Kn_v]
  exact Ok_le (hQ A h2 _ _ hB0 hB1 hB2 R2 C2 S2) _ _ (by omega) (by omega)
theorem lc_pipeBack {scr n j : Nat} {A : Nat → Nat} {h : MH} {a5 a6 : Value} {bc bs B1 B2 : Nat} {Q : MR → MH → Prop} (R : Rl A h) (C : Cs h) (S : Scr scr n h) (hj : 4 * j + 4 ≤ n) (hn : n ≤ 256) (hb1 : bc + 826 ≤ B1) (hb2 : bs + 98959 ≤ B2) (hQ : LQ A scr n j bc bs Q) : Ok 328 1216 [.ref scr, .ref (A 0), .ref (A 22), .ref (A 39), .int (Int32.ofNat (4 * j)), a5, a6] [] h B1 B2 Q := by
  have S0 := S
  obtain ⟨s1, s2, s3, s4⟩ := S
  obtain ⟨k0, k1, k2⟩ := Rl_c R
  have e1 : Int32.ofNat (4 * j) + 1 = Int32.ofNat (4 * j + 1) := n_add (4 * j) 1
  have v1 : vp_in (Int32.ofNat (4 * j + 1)) n := vp_of (by omega) (by omega)
  have e2 : Int32.ofNat (4 * j) + 2 = Int32.ofNat (4 * j + 2) := n_add (4 * j) 2
  have v2 : vp_in (Int32.ofNat (4 * j + 2)) n := vp_of (by omega) (by omega)
  have e3 : Int32.ofNat (4 * j) + 3 = Int32.ofNat (4 * j + 3) := n_add (4 * j) 3
  have v3 : vp_in (Int32.ofNat (4 * j + 3)) n := vp_of (by omega) (by omega)
  have b0 : (0 ≤ B1) = True := eq_true (by omega)
  have b1 : (0 ≤ B2) = True := eq_true (by omega)
  simp only [o328_1216, o328_1217, mcs_0, true_and, Nat.zero_le, k0]
  refine Ok_mono _ _ _ _ _ _ _ _ _ (fun r h1 q => ?_) (Ok_low (op_pipeBack R))
  obtain ⟨⟨k, rfl, g1, z⟩, lw⟩ := q
  replace lw := lw s4
  obtain ⟨S1, si⟩ := Scr_Lw S0 lw
  have C1 := Cs_Lw C lw
  obtain ⟨t1, t2, t3, t4⟩ := id S1
  have d0 : (0 ≤ B1) = True := eq_true (by omega)
  have d1 : (0 ≤ B2) = True := eq_true (by omega)
  simp only [o328_1220, o328_1221, o328_1222, mcs_0, Kn_v, true_and, Nat.zero_le, g1]
  refine Ok_mono _ _ _ _ _ _ _ _ _ (fun r h2 q => ?_) (Ok_low (z))
  obtain ⟨⟨b, rfl, R2, x1, x2⟩, lw2⟩ := q
  subst x2
  have hB0 : A 0 = A 0 := rfl
  have hB1 : A 22 = A 22 := rfl
  have hB2 : A 39 = A 39 := rfl
  replace lw2 := lw2 t4
  have S2 := (Scr_Lw S1 lw2).1
  have C2 := Cs_Lw C1 lw2
  simp only [o328_1225, o328_1226, Kn_v]
  exact Ok_le (hQ A h2 _ _ hB0 hB1 hB2 R2 C2 S2) _ _ (by omega) (by omega)
theorem lc_pipe {scr n j : Nat} {A : Nat → Nat} {h : MH} {a5 a6 : Value} {bc bs B1 B2 : Nat} {Q : MR → MH → Prop} (R : Rl A h) (C : Cs h) (S : Scr scr n h) (hj : 4 * j + 4 ≤ n) (hn : n ≤ 256) (hb1 : bc + 826 ≤ B1) (hb2 : bs + 98959 ≤ B2) (hQ : LQ A scr n j bc bs Q) : Ok 328 1229 [.ref scr, .ref (A 0), .ref (A 22), .ref (A 39), .int (Int32.ofNat (4 * j)), a5, a6] [] h B1 B2 Q := by
  have S0 := S
  obtain ⟨s1, s2, s3, s4⟩ := S
  obtain ⟨k0, k1, k2⟩ := Rl_c R
  have e1 : Int32.ofNat (4 * j) + 1 = Int32.ofNat (4 * j + 1) := n_add (4 * j) 1
  have v1 : vp_in (Int32.ofNat (4 * j + 1)) n := vp_of (by omega) (by omega)
  have e2 : Int32.ofNat (4 * j) + 2 = Int32.ofNat (4 * j + 2) := n_add (4 * j) 2
  have v2 : vp_in (Int32.ofNat (4 * j + 2)) n := vp_of (by omega) (by omega)
  have e3 : Int32.ofNat (4 * j) + 3 = Int32.ofNat (4 * j + 3) := n_add (4 * j) 3
  have v3 : vp_in (Int32.ofNat (4 * j + 3)) n := vp_of (by omega) (by omega)
  have b0 : (1 ≤ B1) = True := eq_true (by omega)
  have b1 : (6 ≤ B2) = True := eq_true (by omega)
  simp only [o328_1229, o328_1230, o328_1231, o328_1233, o328_1234, o328_1235, o328_1236, o328_1237, mcs_0, true_and, and_self, Nat.zero_le, s1, s2, e1, v1, b0, b1]
  refine Ok_mono _ _ _ _ _ _ _ _ _ (fun r h1 q => ?_) (Ok_low (op_pipe R))
  obtain ⟨⟨k, rfl, g1, z⟩, lw⟩ := q
  replace lw := lw s4
  obtain ⟨S1, si⟩ := Scr_Lw S0 lw
  have C1 := Cs_Lw C lw
  obtain ⟨t1, t2, t3, t4⟩ := id S1
  have d0 : (1 ≤ (B1 - 1)) = True := eq_true (by omega)
  have d1 : (8 ≤ (B2 - 6)) = True := eq_true (by omega)
  simp only [o328_1240, o328_1242, o328_1243, o328_1244, o328_1246, o328_1247, o328_1248, o328_1249, mcs_0, Kn_v, true_and, and_self, Nat.zero_le, t1, t2, g1, si, e1, v1, d0, d1]
  refine Ok_mono _ _ _ _ _ _ _ _ _ (fun r h2 q => ?_) (Ok_low (z))
  obtain ⟨⟨b, rfl, R2, x1, x2⟩, lw2⟩ := q
  have hB0 : A 0 = A 0 := rfl
  have hB1 : A 22 = A 22 := rfl
  have hB2 : A 39 = A 39 := rfl
  replace lw2 := lw2 t4
  have S2 := (Scr_Lw S1 lw2).1
  have C2 := Cs_Lw C1 lw2
  simp only [o328_1252, o328_1254, Kn_v]
  exact Ok_le (hQ A h2 _ _ hB0 hB1 hB2 R2 C2 S2) _ _ (by omega) (by omega)
theorem lc_pipeText {scr n j : Nat} {A : Nat → Nat} {h : MH} {a5 a6 : Value} {bc bs B1 B2 : Nat} {Q : MR → MH → Prop} (R : Rl A h) (C : Cs h) (S : Scr scr n h) (hj : 4 * j + 4 ≤ n) (hn : n ≤ 256) (hb1 : bc + 826 ≤ B1) (hb2 : bs + 98959 ≤ B2) (hQ : LQ A scr n j bc bs Q) : Ok 328 1257 [.ref scr, .ref (A 0), .ref (A 22), .ref (A 39), .int (Int32.ofNat (4 * j)), a5, a6] [] h B1 B2 Q := by
  have S0 := S
  obtain ⟨s1, s2, s3, s4⟩ := S
  obtain ⟨k0, k1, k2⟩ := Rl_c R
  have e1 : Int32.ofNat (4 * j) + 1 = Int32.ofNat (4 * j + 1) := n_add (4 * j) 1
  have v1 : vp_in (Int32.ofNat (4 * j + 1)) n := vp_of (by omega) (by omega)
  have e2 : Int32.ofNat (4 * j) + 2 = Int32.ofNat (4 * j + 2) := n_add (4 * j) 2
  have v2 : vp_in (Int32.ofNat (4 * j + 2)) n := vp_of (by omega) (by omega)
  have e3 : Int32.ofNat (4 * j) + 3 = Int32.ofNat (4 * j + 3) := n_add (4 * j) 3
  have v3 : vp_in (Int32.ofNat (4 * j + 3)) n := vp_of (by omega) (by omega)
  have b0 : (213 ≤ B1) = True := eq_true (by omega)
  have b1 : (31804 ≤ B2) = True := eq_true (by omega)
  simp only [o328_1257, o328_1258, mcs_0, true_and, Nat.zero_le, k0, b0, b1]
  refine Ok_mono _ _ _ _ _ _ _ _ _ (fun r h1 q => ?_) (Ok_low (x_pipeText R))
  obtain ⟨⟨k, rfl, R1⟩, lw⟩ := q
  have g1 := (Rl_c R1).2.1
  replace lw := lw s4
  obtain ⟨S1, si⟩ := Scr_Lw S0 lw
  have C1 := Cs_Lw C lw
  obtain ⟨t1, t2, t3, t4⟩ := id S1
  have d0 : (24 ≤ (B1 - 213)) = True := eq_true (by omega)
  have d1 : (3174 ≤ (B2 - 31804)) = True := eq_true (by omega)
  simp only [o328_1261, o328_1262, o328_1263, mcs_0, Kn_v, true_and, Nat.zero_le, g1, d0, d1]
  refine Ok_mono _ _ _ _ _ _ _ _ _ (fun r h2 q => ?_) (Ok_low (m_pipeText R1 C1))
  obtain ⟨⟨b, rfl, R2⟩, lw2⟩ := q
  have hB0 : A 0 = A 0 := rfl
  have hB1 : A 22 = A 22 := rfl
  have hB2 : A 39 = A 39 := rfl
  replace lw2 := lw2 t4
  have S2 := (Scr_Lw S1 lw2).1
  have C2 := Cs_Lw C1 lw2
  simp only [o328_1266, o328_1267, Kn_v]
  exact Ok_le (hQ A h2 _ _ hB0 hB1 hB2 R2 C2 S2) _ _ (by omega) (by omega)
theorem lc_lensPlace {scr n j : Nat} {A : Nat → Nat} {h : MH} {a5 a6 : Value} {bc bs B1 B2 : Nat} {Q : MR → MH → Prop} (R : Rl A h) (C : Cs h) (S : Scr scr n h) (hj : 4 * j + 4 ≤ n) (hn : n ≤ 256) (hb1 : bc + 826 ≤ B1) (hb2 : bs + 98959 ≤ B2) (hQ : LQ A scr n j bc bs Q) : Ok 328 1270 [.ref scr, .ref (A 0), .ref (A 22), .ref (A 39), .int (Int32.ofNat (4 * j)), a5, a6] [] h B1 B2 Q := by
  have S0 := S
  obtain ⟨s1, s2, s3, s4⟩ := S
  obtain ⟨k0, k1, k2⟩ := Rl_c R
  have e1 : Int32.ofNat (4 * j) + 1 = Int32.ofNat (4 * j + 1) := n_add (4 * j) 1
  have v1 : vp_in (Int32.ofNat (4 * j + 1)) n := vp_of (by omega) (by omega)
  have e2 : Int32.ofNat (4 * j) + 2 = Int32.ofNat (4 * j + 2) := n_add (4 * j) 2
  have v2 : vp_in (Int32.ofNat (4 * j + 2)) n := vp_of (by omega) (by omega)
  have e3 : Int32.ofNat (4 * j) + 3 = Int32.ofNat (4 * j + 3) := n_add (4 * j) 3
  have v3 : vp_in (Int32.ofNat (4 * j + 3)) n := vp_of (by omega) (by omega)
  have b0 : (1 ≤ B1) = True := eq_true (by omega)
  have b1 : (6 ≤ B2) = True := eq_true (by omega)
  simp only [o328_1270, o328_1271, o328_1272, o328_1274, o328_1275, o328_1276, o328_1277, o328_1278, o328_1280, o328_1281, o328_1282, o328_1283, o328_1284, mcs_0, true_and, and_self, Nat.zero_le, s1, s2, e1, v1, e2, v2, b0, b1]
  refine Ok_mono _ _ _ _ _ _ _ _ _ (fun r h1 q => ?_) (Ok_low (op_lensPlace R))
  obtain ⟨⟨k, rfl, g1, z⟩, lw⟩ := q
  replace lw := lw s4
  obtain ⟨S1, si⟩ := Scr_Lw S0 lw
  have C1 := Cs_Lw C lw
  obtain ⟨t1, t2, t3, t4⟩ := id S1
  have d0 : (0 ≤ (B1 - 1)) = True := eq_true (by omega)
  have d1 : (0 ≤ (B2 - 6)) = True := eq_true (by omega)
  simp only [o328_1287, o328_1289, o328_1290, o328_1291, o328_1293, o328_1294, o328_1295, o328_1296, o328_1297, o328_1299, o328_1300, o328_1301, o328_1302, mcs_0, Kn_v, true_and, and_self, Nat.zero_le, t1, t2, g1, si, e1, v1, e2, v2]
  refine Ok_mono _ _ _ _ _ _ _ _ _ (fun r h2 q => ?_) (Ok_low (z))
  obtain ⟨⟨b, rfl, R2, x1, x2⟩, lw2⟩ := q
  have hB0 : A 0 = A 0 := rfl
  have hB1 : A 22 = A 22 := rfl
  have hB2 : A 39 = A 39 := rfl
  replace lw2 := lw2 t4
  have S2 := (Scr_Lw S1 lw2).1
  have C2 := Cs_Lw C1 lw2
  simp only [o328_1305, o328_1307, Kn_v]
  exact Ok_le (hQ A h2 _ _ hB0 hB1 hB2 R2 C2 S2) _ _ (by omega) (by omega)
theorem lc_lensLimit {scr n j : Nat} {A : Nat → Nat} {h : MH} {a5 a6 : Value} {bc bs B1 B2 : Nat} {Q : MR → MH → Prop} (R : Rl A h) (C : Cs h) (S : Scr scr n h) (hj : 4 * j + 4 ≤ n) (hn : n ≤ 256) (hb1 : bc + 826 ≤ B1) (hb2 : bs + 98959 ≤ B2) (hQ : LQ A scr n j bc bs Q) : Ok 328 1310 [.ref scr, .ref (A 0), .ref (A 22), .ref (A 39), .int (Int32.ofNat (4 * j)), a5, a6] [] h B1 B2 Q := by
  have S0 := S
  obtain ⟨s1, s2, s3, s4⟩ := S
  obtain ⟨k0, k1, k2⟩ := Rl_c R
  have e1 : Int32.ofNat (4 * j) + 1 = Int32.ofNat (4 * j + 1) := n_add (4 * j) 1
  have v1 : vp_in (Int32.ofNat (4 * j + 1)) n := vp_of (by omega) (by omega)
  have e2 : Int32.ofNat (4 * j) + 2 = Int32.ofNat (4 * j + 2) := n_add (4 * j) 2
  have v2 : vp_in (Int32.ofNat (4 * j + 2)) n := vp_of (by omega) (by omega)
  have e3 : Int32.ofNat (4 * j) + 3 = Int32.ofNat (4 * j + 3) := n_add (4 * j) 3
  have v3 : vp_in (Int32.ofNat (4 * j + 3)) n := vp_of (by omega) (by omega)
  have b0 : (1 ≤ B1) = True := eq_true (by omega)
  have b1 : (6 ≤ B2) = True := eq_true (by omega)
  simp only [o328_1310, o328_1311, o328_1312, o328_1314, o328_1315, o328_1316, o328_1317, o328_1318, o328_1320, o328_1321, o328_1322, o328_1323, o328_1324, mcs_0, true_and, and_self, Nat.zero_le, s1, s2, e1, v1, e2, v2, b0, b1]
  refine Ok_mono _ _ _ _ _ _ _ _ _ (fun r h1 q => ?_) (Ok_low (op_lensLimit R))
  obtain ⟨⟨k, rfl, g1, z⟩, lw⟩ := q
  replace lw := lw s4
  obtain ⟨S1, si⟩ := Scr_Lw S0 lw
  have C1 := Cs_Lw C lw
  obtain ⟨t1, t2, t3, t4⟩ := id S1
  have d0 : (0 ≤ (B1 - 1)) = True := eq_true (by omega)
  have d1 : (0 ≤ (B2 - 6)) = True := eq_true (by omega)
  simp only [o328_1327, o328_1329, o328_1330, o328_1331, o328_1333, o328_1334, o328_1335, o328_1336, o328_1337, o328_1339, o328_1340, o328_1341, o328_1342, mcs_0, Kn_v, true_and, and_self, Nat.zero_le, t1, t2, g1, si, e1, v1, e2, v2]
  refine Ok_mono _ _ _ _ _ _ _ _ _ (fun r h2 q => ?_) (Ok_low (z))
  obtain ⟨⟨b, rfl, R2, x1, x2⟩, lw2⟩ := q
  have hB0 : A 0 = A 0 := rfl
  have hB1 : A 22 = A 22 := rfl
  have hB2 : A 39 = A 39 := rfl
  replace lw2 := lw2 t4
  have S2 := (Scr_Lw S1 lw2).1
  have C2 := Cs_Lw C1 lw2
  simp only [o328_1345, o328_1347, Kn_v]
  exact Ok_le (hQ A h2 _ _ hB0 hB1 hB2 R2 C2 S2) _ _ (by omega) (by omega)
theorem lc_lensTurn {scr n j : Nat} {A : Nat → Nat} {h : MH} {a5 a6 : Value} {bc bs B1 B2 : Nat} {Q : MR → MH → Prop} (R : Rl A h) (C : Cs h) (S : Scr scr n h) (hj : 4 * j + 4 ≤ n) (hn : n ≤ 256) (hb1 : bc + 826 ≤ B1) (hb2 : bs + 98959 ≤ B2) (hQ : LQ A scr n j bc bs Q) : Ok 328 1350 [.ref scr, .ref (A 0), .ref (A 22), .ref (A 39), .int (Int32.ofNat (4 * j)), a5, a6] [] h B1 B2 Q := by
  have S0 := S
  obtain ⟨s1, s2, s3, s4⟩ := S
  obtain ⟨k0, k1, k2⟩ := Rl_c R
  have e1 : Int32.ofNat (4 * j) + 1 = Int32.ofNat (4 * j + 1) := n_add (4 * j) 1
  have v1 : vp_in (Int32.ofNat (4 * j + 1)) n := vp_of (by omega) (by omega)
  have e2 : Int32.ofNat (4 * j) + 2 = Int32.ofNat (4 * j + 2) := n_add (4 * j) 2
  have v2 : vp_in (Int32.ofNat (4 * j + 2)) n := vp_of (by omega) (by omega)
  have e3 : Int32.ofNat (4 * j) + 3 = Int32.ofNat (4 * j + 3) := n_add (4 * j) 3
  have v3 : vp_in (Int32.ofNat (4 * j + 3)) n := vp_of (by omega) (by omega)
  have b0 : (2 ≤ B1) = True := eq_true (by omega)
  have b1 : (12 ≤ B2) = True := eq_true (by omega)
  simp only [o328_1350, o328_1351, o328_1352, o328_1354, o328_1355, o328_1356, o328_1357, o328_1358, o328_1360, o328_1361, o328_1362, o328_1363, o328_1364, mcs_0, true_and, and_self, Nat.zero_le, s1, s2, e1, v1, e2, v2, b0, b1]
  refine Ok_mono _ _ _ _ _ _ _ _ _ (fun r h1 q => ?_) (Ok_low (op_lensTurn R))
  obtain ⟨⟨k, rfl, g1, z⟩, lw⟩ := q
  replace lw := lw s4
  obtain ⟨S1, si⟩ := Scr_Lw S0 lw
  have C1 := Cs_Lw C lw
  obtain ⟨t1, t2, t3, t4⟩ := id S1
  have d0 : (0 ≤ (B1 - 2)) = True := eq_true (by omega)
  have d1 : (0 ≤ (B2 - 12)) = True := eq_true (by omega)
  simp only [o328_1367, o328_1369, o328_1370, o328_1371, o328_1373, o328_1374, o328_1375, o328_1376, o328_1377, o328_1379, o328_1380, o328_1381, o328_1382, mcs_0, Kn_v, true_and, and_self, Nat.zero_le, t1, t2, g1, si, e1, v1, e2, v2]
  refine Ok_mono _ _ _ _ _ _ _ _ _ (fun r h2 q => ?_) (Ok_low (z))
  obtain ⟨⟨b, rfl, R2, x1, x2⟩, lw2⟩ := q
  have hB0 : A 0 = A 0 := rfl
  have hB1 : A 22 = A 22 := rfl
  have hB2 : A 39 = A 39 := rfl
  replace lw2 := lw2 t4
  have S2 := (Scr_Lw S1 lw2).1
  have C2 := Cs_Lw C1 lw2
  simp only [o328_1385, o328_1387, Kn_v]
  exact Ok_le (hQ A h2 _ _ hB0 hB1 hB2 R2 C2 S2) _ _ (by omega) (by omega)
theorem lc_lensMake {scr n j : Nat} {A : Nat → Nat} {h : MH} {a5 a6 : Value} {bc bs B1 B2 : Nat} {Q : MR → MH → Prop} (R : Rl A h) (C : Cs h) (S : Scr scr n h) (hj : 4 * j + 4 ≤ n) (hn : n ≤ 256) (hb1 : bc + 826 ≤ B1) (hb2 : bs + 98959 ≤ B2) (hQ : LQ A scr n j bc bs Q) : Ok 328 1390 [.ref scr, .ref (A 0), .ref (A 22), .ref (A 39), .int (Int32.ofNat (4 * j)), a5, a6] [] h B1 B2 Q := by
  have S0 := S
  obtain ⟨s1, s2, s3, s4⟩ := S
  obtain ⟨k0, k1, k2⟩ := Rl_c R
  have e1 : Int32.ofNat (4 * j) + 1 = Int32.ofNat (4 * j + 1) := n_add (4 * j) 1
  have v1 : vp_in (Int32.ofNat (4 * j + 1)) n := vp_of (by omega) (by omega)
  have e2 : Int32.ofNat (4 * j) + 2 = Int32.ofNat (4 * j + 2) := n_add (4 * j) 2
  have v2 : vp_in (Int32.ofNat (4 * j + 2)) n := vp_of (by omega) (by omega)
  have e3 : Int32.ofNat (4 * j) + 3 = Int32.ofNat (4 * j + 3) := n_add (4 * j) 3
  have v3 : vp_in (Int32.ofNat (4 * j + 3)) n := vp_of (by omega) (by omega)
  have b0 : (7 ≤ B1) = True := eq_true (by omega)
  have b1 : (47 ≤ B2) = True := eq_true (by omega)
  simp only [o328_1390, o328_1391, o328_1392, o328_1394, o328_1395, o328_1396, o328_1397, o328_1398, o328_1400, o328_1401, o328_1402, o328_1403, o328_1404, mcs_0, true_and, and_self, Nat.zero_le, s1, s2, e1, v1, e2, v2, b0, b1]
  refine Ok_mono _ _ _ _ _ _ _ _ _ (fun r h1 q => ?_) (Ok_low (op_lensMake R))
  obtain ⟨⟨k, rfl, g1, z⟩, lw⟩ := q
  replace lw := lw s4
  obtain ⟨S1, si⟩ := Scr_Lw S0 lw
  have C1 := Cs_Lw C lw
  obtain ⟨t1, t2, t3, t4⟩ := id S1
  have d0 : (4 ≤ (B1 - 7)) = True := eq_true (by omega)
  have d1 : (24 ≤ (B2 - 47)) = True := eq_true (by omega)
  simp only [o328_1407, o328_1409, o328_1410, o328_1411, o328_1413, o328_1414, o328_1415, o328_1416, o328_1417, o328_1419, o328_1420, o328_1421, o328_1422, mcs_0, Kn_v, true_and, and_self, Nat.zero_le, t1, t2, g1, si, e1, v1, e2, v2, d0, d1]
  refine Ok_mono _ _ _ _ _ _ _ _ _ (fun r h2 q => ?_) (Ok_low (z))
  obtain ⟨⟨b, rfl, R2, x1, x2⟩, lw2⟩ := q
  obtain ⟨B, hB0, hB1, hB2, R2⟩ := R2
  replace lw2 := lw2 t4
  have S2 := (Scr_Lw S1 lw2).1
  have C2 := Cs_Lw C1 lw2
  simp only [o328_1425, o328_1427, Kn_v]
  exact Ok_le (hQ B h2 _ _ hB0 hB1 hB2 R2 C2 S2) _ _ (by omega) (by omega)
theorem lc_lensCut {scr n j : Nat} {A : Nat → Nat} {h : MH} {a5 a6 : Value} {bc bs B1 B2 : Nat} {Q : MR → MH → Prop} (R : Rl A h) (C : Cs h) (S : Scr scr n h) (hj : 4 * j + 4 ≤ n) (hn : n ≤ 256) (hb1 : bc + 826 ≤ B1) (hb2 : bs + 98959 ≤ B2) (hQ : LQ A scr n j bc bs Q) : Ok 328 1430 [.ref scr, .ref (A 0), .ref (A 22), .ref (A 39), .int (Int32.ofNat (4 * j)), a5, a6] [] h B1 B2 Q := by
  have S0 := S
  obtain ⟨s1, s2, s3, s4⟩ := S
  obtain ⟨k0, k1, k2⟩ := Rl_c R
  have e1 : Int32.ofNat (4 * j) + 1 = Int32.ofNat (4 * j + 1) := n_add (4 * j) 1
  have v1 : vp_in (Int32.ofNat (4 * j + 1)) n := vp_of (by omega) (by omega)
  have e2 : Int32.ofNat (4 * j) + 2 = Int32.ofNat (4 * j + 2) := n_add (4 * j) 2
  have v2 : vp_in (Int32.ofNat (4 * j + 2)) n := vp_of (by omega) (by omega)
  have e3 : Int32.ofNat (4 * j) + 3 = Int32.ofNat (4 * j + 3) := n_add (4 * j) 3
  have v3 : vp_in (Int32.ofNat (4 * j + 3)) n := vp_of (by omega) (by omega)
  have b0 : (2 ≤ B1) = True := eq_true (by omega)
  have b1 : (13 ≤ B2) = True := eq_true (by omega)
  simp only [o328_1430, o328_1431, o328_1432, o328_1434, o328_1435, o328_1436, o328_1437, o328_1438, o328_1440, o328_1441, o328_1442, o328_1443, o328_1444, o328_1446, o328_1447, o328_1448, o328_1449, o328_1450, mcs_0, true_and, and_self, Nat.zero_le, s1, s2, e1, v1, e2, v2, e3, v3, b0, b1]
  refine Ok_mono _ _ _ _ _ _ _ _ _ (fun r h1 q => ?_) (Ok_low (op_lensCut R))
  obtain ⟨⟨k, rfl, g1, z⟩, lw⟩ := q
  replace lw := lw s4
  obtain ⟨S1, si⟩ := Scr_Lw S0 lw
  have C1 := Cs_Lw C lw
  obtain ⟨t1, t2, t3, t4⟩ := id S1
  have d0 : (1 ≤ (B1 - 2)) = True := eq_true (by omega)
  have d1 : (6 ≤ (B2 - 13)) = True := eq_true (by omega)
  simp only [o328_1453, o328_1455, o328_1456, o328_1457, o328_1459, o328_1460, o328_1461, o328_1462, o328_1463, o328_1465, o328_1466, o328_1467, o328_1468, o328_1469, o328_1471, o328_1472, o328_1473, o328_1474, mcs_0, Kn_v, true_and, and_self, Nat.zero_le, t1, t2, g1, si, e1, v1, e2, v2, e3, v3, d0, d1]
  refine Ok_mono _ _ _ _ _ _ _ _ _ (fun r h2 q => ?_) (Ok_low (z))
  obtain ⟨⟨b, rfl, R2, x1, x2⟩, lw2⟩ := q
  obtain ⟨B, hB0, hB1, hB2, R2⟩ := R2
  replace lw2 := lw2 t4
  have S2 := (Scr_Lw S1 lw2).1
  have C2 := Cs_Lw C1 lw2
  simp only [o328_1477, o328_1479, Kn_v]
  exact Ok_le (hQ B h2 _ _ hB0 hB1 hB2 R2 C2 S2) _ _ (by omega) (by omega)
theorem lc_lens {scr n j : Nat} {A : Nat → Nat} {h : MH} {a5 a6 : Value} {bc bs B1 B2 : Nat} {Q : MR → MH → Prop} (R : Rl A h) (C : Cs h) (S : Scr scr n h) (hj : 4 * j + 4 ≤ n) (hn : n ≤ 256) (hb1 : bc + 826 ≤ B1) (hb2 : bs + 98959 ≤ B2) (hQ : LQ A scr n j bc bs Q) : Ok 328 1482 [.ref scr, .ref (A 0), .ref (A 22), .ref (A 39), .int (Int32.ofNat (4 * j)), a5, a6] [] h B1 B2 Q := by
  have S0 := S
  obtain ⟨s1, s2, s3, s4⟩ := S
  obtain ⟨k0, k1, k2⟩ := Rl_c R
  have e1 : Int32.ofNat (4 * j) + 1 = Int32.ofNat (4 * j + 1) := n_add (4 * j) 1
  have v1 : vp_in (Int32.ofNat (4 * j + 1)) n := vp_of (by omega) (by omega)
  have e2 : Int32.ofNat (4 * j) + 2 = Int32.ofNat (4 * j + 2) := n_add (4 * j) 2
  have v2 : vp_in (Int32.ofNat (4 * j + 2)) n := vp_of (by omega) (by omega)
  have e3 : Int32.ofNat (4 * j) + 3 = Int32.ofNat (4 * j + 3) := n_add (4 * j) 3
  have v3 : vp_in (Int32.ofNat (4 * j + 3)) n := vp_of (by omega) (by omega)
  have b0 : (2 ≤ B1) = True := eq_true (by omega)
  have b1 : (12 ≤ B2) = True := eq_true (by omega)
  simp only [o328_1482, o328_1483, o328_1484, o328_1486, o328_1487, o328_1488, o328_1489, o328_1490, o328_1492, o328_1493, o328_1494, o328_1495, o328_1496, mcs_0, true_and, and_self, Nat.zero_le, s1, s2, e1, v1, e2, v2, b0, b1]
  refine Ok_mono _ _ _ _ _ _ _ _ _ (fun r h1 q => ?_) (Ok_low (op_lens R))
  obtain ⟨⟨k, rfl, g1, z⟩, lw⟩ := q
  replace lw := lw s4
  obtain ⟨S1, si⟩ := Scr_Lw S0 lw
  have C1 := Cs_Lw C lw
  obtain ⟨t1, t2, t3, t4⟩ := id S1
  have d0 : (1 ≤ (B1 - 2)) = True := eq_true (by omega)
  have d1 : (9 ≤ (B2 - 12)) = True := eq_true (by omega)
  simp only [o328_1499, o328_1501, o328_1502, o328_1503, o328_1505, o328_1506, o328_1507, o328_1508, o328_1509, o328_1511, o328_1512, o328_1513, o328_1514, mcs_0, Kn_v, true_and, and_self, Nat.zero_le, t1, t2, g1, si, e1, v1, e2, v2, d0, d1]
  refine Ok_mono _ _ _ _ _ _ _ _ _ (fun r h2 q => ?_) (Ok_low (z))
  obtain ⟨⟨b, rfl, R2, x1, x2⟩, lw2⟩ := q
  have hB0 : A 0 = A 0 := rfl
  have hB1 : A 22 = A 22 := rfl
  have hB2 : A 39 = A 39 := rfl
  replace lw2 := lw2 t4
  have S2 := (Scr_Lw S1 lw2).1
  have C2 := Cs_Lw C1 lw2
  simp only [o328_1517, o328_1519, Kn_v]
  exact Ok_le (hQ A h2 _ _ hB0 hB1 hB2 R2 C2 S2) _ _ (by omega) (by omega)
end

section
set_option maxRecDepth 16384
theorem lc_nextLong {scr n j : Nat} {A : Nat → Nat} {h : MH} {a5 a6 : Value} {bc bs B1 B2 : Nat} {Q : MR → MH → Prop} (R : Rl A h) (C : Cs h) (S : Scr scr n h) (hj : 4 * j + 4 ≤ n) (hn : n ≤ 256) (hb1 : bc + 826 ≤ B1) (hb2 : bs + 98959 ≤ B2) (hQ : LQ A scr n j bc bs Q) : Ok 328 1522 [.ref scr, .ref (A 0), .ref (A 22), .ref (A 39), .int (Int32.ofNat (4 * j)), a5, a6] [] h B1 B2 Q := by
  have S0 := S
  obtain ⟨s1, s2, s3, s4⟩ := S
  obtain ⟨k0, k1, k2⟩ := Rl_c R
  have e1 : Int32.ofNat (4 * j) + 1 = Int32.ofNat (4 * j + 1) := n_add (4 * j) 1
  have v1 : vp_in (Int32.ofNat (4 * j + 1)) n := vp_of (by omega) (by omega)
  have e2 : Int32.ofNat (4 * j) + 2 = Int32.ofNat (4 * j + 2) := n_add (4 * j) 2
  have v2 : vp_in (Int32.ofNat (4 * j + 2)) n := vp_of (by omega) (by omega)
  have e3 : Int32.ofNat (4 * j) + 3 = Int32.ofNat (4 * j + 3) := n_add (4 * j) 3
  have v3 : vp_in (Int32.ofNat (4 * j + 3)) n := vp_of (by omega) (by omega)
  have b0 : (1 ≤ B1) = True := eq_true (by omega)
  have b1 : (6 ≤ B2) = True := eq_true (by omega)
  simp only [o328_1522, o328_1523, o328_1524, o328_1526, o328_1527, o328_1528, o328_1529, o328_1530, mcs_0, true_and, and_self, Nat.zero_le, s1, s2, e1, v1, b0, b1]
  refine Ok_mono _ _ _ _ _ _ _ _ _ (fun r h1 q => ?_) (Ok_low (op_nextLong R))
  obtain ⟨⟨k, rfl, g1, z⟩, lw⟩ := q
  replace lw := lw s4
  obtain ⟨S1, si⟩ := Scr_Lw S0 lw
  have C1 := Cs_Lw C lw
  obtain ⟨t1, t2, t3, t4⟩ := id S1
  have d0 : (0 ≤ (B1 - 1)) = True := eq_true (by omega)
  have d1 : (0 ≤ (B2 - 6)) = True := eq_true (by omega)
  simp only [o328_1533, o328_1535, o328_1536, o328_1537, o328_1539, o328_1540, o328_1541, o328_1542, mcs_0, Kn_v, true_and, and_self, Nat.zero_le, t1, t2, g1, si, e1, v1]
  refine Ok_mono _ _ _ _ _ _ _ _ _ (fun r h2 q => ?_) (Ok_low (z))
  obtain ⟨⟨b, rfl, R2, x1, x2⟩, lw2⟩ := q
  have hB0 : A 0 = A 0 := rfl
  have hB1 : A 22 = A 22 := rfl
  have hB2 : A 39 = A 39 := rfl
  replace lw2 := lw2 t4
  have S2 := (Scr_Lw S1 lw2).1
  have C2 := Cs_Lw C1 lw2
  simp only [o328_1545, o328_1547, Kn_v]
  exact Ok_le (hQ A h2 _ _ hB0 hB1 hB2 R2 C2 S2) _ _ (by omega) (by omega)
theorem lc_longAt {scr n j : Nat} {A : Nat → Nat} {h : MH} {a5 a6 : Value} {bc bs B1 B2 : Nat} {Q : MR → MH → Prop} (R : Rl A h) (C : Cs h) (S : Scr scr n h) (hj : 4 * j + 4 ≤ n) (hn : n ≤ 256) (hb1 : bc + 826 ≤ B1) (hb2 : bs + 98959 ≤ B2) (hQ : LQ A scr n j bc bs Q) : Ok 328 1550 [.ref scr, .ref (A 0), .ref (A 22), .ref (A 39), .int (Int32.ofNat (4 * j)), a5, a6] [] h B1 B2 Q := by
  have S0 := S
  obtain ⟨s1, s2, s3, s4⟩ := S
  obtain ⟨k0, k1, k2⟩ := Rl_c R
  have e1 : Int32.ofNat (4 * j) + 1 = Int32.ofNat (4 * j + 1) := n_add (4 * j) 1
  have v1 : vp_in (Int32.ofNat (4 * j + 1)) n := vp_of (by omega) (by omega)
  have e2 : Int32.ofNat (4 * j) + 2 = Int32.ofNat (4 * j + 2) := n_add (4 * j) 2
  have v2 : vp_in (Int32.ofNat (4 * j + 2)) n := vp_of (by omega) (by omega)
  have e3 : Int32.ofNat (4 * j) + 3 = Int32.ofNat (4 * j + 3) := n_add (4 * j) 3
  have v3 : vp_in (Int32.ofNat (4 * j + 3)) n := vp_of (by omega) (by omega)
  have b0 : (1 ≤ B1) = True := eq_true (by omega)
  have b1 : (6 ≤ B2) = True := eq_true (by omega)
  simp only [o328_1550, o328_1551, o328_1552, o328_1554, o328_1555, o328_1556, o328_1557, o328_1558, o328_1560, o328_1561, o328_1562, o328_1563, o328_1564, mcs_0, true_and, and_self, Nat.zero_le, s1, s2, e1, v1, e2, v2, b0, b1]
  refine Ok_mono _ _ _ _ _ _ _ _ _ (fun r h1 q => ?_) (Ok_low (op_longAt R))
  obtain ⟨⟨k, rfl, g1, z⟩, lw⟩ := q
  replace lw := lw s4
  obtain ⟨S1, si⟩ := Scr_Lw S0 lw
  have C1 := Cs_Lw C lw
  obtain ⟨t1, t2, t3, t4⟩ := id S1
  have d0 : (0 ≤ (B1 - 1)) = True := eq_true (by omega)
  have d1 : (0 ≤ (B2 - 6)) = True := eq_true (by omega)
  simp only [o328_1567, o328_1569, o328_1570, o328_1571, o328_1573, o328_1574, o328_1575, o328_1576, o328_1577, o328_1579, o328_1580, o328_1581, o328_1582, mcs_0, Kn_v, true_and, and_self, Nat.zero_le, t1, t2, g1, si, e1, v1, e2, v2]
  refine Ok_mono _ _ _ _ _ _ _ _ _ (fun r h2 q => ?_) (Ok_low (z))
  obtain ⟨⟨b, rfl, R2, x1, x2⟩, lw2⟩ := q
  have hB0 : A 0 = A 0 := rfl
  have hB1 : A 22 = A 22 := rfl
  have hB2 : A 39 = A 39 := rfl
  replace lw2 := lw2 t4
  have S2 := (Scr_Lw S1 lw2).1
  have C2 := Cs_Lw C1 lw2
  simp only [o328_1585, o328_1587, Kn_v]
  exact Ok_le (hQ A h2 _ _ hB0 hB1 hB2 R2 C2 S2) _ _ (by omega) (by omega)
theorem lc_nextShort {scr n j : Nat} {A : Nat → Nat} {h : MH} {a5 a6 : Value} {bc bs B1 B2 : Nat} {Q : MR → MH → Prop} (R : Rl A h) (C : Cs h) (S : Scr scr n h) (hj : 4 * j + 4 ≤ n) (hn : n ≤ 256) (hb1 : bc + 826 ≤ B1) (hb2 : bs + 98959 ≤ B2) (hQ : LQ A scr n j bc bs Q) : Ok 328 1590 [.ref scr, .ref (A 0), .ref (A 22), .ref (A 39), .int (Int32.ofNat (4 * j)), a5, a6] [] h B1 B2 Q := by
  have S0 := S
  obtain ⟨s1, s2, s3, s4⟩ := S
  obtain ⟨k0, k1, k2⟩ := Rl_c R
  have e1 : Int32.ofNat (4 * j) + 1 = Int32.ofNat (4 * j + 1) := n_add (4 * j) 1
  have v1 : vp_in (Int32.ofNat (4 * j + 1)) n := vp_of (by omega) (by omega)
  have e2 : Int32.ofNat (4 * j) + 2 = Int32.ofNat (4 * j + 2) := n_add (4 * j) 2
  have v2 : vp_in (Int32.ofNat (4 * j + 2)) n := vp_of (by omega) (by omega)
  have e3 : Int32.ofNat (4 * j) + 3 = Int32.ofNat (4 * j + 3) := n_add (4 * j) 3
  have v3 : vp_in (Int32.ofNat (4 * j + 3)) n := vp_of (by omega) (by omega)
  have b0 : (0 ≤ B1) = True := eq_true (by omega)
  have b1 : (0 ≤ B2) = True := eq_true (by omega)
  simp only [o328_1590, o328_1591, mcs_0, true_and, Nat.zero_le, k0]
  refine Ok_mono _ _ _ _ _ _ _ _ _ (fun r h1 q => ?_) (Ok_low (op_nextShort R))
  obtain ⟨⟨k, rfl, g1, z⟩, lw⟩ := q
  replace lw := lw s4
  obtain ⟨S1, si⟩ := Scr_Lw S0 lw
  have C1 := Cs_Lw C lw
  obtain ⟨t1, t2, t3, t4⟩ := id S1
  have d0 : (0 ≤ B1) = True := eq_true (by omega)
  have d1 : (0 ≤ B2) = True := eq_true (by omega)
  simp only [o328_1594, o328_1595, o328_1596, mcs_0, Kn_v, true_and, Nat.zero_le, g1]
  refine Ok_mono _ _ _ _ _ _ _ _ _ (fun r h2 q => ?_) (Ok_low (z))
  obtain ⟨⟨b, rfl, R2, x1, x2⟩, lw2⟩ := q
  subst x2
  have hB0 : A 0 = A 0 := rfl
  have hB1 : A 22 = A 22 := rfl
  have hB2 : A 39 = A 39 := rfl
  replace lw2 := lw2 t4
  have S2 := (Scr_Lw S1 lw2).1
  have C2 := Cs_Lw C1 lw2
  simp only [o328_1599, o328_1600, Kn_v]
  exact Ok_le (hQ A h2 _ _ hB0 hB1 hB2 R2 C2 S2) _ _ (by omega) (by omega)
theorem lc_shortAt {scr n j : Nat} {A : Nat → Nat} {h : MH} {a5 a6 : Value} {bc bs B1 B2 : Nat} {Q : MR → MH → Prop} (R : Rl A h) (C : Cs h) (S : Scr scr n h) (hj : 4 * j + 4 ≤ n) (hn : n ≤ 256) (hb1 : bc + 826 ≤ B1) (hb2 : bs + 98959 ≤ B2) (hQ : LQ A scr n j bc bs Q) : Ok 328 1603 [.ref scr, .ref (A 0), .ref (A 22), .ref (A 39), .int (Int32.ofNat (4 * j)), a5, a6] [] h B1 B2 Q := by
  have S0 := S
  obtain ⟨s1, s2, s3, s4⟩ := S
  obtain ⟨k0, k1, k2⟩ := Rl_c R
  have e1 : Int32.ofNat (4 * j) + 1 = Int32.ofNat (4 * j + 1) := n_add (4 * j) 1
  have v1 : vp_in (Int32.ofNat (4 * j + 1)) n := vp_of (by omega) (by omega)
  have e2 : Int32.ofNat (4 * j) + 2 = Int32.ofNat (4 * j + 2) := n_add (4 * j) 2
  have v2 : vp_in (Int32.ofNat (4 * j + 2)) n := vp_of (by omega) (by omega)
  have e3 : Int32.ofNat (4 * j) + 3 = Int32.ofNat (4 * j + 3) := n_add (4 * j) 3
  have v3 : vp_in (Int32.ofNat (4 * j + 3)) n := vp_of (by omega) (by omega)
  have b0 : (0 ≤ B1) = True := eq_true (by omega)
  have b1 : (0 ≤ B2) = True := eq_true (by omega)
  simp only [o328_1603, o328_1604, o328_1605, o328_1607, o328_1608, o328_1609, o328_1610, mcs_0, true_and, and_self, Nat.zero_le, s1, s2, k0, e1, v1]
  refine Ok_mono _ _ _ _ _ _ _ _ _ (fun r h1 q => ?_) (Ok_low (op_shortAt R))
  obtain ⟨⟨k, rfl, g1, z⟩, lw⟩ := q
  replace lw := lw s4
  obtain ⟨S1, si⟩ := Scr_Lw S0 lw
  have C1 := Cs_Lw C lw
  obtain ⟨t1, t2, t3, t4⟩ := id S1
  have d0 : (0 ≤ B1) = True := eq_true (by omega)
  have d1 : (0 ≤ B2) = True := eq_true (by omega)
  simp only [o328_1613, o328_1614, o328_1615, o328_1616, o328_1618, o328_1619, o328_1620, o328_1621, mcs_0, Kn_v, true_and, and_self, Nat.zero_le, t1, t2, g1, si, e1, v1]
  refine Ok_mono _ _ _ _ _ _ _ _ _ (fun r h2 q => ?_) (Ok_low (z))
  obtain ⟨⟨b, rfl, R2, x1, x2⟩, lw2⟩ := q
  subst x2
  have hB0 : A 0 = A 0 := rfl
  have hB1 : A 22 = A 22 := rfl
  have hB2 : A 39 = A 39 := rfl
  replace lw2 := lw2 t4
  have S2 := (Scr_Lw S1 lw2).1
  have C2 := Cs_Lw C1 lw2
  simp only [o328_1624, o328_1625, Kn_v]
  exact Ok_le (hQ A h2 _ _ hB0 hB1 hB2 R2 C2 S2) _ _ (by omega) (by omega)
theorem lc_putNext {scr n j : Nat} {A : Nat → Nat} {h : MH} {a5 a6 : Value} {bc bs B1 B2 : Nat} {Q : MR → MH → Prop} (R : Rl A h) (C : Cs h) (S : Scr scr n h) (hj : 4 * j + 4 ≤ n) (hn : n ≤ 256) (hb1 : bc + 826 ≤ B1) (hb2 : bs + 98959 ≤ B2) (hQ : LQ A scr n j bc bs Q) : Ok 328 1628 [.ref scr, .ref (A 0), .ref (A 22), .ref (A 39), .int (Int32.ofNat (4 * j)), a5, a6] [] h B1 B2 Q := by
  have S0 := S
  obtain ⟨s1, s2, s3, s4⟩ := S
  obtain ⟨k0, k1, k2⟩ := Rl_c R
  have e1 : Int32.ofNat (4 * j) + 1 = Int32.ofNat (4 * j + 1) := n_add (4 * j) 1
  have v1 : vp_in (Int32.ofNat (4 * j + 1)) n := vp_of (by omega) (by omega)
  have e2 : Int32.ofNat (4 * j) + 2 = Int32.ofNat (4 * j + 2) := n_add (4 * j) 2
  have v2 : vp_in (Int32.ofNat (4 * j + 2)) n := vp_of (by omega) (by omega)
  have e3 : Int32.ofNat (4 * j) + 3 = Int32.ofNat (4 * j + 3) := n_add (4 * j) 3
  have v3 : vp_in (Int32.ofNat (4 * j + 3)) n := vp_of (by omega) (by omega)
  have b0 : (1 ≤ B1) = True := eq_true (by omega)
  have b1 : (6 ≤ B2) = True := eq_true (by omega)
  simp only [o328_1628, o328_1629, o328_1630, o328_1632, o328_1633, o328_1634, o328_1635, o328_1636, mcs_0, true_and, and_self, Nat.zero_le, s1, s2, e1, v1, b0, b1]
  refine Ok_mono _ _ _ _ _ _ _ _ _ (fun r h1 q => ?_) (Ok_low (op_putNext R))
  obtain ⟨⟨k, rfl, g1, z⟩, lw⟩ := q
  replace lw := lw s4
  obtain ⟨S1, si⟩ := Scr_Lw S0 lw
  have C1 := Cs_Lw C lw
  obtain ⟨t1, t2, t3, t4⟩ := id S1
  have d0 : (0 ≤ (B1 - 1)) = True := eq_true (by omega)
  have d1 : (0 ≤ (B2 - 6)) = True := eq_true (by omega)
  simp only [o328_1639, o328_1641, o328_1642, o328_1643, o328_1645, o328_1646, o328_1647, o328_1648, mcs_0, Kn_v, true_and, and_self, Nat.zero_le, t1, t2, g1, si, e1, v1]
  refine Ok_mono _ _ _ _ _ _ _ _ _ (fun r h2 q => ?_) (Ok_low (z))
  obtain ⟨⟨b, rfl, R2, x1, x2⟩, lw2⟩ := q
  have hB0 : A 0 = A 0 := rfl
  have hB1 : A 22 = A 22 := rfl
  have hB2 : A 39 = A 39 := rfl
  replace lw2 := lw2 t4
  have S2 := (Scr_Lw S1 lw2).1
  have C2 := Cs_Lw C1 lw2
  simp only [o328_1651, o328_1653, Kn_v]
  exact Ok_le (hQ A h2 _ _ hB0 hB1 hB2 R2 C2 S2) _ _ (by omega) (by omega)
theorem lc_putAt {scr n j : Nat} {A : Nat → Nat} {h : MH} {a5 a6 : Value} {bc bs B1 B2 : Nat} {Q : MR → MH → Prop} (R : Rl A h) (C : Cs h) (S : Scr scr n h) (hj : 4 * j + 4 ≤ n) (hn : n ≤ 256) (hb1 : bc + 826 ≤ B1) (hb2 : bs + 98959 ≤ B2) (hQ : LQ A scr n j bc bs Q) : Ok 328 1656 [.ref scr, .ref (A 0), .ref (A 22), .ref (A 39), .int (Int32.ofNat (4 * j)), a5, a6] [] h B1 B2 Q := by
  have S0 := S
  obtain ⟨s1, s2, s3, s4⟩ := S
  obtain ⟨k0, k1, k2⟩ := Rl_c R
  have e1 : Int32.ofNat (4 * j) + 1 = Int32.ofNat (4 * j + 1) := n_add (4 * j) 1
  have v1 : vp_in (Int32.ofNat (4 * j + 1)) n := vp_of (by omega) (by omega)
  have e2 : Int32.ofNat (4 * j) + 2 = Int32.ofNat (4 * j + 2) := n_add (4 * j) 2
  have v2 : vp_in (Int32.ofNat (4 * j + 2)) n := vp_of (by omega) (by omega)
  have e3 : Int32.ofNat (4 * j) + 3 = Int32.ofNat (4 * j + 3) := n_add (4 * j) 3
  have v3 : vp_in (Int32.ofNat (4 * j + 3)) n := vp_of (by omega) (by omega)
  have b0 : (1 ≤ B1) = True := eq_true (by omega)
  have b1 : (6 ≤ B2) = True := eq_true (by omega)
  simp only [o328_1656, o328_1657, o328_1658, o328_1660, o328_1661, o328_1662, o328_1663, o328_1664, o328_1666, o328_1667, o328_1668, o328_1669, o328_1670, mcs_0, true_and, and_self, Nat.zero_le, s1, s2, e1, v1, e2, v2, b0, b1]
  refine Ok_mono _ _ _ _ _ _ _ _ _ (fun r h1 q => ?_) (Ok_low (op_putAt R))
  obtain ⟨⟨k, rfl, g1, z⟩, lw⟩ := q
  replace lw := lw s4
  obtain ⟨S1, si⟩ := Scr_Lw S0 lw
  have C1 := Cs_Lw C lw
  obtain ⟨t1, t2, t3, t4⟩ := id S1
  have d0 : (0 ≤ (B1 - 1)) = True := eq_true (by omega)
  have d1 : (0 ≤ (B2 - 6)) = True := eq_true (by omega)
  simp only [o328_1673, o328_1675, o328_1676, o328_1677, o328_1679, o328_1680, o328_1681, o328_1682, o328_1683, o328_1685, o328_1686, o328_1687, o328_1688, mcs_0, Kn_v, true_and, and_self, Nat.zero_le, t1, t2, g1, si, e1, v1, e2, v2]
  refine Ok_mono _ _ _ _ _ _ _ _ _ (fun r h2 q => ?_) (Ok_low (z))
  obtain ⟨⟨b, rfl, R2, x1, x2⟩, lw2⟩ := q
  have hB0 : A 0 = A 0 := rfl
  have hB1 : A 22 = A 22 := rfl
  have hB2 : A 39 = A 39 := rfl
  replace lw2 := lw2 t4
  have S2 := (Scr_Lw S1 lw2).1
  have C2 := Cs_Lw C1 lw2
  simp only [o328_1691, o328_1693, Kn_v]
  exact Ok_le (hQ A h2 _ _ hB0 hB1 hB2 R2 C2 S2) _ _ (by omega) (by omega)
theorem lc_cellText {scr n j : Nat} {A : Nat → Nat} {h : MH} {a5 a6 : Value} {bc bs B1 B2 : Nat} {Q : MR → MH → Prop} (R : Rl A h) (C : Cs h) (S : Scr scr n h) (hj : 4 * j + 4 ≤ n) (hn : n ≤ 256) (hb1 : bc + 826 ≤ B1) (hb2 : bs + 98959 ≤ B2) (hQ : LQ A scr n j bc bs Q) : Ok 328 1696 [.ref scr, .ref (A 0), .ref (A 22), .ref (A 39), .int (Int32.ofNat (4 * j)), a5, a6] [] h B1 B2 Q := by
  have S0 := S
  obtain ⟨s1, s2, s3, s4⟩ := S
  obtain ⟨k0, k1, k2⟩ := Rl_c R
  have e1 : Int32.ofNat (4 * j) + 1 = Int32.ofNat (4 * j + 1) := n_add (4 * j) 1
  have v1 : vp_in (Int32.ofNat (4 * j + 1)) n := vp_of (by omega) (by omega)
  have e2 : Int32.ofNat (4 * j) + 2 = Int32.ofNat (4 * j + 2) := n_add (4 * j) 2
  have v2 : vp_in (Int32.ofNat (4 * j + 2)) n := vp_of (by omega) (by omega)
  have e3 : Int32.ofNat (4 * j) + 3 = Int32.ofNat (4 * j + 3) := n_add (4 * j) 3
  have v3 : vp_in (Int32.ofNat (4 * j + 3)) n := vp_of (by omega) (by omega)
  have b0 : (25 ≤ B1) = True := eq_true (by omega)
  have b1 : (3460 ≤ B2) = True := eq_true (by omega)
  simp only [o328_1696, o328_1697, o328_1698, o328_1700, o328_1701, o328_1702, o328_1703, o328_1704, mcs_0, true_and, and_self, Nat.zero_le, s1, s2, e1, v1, b0, b1]
  refine Ok_mono _ _ _ _ _ _ _ _ _ (fun r h1 q => ?_) (Ok_low (x_cellText R))
  obtain ⟨⟨k, rfl, R1⟩, lw⟩ := q
  have g1 := (Rl_c R1).2.1
  replace lw := lw s4
  obtain ⟨S1, si⟩ := Scr_Lw S0 lw
  have C1 := Cs_Lw C lw
  obtain ⟨t1, t2, t3, t4⟩ := id S1
  have d0 : (6 ≤ (B1 - 25)) = True := eq_true (by omega)
  have d1 : (474 ≤ (B2 - 3460)) = True := eq_true (by omega)
  simp only [o328_1707, o328_1709, o328_1710, o328_1711, o328_1713, o328_1714, o328_1715, o328_1716, mcs_0, Kn_v, true_and, and_self, Nat.zero_le, t1, t2, g1, si, e1, v1, d0, d1]
  refine Ok_mono _ _ _ _ _ _ _ _ _ (fun r h2 q => ?_) (Ok_low (m_cellText R1 C1))
  obtain ⟨⟨b, rfl, R2⟩, lw2⟩ := q
  have hB0 : A 0 = A 0 := rfl
  have hB1 : A 22 = A 22 := rfl
  have hB2 : A 39 = A 39 := rfl
  replace lw2 := lw2 t4
  have S2 := (Scr_Lw S1 lw2).1
  have C2 := Cs_Lw C1 lw2
  simp only [o328_1719, o328_1721, Kn_v]
  exact Ok_le (hQ A h2 _ _ hB0 hB1 hB2 R2 C2 S2) _ _ (by omega) (by omega)
theorem lc_house {scr n j : Nat} {A : Nat → Nat} {h : MH} {a5 a6 : Value} {bc bs B1 B2 : Nat} {Q : MR → MH → Prop} (R : Rl A h) (C : Cs h) (S : Scr scr n h) (hj : 4 * j + 4 ≤ n) (hn : n ≤ 256) (hb1 : bc + 826 ≤ B1) (hb2 : bs + 98959 ≤ B2) (hQ : LQ A scr n j bc bs Q) : Ok 328 1724 [.ref scr, .ref (A 0), .ref (A 22), .ref (A 39), .int (Int32.ofNat (4 * j)), a5, a6] [] h B1 B2 Q := by
  have S0 := S
  obtain ⟨s1, s2, s3, s4⟩ := S
  obtain ⟨k0, k1, k2⟩ := Rl_c R
  have e1 : Int32.ofNat (4 * j) + 1 = Int32.ofNat (4 * j + 1) := n_add (4 * j) 1
  have v1 : vp_in (Int32.ofNat (4 * j + 1)) n := vp_of (by omega) (by omega)
  have e2 : Int32.ofNat (4 * j) + 2 = Int32.ofNat (4 * j + 2) := n_add (4 * j) 2
  have v2 : vp_in (Int32.ofNat (4 * j + 2)) n := vp_of (by omega) (by omega)
  have e3 : Int32.ofNat (4 * j) + 3 = Int32.ofNat (4 * j + 3) := n_add (4 * j) 3
  have v3 : vp_in (Int32.ofNat (4 * j + 3)) n := vp_of (by omega) (by omega)
  have b0 : (1 ≤ B1) = True := eq_true (by omega)
  have b1 : (6 ≤ B2) = True := eq_true (by omega)
  simp only [o328_1724, o328_1725, o328_1726, o328_1728, o328_1729, o328_1730, o328_1731, o328_1732, mcs_0, true_and, and_self, Nat.zero_le, s1, s2, e1, v1, b0, b1]
  refine Ok_mono _ _ _ _ _ _ _ _ _ (fun r h1 q => ?_) (Ok_low (op_house R))
  obtain ⟨⟨k, rfl, g1, z⟩, lw⟩ := q
  replace lw := lw s4
  obtain ⟨S1, si⟩ := Scr_Lw S0 lw
  have C1 := Cs_Lw C lw
  obtain ⟨t1, t2, t3, t4⟩ := id S1
  have d0 : (0 ≤ (B1 - 1)) = True := eq_true (by omega)
  have d1 : (0 ≤ (B2 - 6)) = True := eq_true (by omega)
  simp only [o328_1735, o328_1737, o328_1738, o328_1739, o328_1741, o328_1742, o328_1743, o328_1744, mcs_0, Kn_v, true_and, and_self, Nat.zero_le, t1, t2, g1, si, e1, v1]
  refine Ok_mono _ _ _ _ _ _ _ _ _ (fun r h2 q => ?_) (Ok_low (z))
  obtain ⟨⟨b, rfl, R2, x1, x2⟩, lw2⟩ := q
  have hB0 : A 0 = A 0 := rfl
  have hB1 : A 22 = A 22 := rfl
  have hB2 : A 39 = A 39 := rfl
  replace lw2 := lw2 t4
  have S2 := (Scr_Lw S1 lw2).1
  have C2 := Cs_Lw C1 lw2
  simp only [o328_1747, o328_1749, Kn_v]
  exact Ok_le (hQ A h2 _ _ hB0 hB1 hB2 R2 C2 S2) _ _ (by omega) (by omega)
theorem lc_knock {scr n j : Nat} {A : Nat → Nat} {h : MH} {a5 a6 : Value} {bc bs B1 B2 : Nat} {Q : MR → MH → Prop} (R : Rl A h) (C : Cs h) (S : Scr scr n h) (hj : 4 * j + 4 ≤ n) (hn : n ≤ 256) (hb1 : bc + 826 ≤ B1) (hb2 : bs + 98959 ≤ B2) (hQ : LQ A scr n j bc bs Q) : Ok 328 1752 [.ref scr, .ref (A 0), .ref (A 22), .ref (A 39), .int (Int32.ofNat (4 * j)), a5, a6] [] h B1 B2 Q := by
  have S0 := S
  obtain ⟨s1, s2, s3, s4⟩ := S
  obtain ⟨k0, k1, k2⟩ := Rl_c R
  have e1 : Int32.ofNat (4 * j) + 1 = Int32.ofNat (4 * j + 1) := n_add (4 * j) 1
  have v1 : vp_in (Int32.ofNat (4 * j + 1)) n := vp_of (by omega) (by omega)
  have e2 : Int32.ofNat (4 * j) + 2 = Int32.ofNat (4 * j + 2) := n_add (4 * j) 2
  have v2 : vp_in (Int32.ofNat (4 * j + 2)) n := vp_of (by omega) (by omega)
  have e3 : Int32.ofNat (4 * j) + 3 = Int32.ofNat (4 * j + 3) := n_add (4 * j) 3
  have v3 : vp_in (Int32.ofNat (4 * j + 3)) n := vp_of (by omega) (by omega)
  have b0 : (0 ≤ B1) = True := eq_true (by omega)
  have b1 : (0 ≤ B2) = True := eq_true (by omega)
  simp only [o328_1752, o328_1753, mcs_0, true_and, Nat.zero_le, k0]
  refine Ok_mono _ _ _ _ _ _ _ _ _ (fun r h1 q => ?_) (Ok_low (op_knock R))
  obtain ⟨⟨k, rfl, g1, z⟩, lw⟩ := q
  replace lw := lw s4
  obtain ⟨S1, si⟩ := Scr_Lw S0 lw
  have C1 := Cs_Lw C lw
  obtain ⟨t1, t2, t3, t4⟩ := id S1
  have d0 : (0 ≤ B1) = True := eq_true (by omega)
  have d1 : (0 ≤ B2) = True := eq_true (by omega)
  simp only [o328_1756, o328_1757, o328_1758, mcs_0, Kn_v, true_and, Nat.zero_le, g1]
  refine Ok_mono _ _ _ _ _ _ _ _ _ (fun r h2 q => ?_) (Ok_low (z))
  obtain ⟨⟨b, rfl, R2, x1, x2⟩, lw2⟩ := q
  subst x2
  have hB0 : A 0 = A 0 := rfl
  have hB1 : A 22 = A 22 := rfl
  have hB2 : A 39 = A 39 := rfl
  replace lw2 := lw2 t4
  have S2 := (Scr_Lw S1 lw2).1
  have C2 := Cs_Lw C1 lw2
  simp only [o328_1761, o328_1762, Kn_v]
  exact Ok_le (hQ A h2 _ _ hB0 hB1 hB2 R2 C2 S2) _ _ (by omega) (by omega)
theorem lc_isSound {scr n j : Nat} {A : Nat → Nat} {h : MH} {a5 a6 : Value} {bc bs B1 B2 : Nat} {Q : MR → MH → Prop} (R : Rl A h) (C : Cs h) (S : Scr scr n h) (hj : 4 * j + 4 ≤ n) (hn : n ≤ 256) (hb1 : bc + 826 ≤ B1) (hb2 : bs + 98959 ≤ B2) (hQ : LQ A scr n j bc bs Q) : Ok 328 1765 [.ref scr, .ref (A 0), .ref (A 22), .ref (A 39), .int (Int32.ofNat (4 * j)), a5, a6] [] h B1 B2 Q := by
  have S0 := S
  obtain ⟨s1, s2, s3, s4⟩ := S
  obtain ⟨k0, k1, k2⟩ := Rl_c R
  have e1 : Int32.ofNat (4 * j) + 1 = Int32.ofNat (4 * j + 1) := n_add (4 * j) 1
  have v1 : vp_in (Int32.ofNat (4 * j + 1)) n := vp_of (by omega) (by omega)
  have e2 : Int32.ofNat (4 * j) + 2 = Int32.ofNat (4 * j + 2) := n_add (4 * j) 2
  have v2 : vp_in (Int32.ofNat (4 * j + 2)) n := vp_of (by omega) (by omega)
  have e3 : Int32.ofNat (4 * j) + 3 = Int32.ofNat (4 * j + 3) := n_add (4 * j) 3
  have v3 : vp_in (Int32.ofNat (4 * j + 3)) n := vp_of (by omega) (by omega)
  have b0 : (0 ≤ B1) = True := eq_true (by omega)
  have b1 : (0 ≤ B2) = True := eq_true (by omega)
  simp only [o328_1765, o328_1766, mcs_0, true_and, Nat.zero_le, k0]
  refine Ok_mono _ _ _ _ _ _ _ _ _ (fun r h1 q => ?_) (Ok_low (op_isSound R))
  obtain ⟨⟨k, rfl, g1, z⟩, lw⟩ := q
  replace lw := lw s4
  obtain ⟨S1, si⟩ := Scr_Lw S0 lw
  have C1 := Cs_Lw C lw
  obtain ⟨t1, t2, t3, t4⟩ := id S1
  have d0 : (0 ≤ B1) = True := eq_true (by omega)
  have d1 : (0 ≤ B2) = True := eq_true (by omega)
  simp only [o328_1769, o328_1770, o328_1771, mcs_0, Kn_v, true_and, Nat.zero_le, g1]
  refine Ok_mono _ _ _ _ _ _ _ _ _ (fun r h2 q => ?_) (Ok_low (z))
  obtain ⟨⟨b, rfl, R2, x1, x2⟩, lw2⟩ := q
  subst x2
  have hB0 : A 0 = A 0 := rfl
  have hB1 : A 22 = A 22 := rfl
  have hB2 : A 39 = A 39 := rfl
  replace lw2 := lw2 t4
  have S2 := (Scr_Lw S1 lw2).1
  have C2 := Cs_Lw C1 lw2
  simp only [o328_1774, o328_1775, Kn_v]
  exact Ok_le (hQ A h2 _ _ hB0 hB1 hB2 R2 C2 S2) _ _ (by omega) (by omega)
theorem lc_digest {scr n j : Nat} {A : Nat → Nat} {h : MH} {a5 a6 : Value} {bc bs B1 B2 : Nat} {Q : MR → MH → Prop} (R : Rl A h) (C : Cs h) (S : Scr scr n h) (hj : 4 * j + 4 ≤ n) (hn : n ≤ 256) (hb1 : bc + 826 ≤ B1) (hb2 : bs + 98959 ≤ B2) (hQ : LQ A scr n j bc bs Q) : Ok 328 1778 [.ref scr, .ref (A 0), .ref (A 22), .ref (A 39), .int (Int32.ofNat (4 * j)), a5, a6] [] h B1 B2 Q := by
  have S0 := S
  obtain ⟨s1, s2, s3, s4⟩ := S
  obtain ⟨k0, k1, k2⟩ := Rl_c R
  have e1 : Int32.ofNat (4 * j) + 1 = Int32.ofNat (4 * j + 1) := n_add (4 * j) 1
  have v1 : vp_in (Int32.ofNat (4 * j + 1)) n := vp_of (by omega) (by omega)
  have e2 : Int32.ofNat (4 * j) + 2 = Int32.ofNat (4 * j + 2) := n_add (4 * j) 2
  have v2 : vp_in (Int32.ofNat (4 * j + 2)) n := vp_of (by omega) (by omega)
  have e3 : Int32.ofNat (4 * j) + 3 = Int32.ofNat (4 * j + 3) := n_add (4 * j) 3
  have v3 : vp_in (Int32.ofNat (4 * j + 3)) n := vp_of (by omega) (by omega)
  have b0 : (707 ≤ B1) = True := eq_true (by omega)
  have b1 : (89490 ≤ B2) = True := eq_true (by omega)
  simp only [o328_1778, o328_1779, mcs_0, true_and, Nat.zero_le, k0, b0, b1]
  refine Ok_mono _ _ _ _ _ _ _ _ _ (fun r h1 q => ?_) (Ok_low (op_digest R C))
  obtain ⟨⟨k, rfl, g1, z⟩, lw⟩ := q
  replace lw := lw s4
  obtain ⟨S1, si⟩ := Scr_Lw S0 lw
  have C1 := Cs_Lw C lw
  obtain ⟨t1, t2, t3, t4⟩ := id S1
  have d0 : (119 ≤ (B1 - 707)) = True := eq_true (by omega)
  have d1 : (9469 ≤ (B2 - 89490)) = True := eq_true (by omega)
  simp only [o328_1782, o328_1783, mc_pi, mc_pl, mc_pr, mc_pN, mc_pT, mc_pC, mn_pi, mn_pl, mn_pr, mn_pN, mn_pT, mn_pC, mi_pi, mi_pl, mi_pr, mi_pN, mi_pT, mi_pC, ml_pi, ml_pl, ml_pr, ml_pN, ml_pT, ml_pC, mr_pi, mr_pl, mr_pr, mr_pN, mr_pT, mr_pC, mt_pi, mt_pl, mt_pr, mt_pN, mt_pT, mt_pC, mz_pi, mz_pl, mz_pr, mz_pN, mz_pT, mz_pC, ma_pi, ma_pl, ma_pr, ma_pN, ma_pT, ma_pC, mcs_0, mcs_i, mcs_l, mcs_r, mcs_n, csum_rf, Kn_v, Kn_0, Kn_x, mrf_some, kok_0, true_and, and_true, false_and, and_false, true_or, or_true, or_false, false_or, not_true_eq_false, not_false_eq_true, true_implies, false_implies, implies_true, forall_const, if_true, if_false, and_self, Nat.reduceEqDiff, Nat.reduceLeDiff, Nat.reduceSub, Nat.reduceAdd, Nat.zero_le, Nat.le_refl, i10, i01, kz0, kz1, eq_self, lt_le, Classical.not_not, Int32.reduceLT, Int32.reduceAdd, Int32.reduceSub, Int32.reduceMul, cl0, cl1, cl2, cl3, cl4, cl5, cl6, cl7, cl8, cl9, cl10, cl11, cl12, cl13, cl14, cl15, cl16, cl17, cl18, cl19, cl20, cl21, cl22, cl23, cl24, cl25, cl26, cl27, cl28, cl29, cl30, cl31, cl32, cl33, cl34, cl35, cl36, cl37, cl38, cl39, lg_cmp_eq, t1, t2, g1, si, e1, v1, e2, v2, e3, v3, d0, d1]
  refine Ok_mono _ _ _ _ _ _ _ _ _ (fun r h2 q => ?_) (Ok_low (z))
  obtain ⟨⟨b, rfl, R2, x1⟩, lw2⟩ := q
  subst x1
  have hB0 : A 0 = A 0 := rfl
  have hB1 : A 22 = A 22 := rfl
  have hB2 : A 39 = A 39 := rfl
  replace lw2 := lw2 t4
  have S2 := (Scr_Lw S1 lw2).1
  have C2 := Cs_Lw C1 lw2
  simp only [o328_1786, o328_1787, o328_1790, o328_1791, mc_pi, mc_pl, mc_pr, mc_pN, mc_pT, mc_pC, mn_pi, mn_pl, mn_pr, mn_pN, mn_pT, mn_pC, mi_pi, mi_pl, mi_pr, mi_pN, mi_pT, mi_pC, ml_pi, ml_pl, ml_pr, ml_pN, ml_pT, ml_pC, mr_pi, mr_pl, mr_pr, mr_pN, mr_pT, mr_pC, mt_pi, mt_pl, mt_pr, mt_pN, mt_pT, mt_pC, mz_pi, mz_pl, mz_pr, mz_pN, mz_pT, mz_pC, ma_pi, ma_pl, ma_pr, ma_pN, ma_pT, ma_pC, mcs_0, mcs_i, mcs_l, mcs_r, mcs_n, csum_rf, Kn_v, Kn_0, Kn_x, mrf_some, kok_0, true_and, and_true, false_and, and_false, true_or, or_true, or_false, false_or, not_true_eq_false, not_false_eq_true, true_implies, false_implies, implies_true, forall_const, if_true, if_false, and_self, Nat.reduceEqDiff, Nat.reduceLeDiff, Nat.reduceSub, Nat.reduceAdd, Nat.zero_le, Nat.le_refl, i10, i01, kz0, kz1, eq_self, lt_le, Classical.not_not, Int32.reduceLT, Int32.reduceAdd, Int32.reduceSub, Int32.reduceMul, cl0, cl1, cl2, cl3, cl4, cl5, cl6, cl7, cl8, cl9, cl10, cl11, cl12, cl13, cl14, cl15, cl16, cl17, cl18, cl19, cl20, cl21, cl22, cl23, cl24, cl25, cl26, cl27, cl28, cl29, cl30, cl31, cl32, cl33, cl34, cl35, cl36, cl37, cl38, cl39, lg_cmp_eq]
  exact Ok_le (hQ A h2 _ _ hB0 hB1 hB2 R2 C2 S2) _ _ (by omega) (by omega)
theorem law_loop {scr n : Nat} {Q : MR → MH → Prop} (hn : n ≤ 256) (hQ : ∀ m, Q (.inl (some (.int 1))) m) : ∀ (d j : Nat) (A : Nat → Nat) (h : MH) (a5 a6 : Value), j + d = 64 → Rl A h → Cs h → Scr scr n h → Ok 328 27 [.ref scr, .ref (A 0), .ref (A 22), .ref (A 39), .int (Int32.ofNat (4 * j)), a5, a6] [] h (826 * d) (98959 * d) Q
  | 0, j, A, h, a5, a6, hd, R, C, S => by
    obtain ⟨s1, s2, s3, s4⟩ := S
    have c1 : (Int32.ofNat n - 4 < Int32.ofNat (4 * j)) = True := by rw [n_m4 hn (by omega)]; exact eq_true (by omega)
    have l1 : (101 ≤ 107) = True := by decide
    simp only [o328_27, o328_29, o328_30, o328_31, o328_32, o328_33, o328_1798, o328_1799, mc_pi, mc_pl, mc_pr, mc_pN, mc_pT, mc_pC, mn_pi, mn_pl, mn_pr, mn_pN, mn_pT, mn_pC, mi_pi, mi_pl, mi_pr, mi_pN, mi_pT, mi_pC, ml_pi, ml_pl, ml_pr, ml_pN, ml_pT, ml_pC, mr_pi, mr_pl, mr_pr, mr_pN, mr_pT, mr_pC, mt_pi, mt_pl, mt_pr, mt_pN, mt_pT, mt_pC, mz_pi, mz_pl, mz_pr, mz_pN, mz_pT, mz_pC, ma_pi, ma_pl, ma_pr, ma_pN, ma_pT, ma_pC, mcs_0, mcs_i, mcs_l, mcs_r, mcs_n, csum_rf, Kn_v, Kn_0, Kn_x, mrf_some, kok_0, true_and, and_true, false_and, and_false, true_or, or_true, or_false, false_or, not_true_eq_false, not_false_eq_true, true_implies, false_implies, implies_true, forall_const, if_true, if_false, and_self, Nat.reduceEqDiff, Nat.reduceLeDiff, Nat.reduceSub, Nat.reduceAdd, Nat.zero_le, Nat.le_refl, i10, i01, kz0, kz1, eq_self, lt_le, Classical.not_not, Int32.reduceLT, Int32.reduceAdd, Int32.reduceSub, Int32.reduceMul, cl0, cl1, cl2, cl3, cl4, cl5, cl6, cl7, cl8, cl9, cl10, cl11, cl12, cl13, cl14, cl15, cl16, cl17, cl18, cl19, cl20, cl21, cl22, cl23, cl24, cl25, cl26, cl27, cl28, cl29, cl30, cl31, cl32, cl33, cl34, cl35, cl36, cl37, cl38, cl39, lg_cmp_eq, s1, s2, c1, l1]
    exact hQ _
  | d + 1, j, A, h, a5, a6, hd, R, C, S => by
    have S0 := S
    obtain ⟨s1, s2, s3, s4⟩ := S
    have l1 : (101 ≤ 107) = True := by decide
    have c0 := n_m4 (n := n) (a := 4 * j) hn (by omega)
    by_cases hj : 4 * j + 4 ≤ n
    · have c1 : (Int32.ofNat n - 4 < Int32.ofNat (4 * j)) = False := by rw [c0]; exact eq_false (by omega)
      have v0 : vp_in (Int32.ofNat (4 * j)) n := vp_of (by omega) (by omega)
      have hq : LQ A scr n j (826 * d) (98959 * d) Q := fun B m b5 b6 e0 e22 e39 R2 C2 S2 => by
        have lp := law_loop (scr := scr) hn hQ d (j + 1) B m b5 b6 (by omega) R2 C2 S2
        rw [e0, e22, e39] at lp
        have e4 : Int32.ofNat (4 * j) + 4 = Int32.ofNat (4 * (j + 1)) := n_add (4 * j) 4
        simp only [o328_1792, o328_1795, e4]
        exact lp
      simp only [o328_27, o328_29, o328_30, o328_31, o328_32, o328_33, o328_36, o328_37, o328_39, o328_40, o328_42, true_and, not_false_eq_true, false_implies, forall_const, and_self, Nat.le_refl, s1, s2, c1, l1, v0]
      rw [o328_43]
      exact ⟨fun _ => Ok_le (hq A h a5 a6 rfl rfl rfl R C S0) _ _ (by omega) (by omega), fun _ => lc_lay R C S0 hj hn (by omega) (by omega) hq, fun _ => lc_layFourth R C S0 hj hn (by omega) (by omega) hq, fun _ => lc_upper R C S0 hj hn (by omega) (by omega) hq, fun _ => lc_lower R C S0 hj hn (by omega) (by omega) hq, fun _ => lc_fourth R C S0 hj hn (by omega) (by omega) hq, fun _ => lc_slotText R C S0 hj hn (by omega) (by omega) hq, fun _ => lc_put R C S0 hj hn (by omega) (by omega) hq, fun _ => lc_take R C S0 hj hn (by omega) (by omega) hq, fun _ => lc_look R C S0 hj hn (by omega) (by omega) hq, fun _ => lc_mend R C S0 hj hn (by omega) (by omega) hq, fun _ => lc_mark R C S0 hj hn (by omega) (by omega) hq, fun _ => lc_back R C S0 hj hn (by omega) (by omega) hq, fun _ => lc_forget R C S0 hj hn (by omega) (by omega) hq, fun _ => lc_squeeze R C S0 hj hn (by omega) (by omega) hq, fun _ => lc_empty R C S0 hj hn (by omega) (by omega) hq, fun _ => lc_pass R C S0 hj hn (by omega) (by omega) hq, fun _ => lc_poke R C S0 hj hn (by omega) (by omega) hq, fun _ => lc_lies R C S0 hj hn (by omega) (by omega) hq, fun _ => lc_room R C S0 hj hn (by omega) (by omega) hq, fun _ => lc_isEmpty R C S0 hj hn (by omega) (by omega) hq, fun _ => lc_isFull R C S0 hj hn (by omega) (by omega) hq, fun _ => lc_place R C S0 hj hn (by omega) (by omega) hq, fun _ => lc_queueText R C S0 hj hn (by omega) (by omega) hq, fun _ => lc_pour R C S0 hj hn (by omega) (by omega) hq, fun _ => lc_pourAll R C S0 hj hn (by omega) (by omega) hq, fun _ => lc_draw R C S0 hj hn (by omega) (by omega) hq, fun _ => lc_drawAll R C S0 hj hn (by omega) (by omega) hq, fun _ => lc_turn R C S0 hj hn (by omega) (by omega) hq, fun _ => lc_again R C S0 hj hn (by omega) (by omega) hq, fun _ => lc_pipeMark R C S0 hj hn (by omega) (by omega) hq, fun _ => lc_pipeBack R C S0 hj hn (by omega) (by omega) hq, fun _ => lc_pipe R C S0 hj hn (by omega) (by omega) hq, fun _ => lc_pipeText R C S0 hj hn (by omega) (by omega) hq, fun _ => lc_lensPlace R C S0 hj hn (by omega) (by omega) hq, fun _ => lc_lensLimit R C S0 hj hn (by omega) (by omega) hq, fun _ => lc_lensTurn R C S0 hj hn (by omega) (by omega) hq, fun _ => lc_lensMake R C S0 hj hn (by omega) (by omega) hq, fun _ => lc_lensCut R C S0 hj hn (by omega) (by omega) hq, fun _ => lc_lens R C S0 hj hn (by omega) (by omega) hq, fun _ => lc_nextLong R C S0 hj hn (by omega) (by omega) hq, fun _ => lc_longAt R C S0 hj hn (by omega) (by omega) hq, fun _ => lc_nextShort R C S0 hj hn (by omega) (by omega) hq, fun _ => lc_shortAt R C S0 hj hn (by omega) (by omega) hq, fun _ => lc_putNext R C S0 hj hn (by omega) (by omega) hq, fun _ => lc_putAt R C S0 hj hn (by omega) (by omega) hq, fun _ => lc_cellText R C S0 hj hn (by omega) (by omega) hq, fun _ => lc_house R C S0 hj hn (by omega) (by omega) hq, fun _ => lc_knock R C S0 hj hn (by omega) (by omega) hq, fun _ => lc_isSound R C S0 hj hn (by omega) (by omega) hq, fun _ => lc_digest R C S0 hj hn (by omega) (by omega) hq⟩
    · have c1 : (Int32.ofNat n - 4 < Int32.ofNat (4 * j)) = True := by rw [c0]; exact eq_true (by omega)
      simp only [o328_27, o328_29, o328_30, o328_31, o328_32, o328_33, o328_1798, o328_1799, mc_pi, mc_pl, mc_pr, mc_pN, mc_pT, mc_pC, mn_pi, mn_pl, mn_pr, mn_pN, mn_pT, mn_pC, mi_pi, mi_pl, mi_pr, mi_pN, mi_pT, mi_pC, ml_pi, ml_pl, ml_pr, ml_pN, ml_pT, ml_pC, mr_pi, mr_pl, mr_pr, mr_pN, mr_pT, mr_pC, mt_pi, mt_pl, mt_pr, mt_pN, mt_pT, mt_pC, mz_pi, mz_pl, mz_pr, mz_pN, mz_pT, mz_pC, ma_pi, ma_pl, ma_pr, ma_pN, ma_pT, ma_pC, mcs_0, mcs_i, mcs_l, mcs_r, mcs_n, csum_rf, Kn_v, Kn_0, Kn_x, mrf_some, kok_0, true_and, and_true, false_and, and_false, true_or, or_true, or_false, false_or, not_true_eq_false, not_false_eq_true, true_implies, false_implies, implies_true, forall_const, if_true, if_false, and_self, Nat.reduceEqDiff, Nat.reduceLeDiff, Nat.reduceSub, Nat.reduceAdd, Nat.zero_le, Nat.le_refl, i10, i01, kz0, kz1, eq_self, lt_le, Classical.not_not, Int32.reduceLT, Int32.reduceAdd, Int32.reduceSub, Int32.reduceMul, cl0, cl1, cl2, cl3, cl4, cl5, cl6, cl7, cl8, cl9, cl10, cl11, cl12, cl13, cl14, cl15, cl16, cl17, cl18, cl19, cl20, cl21, cl22, cl23, cl24, cl25, cl26, cl27, cl28, cl29, cl30, cl31, cl32, cl33, cl34, cl35, cl36, cl37, cl38, cl39, lg_cmp_eq, s1, s2, c1, l1]
      exact hQ _
end

section
set_option maxRecDepth 16384
/-! THE START: memory as a list of what was written -/
abbrev Wr : Type := (Nat × Nat × Nat) ⊕ ((Nat × Nat × Int32) ⊕ (Nat × Nat × Nat))
def ld (h : MH) : List Wr → MH
  | [] => h
  | .inl (_, t, n) :: T => p_N (ld h T) t n
  | .inr (.inl (k, j, v)) :: T => p_i (ld h T) (g_t h + k) j v
  | .inr (.inr (k, j, r)) :: T => p_r (ld h T) (g_t h + k) j (some (g_t h + r))
def lcnt : List Wr → Nat
  | [] => 0
  | .inl (_, _, _) :: T => lcnt T + 1
  | .inr (.inl (_, _, _)) :: T => lcnt T
  | .inr (.inr (_, _, _)) :: T => lcnt T
def lwf : List Wr → Bool
  | [] => true
  | .inl (i, _, _) :: T => Nat.beq i (lcnt T) && lwf T
  | .inr (.inl (_, _, _)) :: T => lwf T
  | .inr (.inr (_, _, _)) :: T => lwf T
def eC : List Wr → Nat → Nat
  | [], _ => 0
  | .inl (i, t, _) :: T, k => if k = i then t else eC T k
  | .inr (.inl (_, _, _)) :: T, k => eC T k
  | .inr (.inr (_, _, _)) :: T, k => eC T k
def eN : List Wr → Nat → Nat
  | [], _ => 0
  | .inl (i, _, n) :: T, k => if k = i then n else eN T k
  | .inr (.inl (_, _, _)) :: T, k => eN T k
  | .inr (.inr (_, _, _)) :: T, k => eN T k
def eI : List Wr → Nat → Nat → Int32
  | [], _, _ => 0
  | .inl (i, _, _) :: T, k, j => if k = i then 0 else eI T k j
  | .inr (.inl (k', j', v)) :: T, k, j => if k = k' ∧ j = j' then v else eI T k j
  | .inr (.inr (_, _, _)) :: T, k, j => eI T k j
def eR : List Wr → Nat → Nat → Option Nat
  | [], _, _ => none
  | .inl (i, _, _) :: T, k, j => if k = i then none else eR T k j
  | .inr (.inl (_, _, _)) :: T, k, j => eR T k j
  | .inr (.inr (k', j', r)) :: T, k, j => if k = k' ∧ j = j' then some r else eR T k j
theorem ld_t (h : MH) : ∀ T, g_t (ld h T) = g_t h + lcnt T
  | [] => rfl
  | .inl (_, _, _) :: T => by simp only [ld, lcnt, mt_pN, ld_t h T, Nat.add_assoc]
  | .inr (.inl (_, _, _)) :: T => by simp only [ld, lcnt, mt_pi, ld_t h T]
  | .inr (.inr (_, _, _)) :: T => by simp only [ld, lcnt, mt_pr, ld_t h T]
theorem ld_z (h : MH) : ∀ T, g_z (ld h T) = g_z h
  | [] => rfl
  | .inl (_, _, _) :: T => by simp only [ld, mz_pN, ld_z h T]
  | .inr (.inl (_, _, _)) :: T => by simp only [ld, mz_pi, ld_z h T]
  | .inr (.inr (_, _, _)) :: T => by simp only [ld, mz_pr, ld_z h T]
theorem lk_a (x a b : Nat) : (x + a = x + b) = (a = b) := propext Nat.add_left_cancel_iff
theorem lk_b (x a : Nat) : (x = x + a) = (a = 0) := propext ⟨fun z => by omega, fun z => by omega⟩
theorem lk_c (x a : Nat) : (x + a = x) = (a = 0) := propext ⟨fun z => by omega, fun z => by omega⟩
theorem lwf_N {i t n : Nat} {T : List Wr} (w : lwf (.inl (i, t, n) :: T) = true) : i = lcnt T ∧ lwf T = true := by
  simp only [lwf, Bool.and_eq_true] at w
  exact ⟨Nat.eq_of_beq_eq_true w.1, w.2⟩
theorem ld_c (h : MH) (k : Nat) : ∀ T, lwf T = true → k < lcnt T → g_c (ld h T) (g_t h + k) = eC T k
  | [], _, hk => by simp only [lcnt] at hk; omega
  | .inl (i, t, n) :: T, w, hk => by
    obtain ⟨e, w2⟩ := lwf_N w
    subst e
    simp only [ld, eC, mc_pN, ld_t, lk_a]
    by_cases z : k = lcnt T
    · rw [if_pos z, if_pos z]
    · rw [if_neg z, if_neg z]; exact ld_c h k T w2 (by simp only [lcnt] at hk; omega)
  | .inr (.inl (_, _, _)) :: T, w, hk => by simp only [ld, eC, mc_pi]; exact ld_c h k T w hk
  | .inr (.inr (_, _, _)) :: T, w, hk => by simp only [ld, eC, mc_pr]; exact ld_c h k T w hk
theorem ld_n (h : MH) (k : Nat) : ∀ T, lwf T = true → k < lcnt T → g_n (ld h T) (g_t h + k) = eN T k
  | [], _, hk => by simp only [lcnt] at hk; omega
  | .inl (i, t, n) :: T, w, hk => by
    obtain ⟨e, w2⟩ := lwf_N w
    subst e
    simp only [ld, eN, mn_pN, ld_t, lk_a]
    by_cases z : k = lcnt T
    · rw [if_pos z, if_pos z]
    · rw [if_neg z, if_neg z]; exact ld_n h k T w2 (by simp only [lcnt] at hk; omega)
  | .inr (.inl (_, _, _)) :: T, w, hk => by simp only [ld, eN, mn_pi]; exact ld_n h k T w hk
  | .inr (.inr (_, _, _)) :: T, w, hk => by simp only [ld, eN, mn_pr]; exact ld_n h k T w hk
theorem ld_i (h : MH) (k j : Nat) : ∀ T, lwf T = true → k < lcnt T → g_i (ld h T) (g_t h + k) j = eI T k j
  | [], _, hk => by simp only [lcnt] at hk; omega
  | .inl (i, t, n) :: T, w, hk => by
    obtain ⟨e, w2⟩ := lwf_N w
    subst e
    simp only [ld, eI, mi_pN, ld_t, lk_a]
    by_cases z : k = lcnt T
    · rw [if_pos z, if_pos z]
    · rw [if_neg z, if_neg z]; exact ld_i h k j T w2 (by simp only [lcnt] at hk; omega)
  | .inr (.inl (k', j', v)) :: T, w, hk => by
    simp only [ld, eI, mi_pi, lk_a]
    by_cases z : k = k' ∧ j = j'
    · rw [if_pos z, if_pos z]
    · rw [if_neg z, if_neg z]; exact ld_i h k j T w hk
  | .inr (.inr (_, _, _)) :: T, w, hk => by simp only [ld, eI, mi_pr]; exact ld_i h k j T w hk
theorem ld_l (h : MH) (k j : Nat) : ∀ T, lwf T = true → k < lcnt T → g_l (ld h T) (g_t h + k) j = 0
  | [], _, hk => by simp only [lcnt] at hk; omega
  | .inl (i, t, n) :: T, w, hk => by
    obtain ⟨e, w2⟩ := lwf_N w
    subst e
    simp only [ld, ml_pN, ld_t, lk_a]
    by_cases z : k = lcnt T
    · rw [if_pos z]
    · rw [if_neg z]; exact ld_l h k j T w2 (by simp only [lcnt] at hk; omega)
  | .inr (.inl (_, _, _)) :: T, w, hk => by simp only [ld, ml_pi]; exact ld_l h k j T w hk
  | .inr (.inr (_, _, _)) :: T, w, hk => by simp only [ld, ml_pr]; exact ld_l h k j T w hk
theorem ld_r (h : MH) (k j : Nat) : ∀ T, lwf T = true → k < lcnt T → g_r (ld h T) (g_t h + k) j = (eR T k j).map (fun r => g_t h + r)
  | [], _, hk => by simp only [lcnt] at hk; omega
  | .inl (i, t, n) :: T, w, hk => by
    obtain ⟨e, w2⟩ := lwf_N w
    subst e
    simp only [ld, eR, mr_pN, ld_t, lk_a]
    by_cases z : k = lcnt T
    · rw [if_pos z, if_pos z]; rfl
    · rw [if_neg z, if_neg z]; exact ld_r h k j T w2 (by simp only [lcnt] at hk; omega)
  | .inr (.inl (_, _, _)) :: T, w, hk => by simp only [ld, eR, mr_pi]; exact ld_r h k j T w hk
  | .inr (.inr (k', j', r)) :: T, w, hk => by
    simp only [ld, eR, mr_pr, lk_a]
    by_cases z : k = k' ∧ j = j'
    · rw [if_pos z, if_pos z]; rfl
    · rw [if_neg z, if_neg z]; exact ld_r h k j T w hk
def lsh (c : Nat) : List Wr → List Wr
  | [] => []
  | .inl (i, t, n) :: T => .inl ((c + i), t, n) :: lsh c T
  | .inr (.inl (k, j, v)) :: T => .inr (.inl ((c + k), j, v)) :: lsh c T
  | .inr (.inr (k, j, r)) :: T => .inr (.inr ((c + k), j, (c + r))) :: lsh c T
theorem ld_app (h : MH) (T1 : List Wr) : ∀ T2, ld (ld h T1) T2 = ld h (lsh (lcnt T1) T2 ++ T1)
  | [] => rfl
  | .inl (_, _, _) :: T => by simp only [ld, lsh, List.cons_append, ld_app h T1 T]
  | .inr (.inl (_, _, _)) :: T => by simp only [ld, lsh, List.cons_append, ld_app h T1 T, ld_t, Nat.add_assoc]
  | .inr (.inr (_, _, _)) :: T => by simp only [ld, lsh, List.cons_append, ld_app h T1 T, ld_t, Nat.add_assoc]
def stA : List Wr := [.inr (.inr (0, 10, 19)), .inr (.inr (19, 1, 22)), .inl (22, 104, 19), .inr (.inr (19, 0, 20)), .inr (.inl (20, 1, (0))), .inr (.inr (20, 0, 21)), .inl (21, 103, 16), .inl (20, 10, 0), .inl (19, 6, 0), .inr (.inr (0, 9, 17)), .inr (.inr (17, 0, 18)), .inl (18, 101, 8), .inl (17, 2, 0), .inr (.inr (0, 8, 16)), .inr (.inl (16, 6, (-1))), .inr (.inl (16, 5, (24))), .inr (.inl (16, 4, (0))), .inr (.inl (16, 3, (0))), .inr (.inl (16, 2, (24))), .inr (.inl (16, 1, (11))), .inr (.inr (16, 0, 3)), .inl (16, 4, 0), .inr (.inr (0, 7, 15)), .inr (.inl (15, 6, (-1))), .inr (.inl (15, 4, (1))), .inr (.inl (15, 6, (-1))), .inr (.inl (15, 4, (0))), .inr (.inl (15, 5, (15))), .inr (.inl (15, 6, (-1))), .inr (.inl (15, 5, (16))), .inr (.inl (15, 4, (0))), .inr (.inl (15, 3, (1))), .inr (.inl (15, 2, (16))), .inr (.inl (15, 1, (0))), .inr (.inr (15, 0, 1)), .inl (15, 4, 0), .inr (.inr (0, 5, 14)), .inr (.inl (14, 6, (-1))), .inr (.inl (14, 5, (10))), .inr (.inl (14, 4, (0))), .inr (.inl (14, 3, (0))), .inr (.inl (14, 2, (10))), .inr (.inl (14, 1, (1))), .inr (.inr (14, 0, 3)), .inl (14, 4, 0), .inr (.inr (0, 4, 11)), .inr (.inl (11, 3, (0))), .inr (.inl (13, 6, (-1))), .inr (.inl (13, 4, (0))), .inr (.inl (13, 5, (0))), .inr (.inl (13, 6, (-1))), .inr (.inl (13, 5, (6))), .inr (.inl (13, 4, (0))), .inr (.inl (12, 6, (-1))), .inr (.inl (12, 5, (6))), .inr (.inl (12, 4, (0))), .inr (.inl (11, 2, (0))), .inr (.inr (11, 1, 13)), .inr (.inl (13, 6, (-1))), .inr (.inl (13, 5, (6))), .inr (.inl (13, 4, (0))), .inr (.inl (13, 3, (1))), .inr (.inl (13, 2, (6))), .inr (.inl (13, 1, (9))), .inr (.inr (13, 0, 1)), .inl (13, 4, 0), .inr (.inr (11, 0, 12)), .inr (.inl (12, 6, (-1))), .inr (.inl (12, 5, (6))), .inr (.inl (12, 4, (0))), .inr (.inl (12, 3, (0))), .inr (.inl (12, 2, (6))), .inr (.inl (12, 1, (9))), .inr (.inr (12, 0, 1)), .inl (12, 4, 0), .inl (11, 5, 0), .inr (.inr (0, 3, 8)), .inr (.inl (8, 3, (0))), .inr (.inl (10, 6, (-1))), .inr (.inl (10, 4, (0))), .inr (.inl (10, 5, (0))), .inr (.inl (10, 6, (-1))), .inr (.inl (10, 5, (3))), .inr (.inl (10, 4, (0))), .inr (.inl (9, 6, (-1))), .inr (.inl (9, 5, (3))), .inr (.inl (9, 4, (0))), .inr (.inl (8, 2, (1))), .inr (.inr (8, 1, 10)), .inr (.inl (10, 6, (-1))), .inr (.inl (10, 5, (3))), .inr (.inl (10, 4, (0))), .inr (.inl (10, 3, (1))), .inr (.inl (10, 2, (3))), .inr (.inl (10, 1, (6))), .inr (.inr (10, 0, 1)), .inl (10, 4, 0), .inr (.inr (8, 0, 9)), .inr (.inl (9, 6, (-1))), .inr (.inl (9, 5, (3))), .inr (.inl (9, 4, (0))), .inr (.inl (9, 3, (0))), .inr (.inl (9, 2, (3))), .inr (.inl (9, 1, (6))), .inr (.inr (9, 0, 1)), .inl (9, 4, 0), .inl (8, 5, 0), .inr (.inr (0, 2, 5)), .inr (.inl (5, 3, (0))), .inr (.inl (7, 6, (-1))), .inr (.inl (7, 4, (0))), .inr (.inl (7, 5, (0))), .inr (.inl (7, 6, (-1))), .inr (.inl (7, 5, (5))), .inr (.inl (7, 4, (0))), .inr (.inl (6, 6, (-1))), .inr (.inl (6, 5, (5))), .inr (.inl (6, 4, (0))), .inr (.inl (5, 2, (1))), .inr (.inr (5, 1, 7)), .inr (.inl (7, 6, (-1))), .inr (.inl (7, 5, (5))), .inr (.inl (7, 4, (0))), .inr (.inl (7, 3, (1))), .inr (.inl (7, 2, (5))), .inr (.inl (7, 1, (1))), .inr (.inr (7, 0, 1)), .inl (7, 4, 0), .inr (.inr (5, 0, 6)), .inr (.inl (6, 6, (-1))), .inr (.inl (6, 5, (5))), .inr (.inl (6, 4, (0))), .inr (.inl (6, 3, (0))), .inr (.inl (6, 2, (5))), .inr (.inl (6, 1, (1))), .inr (.inr (6, 0, 1)), .inl (6, 4, 0), .inl (5, 5, 0), .inr (.inr (0, 1, 3)), .inr (.inr (3, 0, 4)), .inl (4, 102, 36), .inl (3, 3, 0), .inr (.inr (0, 0, 1)), .inr (.inr (1, 0, 2)), .inl (2, 102, 16), .inl (1, 3, 0), .inl (0, 7, 0)]
def stB : List Wr := [.inr (.inl (16, 3, (0))), .inr (.inr (7, 1, 16)), .inr (.inl (16, 4, (24))), .inr (.inl (16, 2, (0))), .inr (.inl (16, 1, (24))), .inr (.inl (16, 0, (11))), .inr (.inl (16, 5, (-1))), .inl (16, 8, 0), .inr (.inl (15, 3, (1))), .inr (.inr (7, 0, 15)), .inr (.inl (15, 4, (15))), .inr (.inl (15, 2, (1))), .inr (.inl (15, 1, (16))), .inr (.inl (15, 0, (0))), .inr (.inl (15, 5, (-1))), .inl (15, 8, 0), .inr (.inl (5, 2, (0))), .inr (.inr (4, 2, 14)), .inr (.inl (14, 4, (0))), .inr (.inl (14, 2, (1))), .inr (.inl (14, 1, (6))), .inr (.inl (14, 0, (9))), .inr (.inl (14, 5, (-1))), .inl (14, 8, 0), .inr (.inr (3, 2, 13)), .inr (.inl (13, 4, (6))), .inr (.inl (13, 2, (0))), .inr (.inl (13, 1, (6))), .inr (.inl (13, 0, (9))), .inr (.inl (13, 5, (-1))), .inl (13, 8, 0), .inr (.inl (5, 1, (0))), .inr (.inr (4, 1, 12)), .inr (.inl (12, 4, (0))), .inr (.inl (12, 2, (1))), .inr (.inl (12, 1, (3))), .inr (.inl (12, 0, (6))), .inr (.inl (12, 5, (-1))), .inl (12, 8, 0), .inr (.inr (3, 1, 11)), .inr (.inl (11, 4, (3))), .inr (.inl (11, 2, (0))), .inr (.inl (11, 1, (3))), .inr (.inl (11, 0, (6))), .inr (.inl (11, 5, (-1))), .inl (11, 8, 0), .inr (.inl (5, 0, (0))), .inr (.inr (4, 0, 10)), .inr (.inl (10, 4, (0))), .inr (.inl (10, 2, (1))), .inr (.inl (10, 1, (5))), .inr (.inl (10, 0, (1))), .inr (.inl (10, 5, (-1))), .inl (10, 8, 0), .inr (.inr (3, 0, 9)), .inr (.inl (9, 4, (5))), .inr (.inl (9, 2, (0))), .inr (.inl (9, 1, (5))), .inr (.inl (9, 0, (1))), .inr (.inl (9, 5, (-1))), .inl (9, 8, 0), .inr (.inr (0, 8, 8)), .inl (8, 101, 8), .inr (.inr (0, 7, 7)), .inl (7, 106, 2), .inr (.inr (0, 5, 6)), .inr (.inl (6, 4, (10))), .inr (.inl (6, 2, (0))), .inr (.inl (6, 1, (10))), .inr (.inl (6, 0, (1))), .inr (.inl (6, 5, (-1))), .inl (6, 8, 0), .inr (.inr (0, 4, 5)), .inl (5, 105, 3), .inr (.inr (0, 3, 4)), .inl (4, 106, 3), .inr (.inr (0, 2, 3)), .inl (3, 106, 3), .inr (.inr (0, 1, 2)), .inl (2, 101, 36), .inr (.inr (0, 0, 1)), .inl (1, 102, 16), .inl (0, 9, 0)]
theorem st_tbp : tb_p = 8 := id rfl
theorem st_20 : ((2 : Int32) = 0) = False := by decide
theorem st_21 : ((2 : Int32) = 1) = False := by decide
theorem st_v2_0 : vp_in 0 2 = True := by
  apply eq_true
  unfold vp_in
  decide
theorem st_v2_1 : vp_in 1 2 = True := by
  apply eq_true
  unfold vp_in
  decide
theorem st_v3_0 : vp_in 0 3 = True := by
  apply eq_true
  unfold vp_in
  decide
theorem st_v3_1 : vp_in 1 3 = True := by
  apply eq_true
  unfold vp_in
  decide
theorem st_v3_2 : vp_in 2 3 = True := by
  apply eq_true
  unfold vp_in
  decide
end

section
set_option maxRecDepth 16384
set_option maxHeartbeats 4000000
theorem st_X5 {h : MH} {Q : MR → MH → Prop} (hz : g_z h ≤ g_t h) : Ok 57 0 [.ref (g_t h)] [] (p_N h 7 0) 22 199 Q ↔ Q (.inl none) (ld h stA) := by
  have zk : ∀ k, (g_z h ≤ g_t h + k) = True := fun k => eq_true (by omega)
  have z0 : (g_z h ≤ g_t h) = True := eq_true hz
  simp only [stA, ld, Nat.add_zero]
  simp only [o57_0, o57_1, o57_4, o57_5, o57_8, o57_9, o57_11, o57_13, o57_16, o57_19, o57_20, o57_23, o57_24, o57_26, o57_28, o57_31, o57_34, o57_35, o57_38, o57_39, o57_40, o57_43, o57_44, o57_45, o57_46, o57_49, o57_52, o57_53, o57_56, o57_57, o57_58, o57_61, o57_63, o57_64, o57_65, o57_68, o57_71, o57_72, o57_75, o57_76, o57_77, o57_80, o57_82, o57_84, o57_85, o57_88, o57_91, o57_92, o57_95, o57_96, o57_97, o57_100, o57_101, o57_103, o57_104, o57_107, o57_110, o57_111, o57_112, o57_115, o57_118, o57_121, o57_122, o57_123, o57_126, o57_129, o57_132, o57_133, o57_136, o57_137, o57_140, o57_143, o57_144, o57_147, o57_148, o57_151, o57_154, o28_0, o28_1, o28_4, o28_5, o28_6, o28_9, o5_0, o5_1, o5_4, o5_5, o5_8, o5_9, o5_10, o5_11, o5_12, o5_13, o5_16, o5_19, o5_20, o5_23, o5_24, o5_25, o5_26, o5_27, o5_28, o5_31, o5_34, o5_35, o5_37, o5_40, o5_41, o5_44, o6_0, o6_1, o6_4, o6_7, o6_8, o6_11, o6_14, o6_15, o6_18, o6_19, o6_22, o6_23, o6_24, o6_27, o0_0, o0_1, o0_4, o0_5, o0_7, o0_9, o0_12, o51_0, o51_1, o51_4, o51_5, o51_8, o51_9, o51_12, o51_15, o51_16, o51_18, o51_20, o51_23, o269_0, o269_1, o269_3, o269_6, o244_0, o244_1, o244_4, o244_7, o244_10, o244_11, o244_12, o244_14, o244_17, o244_18, o244_19, o244_22, o244_25, o244_26, o244_38, o133_0, o133_3, o133_4, o133_5, o133_6, o133_8, o133_9, o133_12, o133_13, o133_14, o133_16, o133_19, o133_20, o133_21, o133_24, o133_25, o134_0, o134_3, o134_4, o134_5, o134_7, o134_9, o134_10, o134_13, c_X3_init, c_X3_clear, c_X3_setLimit, c_X3_setPlace, mc_pi, mc_pr, mc_pN, mi_pi, mi_pr, mi_pN, mr_pi, mr_pr, mr_pN, mt_pi, mt_pr, mt_pN, mz_pi, mz_pr, mz_pN, mcs_0, mcs_r, Kn_v, Kn_0, mrf_some, true_and, and_true, and_false, not_false_eq_true, false_implies, forall_const, if_true, if_false, and_self, Nat.reduceEqDiff, Nat.reduceLeDiff, Nat.reduceSub, Nat.reduceAdd, Nat.zero_le, Nat.le_refl, i10, kz0, kz1, Int32.reduceLT, cl8, cl16, cl19, cl36, lk_a, lk_b, lk_c, zk, z0, kb0, Int32.reduceLT, Nat.add_assoc, Nat.reduceAdd]
end

section
set_option maxRecDepth 16384
set_option maxHeartbeats 4000000
theorem st_X8 {h : MH} {Q : MR → MH → Prop} (hz : g_z h ≤ g_t h) : Ok 158 0 [.ref (g_t h), mk0] [] (p_N h 9 0) 18 318 Q ↔ Q (.inl none) (ld h stB) := by
  have zk : ∀ k, (g_z h ≤ g_t h + k) = True := fun k => eq_true (by omega)
  have z0 : (g_z h ≤ g_t h) = True := eq_true hz
  simp only [stB, ld, Nat.add_zero]
  simp only [o158_0, o158_1, o158_4, o158_5, o158_7, o158_9, o158_12, o158_13, o158_15, o158_17, o158_20, o158_21, o158_22, o158_25, o158_28, o158_29, o158_30, o158_33, o158_36, o158_37, o158_38, o158_40, o158_43, o158_44, o158_47, o158_48, o158_49, o158_51, o158_52, o158_54, o158_57, o158_60, o158_61, o158_62, o158_65, o158_68, o158_69, o158_71, o158_73, o158_76, o158_77, c_X7_init, mc_pi, mc_pr, mc_pN, mt_pi, mt_pr, mt_pN, mz_pi, mz_pr, mz_pN, mcs_0, mcs_r, Kn_0, true_and, not_false_eq_true, if_true, if_false, and_self, Nat.reduceEqDiff, Nat.reduceLeDiff, Nat.reduceSub, Nat.reduceAdd, Nat.zero_le, kz0, Int32.reduceLT, cl2, cl3, cl8, cl16, cl36, lk_a, lk_b, lk_c, zk, z0, Int32.reduceLT, Nat.add_assoc, Nat.reduceAdd]
  rw [o158_78]
  simp only [o158_79, o158_80, o158_83, o158_84, o158_85, o158_88, o158_91, o158_94, o158_95, o158_96, o158_99, o158_100, o158_101, o158_104, o159_0, o159_1, o159_4, o159_5, o159_8, o159_9, o159_10, o159_13, o159_15, o159_18, o159_20, o159_21, o159_22, o159_25, o159_26, o159_29, o159_30, o159_31, o159_34, o159_35, o159_38, o159_40, o159_41, o159_42, o159_45, o159_46, o159_49, o159_50, o159_51, o159_52, o159_53, o159_54, o159_57, o159_58, o159_59, o159_62, o159_63, o159_66, o159_67, o159_68, o159_69, o159_70, o159_71, o159_74, o159_75, o159_76, o159_79, o159_80, o159_81, o159_82, o160_0, o160_1, o160_4, o160_5, o160_6, o160_9, o160_12, o160_13, o160_14, o160_16, o160_17, o160_19, o160_22, o160_25, o160_28, o160_29, o160_31, o160_33, o160_34, o160_36, o160_39, o160_40, o160_41, o160_44, o160_45, o160_46, o160_47, o160_48, o160_49, o160_52, c_X7_init, mc_pi, mc_pr, mc_pN, mn_pi, mn_pr, mn_pN, mr_pi, mr_pr, mr_pN, mt_pi, mt_pr, mt_pN, mz_pi, mz_pr, mz_pN, mcs_0, mcs_i, mcs_r, Kn_0, mrf_some, kok_0, true_and, and_true, and_false, or_true, not_true_eq_false, not_false_eq_true, false_implies, forall_const, if_true, if_false, and_self, Nat.reduceEqDiff, Nat.reduceLeDiff, Nat.reduceSub, Nat.reduceAdd, Nat.zero_le, Nat.le_refl, i10, i01, kz0, kz1, lt_le, Int32.reduceLT, Int32.reduceAdd, Int32.reduceSub, cl0, cl1, st_v2_0, st_v2_1, st_v3_0, lk_a, lk_b, lk_c, zk, st_tbp, vb0, Int32.reduceLT, Nat.add_assoc, Nat.reduceAdd]
  rw [o158_78]
  simp only [o158_79, o158_80, o158_83, o158_84, o158_85, o158_88, o158_91, o158_94, o158_95, o158_96, o158_99, o158_100, o158_101, o158_104, o159_0, o159_1, o159_4, o159_5, o159_8, o159_9, o159_10, o159_13, o159_15, o159_18, o159_20, o159_21, o159_22, o159_25, o159_26, o159_29, o159_30, o159_31, o159_34, o159_35, o159_38, o159_40, o159_41, o159_42, o159_45, o159_46, o159_49, o159_50, o159_51, o159_52, o159_53, o159_54, o159_57, o159_58, o159_59, o159_62, o159_63, o159_66, o159_67, o159_68, o159_69, o159_70, o159_71, o159_74, o159_75, o159_76, o159_79, o159_80, o159_81, o159_82, o160_0, o160_1, o160_4, o160_5, o160_6, o160_9, o160_12, o160_13, o160_14, o160_16, o160_17, o160_19, o160_22, o160_25, o160_28, o160_29, o160_31, o160_33, o160_34, o160_36, o160_39, o160_40, o160_41, o160_44, o160_45, o160_46, o160_47, o160_48, o160_49, o160_52, c_X7_init, mc_pi, mc_pr, mc_pN, mn_pi, mn_pr, mn_pN, mr_pi, mr_pr, mr_pN, mt_pi, mt_pr, mt_pN, mz_pi, mz_pr, mz_pN, mcs_0, mcs_i, mcs_r, Kn_0, mrf_some, kok_0, true_and, and_true, and_false, or_true, not_true_eq_false, not_false_eq_true, false_implies, forall_const, if_true, if_false, and_self, Nat.reduceEqDiff, Nat.reduceLeDiff, Nat.reduceSub, Nat.reduceAdd, Nat.zero_le, Nat.le_refl, i10, kz0, kz1, lt_le, Int32.reduceLT, Int32.reduceAdd, Int32.reduceSub, cl0, cl1, st_v2_0, st_v2_1, st_v3_1, lk_a, lk_b, lk_c, zk, st_tbp, vb0, Int32.reduceLT, Nat.add_assoc, Nat.reduceAdd]
  rw [o158_78]
  simp only [o158_79, o158_80, o158_83, o158_84, o158_85, o158_88, o158_91, o158_94, o158_95, o158_96, o158_99, o158_100, o158_101, o158_104, o159_0, o159_1, o159_4, o159_5, o159_8, o159_9, o159_10, o159_13, o159_15, o159_18, o159_20, o159_21, o159_22, o159_25, o159_26, o159_29, o159_30, o159_31, o159_34, o159_35, o159_38, o159_40, o159_41, o159_42, o159_45, o159_46, o159_49, o159_50, o159_51, o159_52, o159_53, o159_54, o159_57, o159_58, o159_59, o159_62, o159_63, o159_66, o159_67, o159_68, o159_69, o159_70, o159_71, o159_74, o159_75, o159_76, o159_79, o159_80, o159_81, o159_82, o160_0, o160_1, o160_4, o160_5, o160_6, o160_9, o160_12, o160_13, o160_14, o160_16, o160_17, o160_19, o160_22, o160_25, o160_28, o160_29, o160_31, o160_33, o160_34, o160_36, o160_39, o160_40, o160_41, o160_44, o160_45, o160_46, o160_47, o160_48, o160_49, o160_52, c_X7_init, mc_pi, mc_pr, mc_pN, mn_pi, mn_pr, mn_pN, mr_pi, mr_pr, mr_pN, mt_pi, mt_pr, mt_pN, mz_pi, mz_pr, mz_pN, mcs_0, mcs_i, mcs_r, Kn_0, mrf_some, kok_0, true_and, and_true, and_false, or_true, not_true_eq_false, not_false_eq_true, false_implies, forall_const, if_true, if_false, and_self, Nat.reduceEqDiff, Nat.reduceLeDiff, Nat.reduceSub, Nat.reduceAdd, Nat.zero_le, Nat.le_refl, i10, kz0, kz1, lt_le, Int32.reduceLT, Int32.reduceAdd, Int32.reduceSub, cl0, cl1, cl2, st_v2_0, st_v2_1, st_v3_2, lk_a, lk_b, lk_c, zk, st_tbp, st_20, st_21, vb0, Int32.reduceLT, Nat.add_assoc, Nat.reduceAdd]
  rw [o158_78]
  simp only [o158_79, o158_80, o158_83, o158_84, o158_85, o158_88, o158_91, o158_94, o158_95, o158_96, o158_99, o158_100, o158_101, o158_104, o159_0, o159_1, o159_4, o159_5, o159_8, o159_9, o159_10, o159_13, o159_15, o159_18, o159_20, o159_21, o159_22, o159_25, o159_26, o159_29, o159_30, o159_31, o159_34, o159_35, o159_38, o159_40, o159_41, o159_42, o159_45, o159_46, o159_49, o159_50, o159_51, o159_52, o159_53, o159_54, o159_57, o159_58, o159_59, o159_62, o159_63, o159_66, o159_67, o159_68, o159_69, o159_70, o159_71, o159_74, o159_75, o159_76, o159_79, o159_80, o159_81, o159_82, o160_0, o160_1, o160_4, o160_5, o160_6, o160_9, o160_12, o160_13, o160_14, o160_16, o160_17, o160_19, o160_22, o160_25, o160_28, o160_29, o160_31, o160_33, o160_34, o160_36, o160_39, o160_40, o160_41, o160_44, o160_45, o160_46, o160_47, o160_48, o160_49, o160_52, c_X7_init, mc_pi, mc_pr, mc_pN, mn_pi, mn_pr, mn_pN, mr_pi, mr_pr, mr_pN, mt_pi, mt_pr, mt_pN, mz_pi, mz_pr, mz_pN, mcs_0, mcs_i, mcs_r, Kn_0, mrf_some, kok_0, true_and, and_true, and_false, or_true, not_true_eq_false, not_false_eq_true, false_implies, forall_const, if_true, if_false, and_self, Nat.reduceEqDiff, Nat.reduceLeDiff, Nat.reduceSub, Nat.reduceAdd, Nat.zero_le, Nat.le_refl, i10, kz0, kz1, lt_le, Int32.reduceLT, Int32.reduceAdd, Int32.reduceSub, cl0, cl1, cl3, st_v2_0, st_v2_1, lk_a, lk_b, lk_c, zk, st_tbp, vb0, Int32.reduceLT, Nat.add_assoc, Nat.reduceAdd]
end

section
set_option maxRecDepth 16384
def stT : List Wr := .inl (40, 1, 0) :: (lsh (lcnt stA) stB ++ stA)
theorem stA_c : lcnt stA = 23 := by decide +kernel
theorem stT_c : lcnt stT = 41 := by decide +kernel
theorem stT_w : lwf stT = true := by decide +kernel
def stO (j : Nat) : Nat := [0, 1, 3, 2, 4, 5, 8, 11, 6, 7, 9, 10, 12, 13, 14, 15, 16, 17, 18, 19, 20, 22, 23, 24, 25, 26, 27, 28, 29, 30, 31, 32, 34, 36, 33, 35, 37, 38, 39, 40].getD j (100 + j)
theorem stO_lt : ∀ i, i < 40 → stO i < 41 := by decide +kernel
theorem stO_inj : ∀ i, i < 40 → ∀ j, j < 40 → (stO i = stO j ↔ i = j) := by decide +kernel
theorem start_Rl {h : MH} (hz : g_z h ≤ g_t h) : Rl (fun j => g_t h + stO j) (ld h stT) := by
  have hC : ∀ i, i < 40 → g_c (ld h stT) (g_t h + stO i) = eC stT (stO i) := fun i hi => ld_c h (stO i) stT stT_w (by rw [stT_c]; exact stO_lt i hi)
  have hN : ∀ i, i < 40 → g_n (ld h stT) (g_t h + stO i) = eN stT (stO i) := fun i hi => ld_n h (stO i) stT stT_w (by rw [stT_c]; exact stO_lt i hi)
  have hI : ∀ i, i < 40 → ∀ j, g_i (ld h stT) (g_t h + stO i) j = eI stT (stO i) j := fun i hi j => ld_i h (stO i) j stT stT_w (by rw [stT_c]; exact stO_lt i hi)
  have hL : ∀ i, i < 40 → ∀ j, g_l (ld h stT) (g_t h + stO i) j = 0 := fun i hi j => ld_l h (stO i) j stT stT_w (by rw [stT_c]; exact stO_lt i hi)
  have hR : ∀ i, i < 40 → ∀ j, g_r (ld h stT) (g_t h + stO i) j = (eR stT (stO i) j).map (fun r => g_t h + r) := fun i hi j => ld_r h (stO i) j stT stT_w (by rw [stT_c]; exact stO_lt i hi)
  have e0_6 : g_i (ld h stT) (g_t h + stO 0) 6 = 0 := (hI 0 (by decide) 6).trans (by decide +kernel)
  have e5_3 : g_i (ld h stT) (g_t h + stO 5) 3 = 0 := (hI 5 (by decide) 3).trans (by decide +kernel)
  have e6_3 : g_i (ld h stT) (g_t h + stO 6) 3 = 0 := (hI 6 (by decide) 3).trans (by decide +kernel)
  have e7_3 : g_i (ld h stT) (g_t h + stO 7) 3 = 0 := (hI 7 (by decide) 3).trans (by decide +kernel)
  have e8_4 : g_i (ld h stT) (g_t h + stO 8) 4 = 0 := (hI 8 (by decide) 4).trans (by decide +kernel)
  have e8_5 : g_i (ld h stT) (g_t h + stO 8) 5 = 5 := (hI 8 (by decide) 5).trans (by decide +kernel)
  have e8_6 : g_i (ld h stT) (g_t h + stO 8) 6 = -1 := (hI 8 (by decide) 6).trans (by decide +kernel)
  have e9_4 : g_i (ld h stT) (g_t h + stO 9) 4 = 0 := (hI 9 (by decide) 4).trans (by decide +kernel)
  have e9_5 : g_i (ld h stT) (g_t h + stO 9) 5 = 0 := (hI 9 (by decide) 5).trans (by decide +kernel)
  have e9_6 : g_i (ld h stT) (g_t h + stO 9) 6 = -1 := (hI 9 (by decide) 6).trans (by decide +kernel)
  have e10_4 : g_i (ld h stT) (g_t h + stO 10) 4 = 0 := (hI 10 (by decide) 4).trans (by decide +kernel)
  have e10_5 : g_i (ld h stT) (g_t h + stO 10) 5 = 3 := (hI 10 (by decide) 5).trans (by decide +kernel)
  have e10_6 : g_i (ld h stT) (g_t h + stO 10) 6 = -1 := (hI 10 (by decide) 6).trans (by decide +kernel)
  have e11_4 : g_i (ld h stT) (g_t h + stO 11) 4 = 0 := (hI 11 (by decide) 4).trans (by decide +kernel)
  have e11_5 : g_i (ld h stT) (g_t h + stO 11) 5 = 0 := (hI 11 (by decide) 5).trans (by decide +kernel)
  have e11_6 : g_i (ld h stT) (g_t h + stO 11) 6 = -1 := (hI 11 (by decide) 6).trans (by decide +kernel)
  have e12_4 : g_i (ld h stT) (g_t h + stO 12) 4 = 0 := (hI 12 (by decide) 4).trans (by decide +kernel)
  have e12_5 : g_i (ld h stT) (g_t h + stO 12) 5 = 6 := (hI 12 (by decide) 5).trans (by decide +kernel)
  have e12_6 : g_i (ld h stT) (g_t h + stO 12) 6 = -1 := (hI 12 (by decide) 6).trans (by decide +kernel)
  have e13_4 : g_i (ld h stT) (g_t h + stO 13) 4 = 0 := (hI 13 (by decide) 4).trans (by decide +kernel)
  have e13_5 : g_i (ld h stT) (g_t h + stO 13) 5 = 0 := (hI 13 (by decide) 5).trans (by decide +kernel)
  have e13_6 : g_i (ld h stT) (g_t h + stO 13) 6 = -1 := (hI 13 (by decide) 6).trans (by decide +kernel)
  have e14_4 : g_i (ld h stT) (g_t h + stO 14) 4 = 0 := (hI 14 (by decide) 4).trans (by decide +kernel)
  have e14_5 : g_i (ld h stT) (g_t h + stO 14) 5 = 10 := (hI 14 (by decide) 5).trans (by decide +kernel)
  have e14_6 : g_i (ld h stT) (g_t h + stO 14) 6 = -1 := (hI 14 (by decide) 6).trans (by decide +kernel)
  have e15_1 : g_i (ld h stT) (g_t h + stO 15) 1 = 0 := (hI 15 (by decide) 1).trans (by decide +kernel)
  have e15_2 : g_i (ld h stT) (g_t h + stO 15) 2 = 16 := (hI 15 (by decide) 2).trans (by decide +kernel)
  have e15_3 : g_i (ld h stT) (g_t h + stO 15) 3 = 1 := (hI 15 (by decide) 3).trans (by decide +kernel)
  have e15_4 : g_i (ld h stT) (g_t h + stO 15) 4 = 1 := (hI 15 (by decide) 4).trans (by decide +kernel)
  have e15_5 : g_i (ld h stT) (g_t h + stO 15) 5 = 15 := (hI 15 (by decide) 5).trans (by decide +kernel)
  have e15_6 : g_i (ld h stT) (g_t h + stO 15) 6 = -1 := (hI 15 (by decide) 6).trans (by decide +kernel)
  have e16_1 : g_i (ld h stT) (g_t h + stO 16) 1 = 11 := (hI 16 (by decide) 1).trans (by decide +kernel)
  have e16_2 : g_i (ld h stT) (g_t h + stO 16) 2 = 24 := (hI 16 (by decide) 2).trans (by decide +kernel)
  have e16_3 : g_i (ld h stT) (g_t h + stO 16) 3 = 0 := (hI 16 (by decide) 3).trans (by decide +kernel)
  have e16_4 : g_i (ld h stT) (g_t h + stO 16) 4 = 0 := (hI 16 (by decide) 4).trans (by decide +kernel)
  have e16_5 : g_i (ld h stT) (g_t h + stO 16) 5 = 24 := (hI 16 (by decide) 5).trans (by decide +kernel)
  have e16_6 : g_i (ld h stT) (g_t h + stO 16) 6 = -1 := (hI 16 (by decide) 6).trans (by decide +kernel)
  have e20_1 : g_i (ld h stT) (g_t h + stO 20) 1 = 0 := (hI 20 (by decide) 1).trans (by decide +kernel)
  have e20_3 : g_i (ld h stT) (g_t h + stO 20) 3 = 0 := (hI 20 (by decide) 3).trans (by decide +kernel)
  have e22_6 : g_i (ld h stT) (g_t h + stO 22) 6 = 0 := (hI 22 (by decide) 6).trans (by decide +kernel)
  have e27_0 : g_i (ld h stT) (g_t h + stO 27) 0 = 0 := (hI 27 (by decide) 0).trans (by decide +kernel)
  have e27_1 : g_i (ld h stT) (g_t h + stO 27) 1 = 0 := (hI 27 (by decide) 1).trans (by decide +kernel)
  have e27_2 : g_i (ld h stT) (g_t h + stO 27) 2 = 0 := (hI 27 (by decide) 2).trans (by decide +kernel)
  have e28_3 : g_i (ld h stT) (g_t h + stO 28) 3 = 0 := (hI 28 (by decide) 3).trans (by decide +kernel)
  have e28_4 : g_i (ld h stT) (g_t h + stO 28) 4 = 10 := (hI 28 (by decide) 4).trans (by decide +kernel)
  have e28_5 : g_i (ld h stT) (g_t h + stO 28) 5 = -1 := (hI 28 (by decide) 5).trans (by decide +kernel)
  have e31_3 : g_i (ld h stT) (g_t h + stO 31) 3 = 0 := (hI 31 (by decide) 3).trans (by decide +kernel)
  have e31_4 : g_i (ld h stT) (g_t h + stO 31) 4 = 5 := (hI 31 (by decide) 4).trans (by decide +kernel)
  have e31_5 : g_i (ld h stT) (g_t h + stO 31) 5 = -1 := (hI 31 (by decide) 5).trans (by decide +kernel)
  have e32_3 : g_i (ld h stT) (g_t h + stO 32) 3 = 0 := (hI 32 (by decide) 3).trans (by decide +kernel)
  have e32_4 : g_i (ld h stT) (g_t h + stO 32) 4 = 3 := (hI 32 (by decide) 4).trans (by decide +kernel)
  have e32_5 : g_i (ld h stT) (g_t h + stO 32) 5 = -1 := (hI 32 (by decide) 5).trans (by decide +kernel)
  have e33_3 : g_i (ld h stT) (g_t h + stO 33) 3 = 0 := (hI 33 (by decide) 3).trans (by decide +kernel)
  have e33_4 : g_i (ld h stT) (g_t h + stO 33) 4 = 6 := (hI 33 (by decide) 4).trans (by decide +kernel)
  have e33_5 : g_i (ld h stT) (g_t h + stO 33) 5 = -1 := (hI 33 (by decide) 5).trans (by decide +kernel)
  have e34_3 : g_i (ld h stT) (g_t h + stO 34) 3 = 0 := (hI 34 (by decide) 3).trans (by decide +kernel)
  have e34_4 : g_i (ld h stT) (g_t h + stO 34) 4 = 0 := (hI 34 (by decide) 4).trans (by decide +kernel)
  have e34_5 : g_i (ld h stT) (g_t h + stO 34) 5 = -1 := (hI 34 (by decide) 5).trans (by decide +kernel)
  have e35_3 : g_i (ld h stT) (g_t h + stO 35) 3 = 0 := (hI 35 (by decide) 3).trans (by decide +kernel)
  have e35_4 : g_i (ld h stT) (g_t h + stO 35) 4 = 0 := (hI 35 (by decide) 4).trans (by decide +kernel)
  have e35_5 : g_i (ld h stT) (g_t h + stO 35) 5 = -1 := (hI 35 (by decide) 5).trans (by decide +kernel)
  have e36_3 : g_i (ld h stT) (g_t h + stO 36) 3 = 0 := (hI 36 (by decide) 3).trans (by decide +kernel)
  have e36_4 : g_i (ld h stT) (g_t h + stO 36) 4 = 0 := (hI 36 (by decide) 4).trans (by decide +kernel)
  have e36_5 : g_i (ld h stT) (g_t h + stO 36) 5 = -1 := (hI 36 (by decide) 5).trans (by decide +kernel)
  have e37_0 : g_i (ld h stT) (g_t h + stO 37) 0 = 0 := (hI 37 (by decide) 0).trans (by decide +kernel)
  have e37_1 : g_i (ld h stT) (g_t h + stO 37) 1 = 16 := (hI 37 (by decide) 1).trans (by decide +kernel)
  have e37_2 : g_i (ld h stT) (g_t h + stO 37) 2 = 1 := (hI 37 (by decide) 2).trans (by decide +kernel)
  have e37_3 : g_i (ld h stT) (g_t h + stO 37) 3 = 1 := (hI 37 (by decide) 3).trans (by decide +kernel)
  have e37_4 : g_i (ld h stT) (g_t h + stO 37) 4 = 15 := (hI 37 (by decide) 4).trans (by decide +kernel)
  have e37_5 : g_i (ld h stT) (g_t h + stO 37) 5 = -1 := (hI 37 (by decide) 5).trans (by decide +kernel)
  have e38_0 : g_i (ld h stT) (g_t h + stO 38) 0 = 11 := (hI 38 (by decide) 0).trans (by decide +kernel)
  have e38_1 : g_i (ld h stT) (g_t h + stO 38) 1 = 24 := (hI 38 (by decide) 1).trans (by decide +kernel)
  have e38_2 : g_i (ld h stT) (g_t h + stO 38) 2 = 0 := (hI 38 (by decide) 2).trans (by decide +kernel)
  have e38_3 : g_i (ld h stT) (g_t h + stO 38) 3 = 0 := (hI 38 (by decide) 3).trans (by decide +kernel)
  have e38_4 : g_i (ld h stT) (g_t h + stO 38) 4 = 24 := (hI 38 (by decide) 4).trans (by decide +kernel)
  have e38_5 : g_i (ld h stT) (g_t h + stO 38) 5 = -1 := (hI 38 (by decide) 5).trans (by decide +kernel)
  refine ⟨⟨fun i j hi hj => by rw [Nat.add_left_cancel_iff]; exact stO_inj i hi j hj, ?_, ⟨fun i hi => by rw [ld_z]; exact Nat.le_trans hz (Nat.le_add_right _ _), fun i hi => by rw [ld_t, stT_c]; exact Nat.add_lt_add_left (stO_lt i hi) _⟩, ?_, ?_⟩, ?_, ?_, ?_, ?_, ?_, ?_, ?_, ?_, ?_, ?_, ?_⟩
  · exact ⟨(hC 0 (by decide)).trans (by decide +kernel), (hC 1 (by decide)).trans (by decide +kernel), (hC 2 (by decide)).trans (by decide +kernel), (hC 3 (by decide)).trans (by decide +kernel), (hC 4 (by decide)).trans (by decide +kernel), (hC 5 (by decide)).trans (by decide +kernel), (hC 6 (by decide)).trans (by decide +kernel), (hC 7 (by decide)).trans (by decide +kernel), (hC 8 (by decide)).trans (by decide +kernel), (hC 9 (by decide)).trans (by decide +kernel), (hC 10 (by decide)).trans (by decide +kernel), (hC 11 (by decide)).trans (by decide +kernel), (hC 12 (by decide)).trans (by decide +kernel), (hC 13 (by decide)).trans (by decide +kernel), (hC 14 (by decide)).trans (by decide +kernel), (hC 15 (by decide)).trans (by decide +kernel), (hC 16 (by decide)).trans (by decide +kernel), (hC 17 (by decide)).trans (by decide +kernel), (hC 18 (by decide)).trans (by decide +kernel), (hC 19 (by decide)).trans (by decide +kernel), (hC 20 (by decide)).trans (by decide +kernel), (hC 21 (by decide)).trans (by decide +kernel), (hC 22 (by decide)).trans (by decide +kernel), (hC 23 (by decide)).trans (by decide +kernel), (hC 24 (by decide)).trans (by decide +kernel), (hC 25 (by decide)).trans (by decide +kernel), (hC 26 (by decide)).trans (by decide +kernel), (hC 27 (by decide)).trans (by decide +kernel), (hC 28 (by decide)).trans (by decide +kernel), (hC 29 (by decide)).trans (by decide +kernel), (hC 30 (by decide)).trans (by decide +kernel), (hC 31 (by decide)).trans (by decide +kernel), (hC 32 (by decide)).trans (by decide +kernel), (hC 33 (by decide)).trans (by decide +kernel), (hC 34 (by decide)).trans (by decide +kernel), (hC 35 (by decide)).trans (by decide +kernel), (hC 36 (by decide)).trans (by decide +kernel), (hC 37 (by decide)).trans (by decide +kernel), (hC 38 (by decide)).trans (by decide +kernel), (hC 39 (by decide)).trans (by decide +kernel)⟩
  · exact ⟨(hN 3 (by decide)).trans (by decide +kernel), (hN 4 (by decide)).trans (by decide +kernel), (hN 18 (by decide)).trans (by decide +kernel), (hN 21 (by decide)).trans (by decide +kernel), (hN 23 (by decide)).trans (by decide +kernel), (hN 24 (by decide)).trans (by decide +kernel), (hN 25 (by decide)).trans (by decide +kernel), (hN 26 (by decide)).trans (by decide +kernel), (hN 27 (by decide)).trans (by decide +kernel), (hN 29 (by decide)).trans (by decide +kernel), (hN 30 (by decide)).trans (by decide +kernel)⟩
  · exact ⟨(hR 0 (by decide) 0).trans (by rw [show eR stT (stO 0) 0 = some (stO 1) by decide +kernel]; rfl), (hR 0 (by decide) 1).trans (by rw [show eR stT (stO 0) 1 = some (stO 2) by decide +kernel]; rfl), (hR 0 (by decide) 2).trans (by rw [show eR stT (stO 0) 2 = some (stO 5) by decide +kernel]; rfl), (hR 0 (by decide) 3).trans (by rw [show eR stT (stO 0) 3 = some (stO 6) by decide +kernel]; rfl), (hR 0 (by decide) 4).trans (by rw [show eR stT (stO 0) 4 = some (stO 7) by decide +kernel]; rfl), (hR 0 (by decide) 5).trans (by rw [show eR stT (stO 0) 5 = some (stO 14) by decide +kernel]; rfl), (hR 0 (by decide) 7).trans (by rw [show eR stT (stO 0) 7 = some (stO 15) by decide +kernel]; rfl), (hR 0 (by decide) 8).trans (by rw [show eR stT (stO 0) 8 = some (stO 16) by decide +kernel]; rfl), (hR 0 (by decide) 9).trans (by rw [show eR stT (stO 0) 9 = some (stO 17) by decide +kernel]; rfl), (hR 0 (by decide) 10).trans (by rw [show eR stT (stO 0) 10 = some (stO 19) by decide +kernel]; rfl), (hR 1 (by decide) 0).trans (by rw [show eR stT (stO 1) 0 = some (stO 3) by decide +kernel]; rfl), (hR 2 (by decide) 0).trans (by rw [show eR stT (stO 2) 0 = some (stO 4) by decide +kernel]; rfl), (hR 5 (by decide) 0).trans (by rw [show eR stT (stO 5) 0 = some (stO 8) by decide +kernel]; rfl), (hR 5 (by decide) 1).trans (by rw [show eR stT (stO 5) 1 = some (stO 9) by decide +kernel]; rfl), (hR 6 (by decide) 0).trans (by rw [show eR stT (stO 6) 0 = some (stO 10) by decide +kernel]; rfl), (hR 6 (by decide) 1).trans (by rw [show eR stT (stO 6) 1 = some (stO 11) by decide +kernel]; rfl), (hR 7 (by decide) 0).trans (by rw [show eR stT (stO 7) 0 = some (stO 12) by decide +kernel]; rfl), (hR 7 (by decide) 1).trans (by rw [show eR stT (stO 7) 1 = some (stO 13) by decide +kernel]; rfl), (hR 8 (by decide) 0).trans (by rw [show eR stT (stO 8) 0 = some (stO 1) by decide +kernel]; rfl), (hR 9 (by decide) 0).trans (by rw [show eR stT (stO 9) 0 = some (stO 1) by decide +kernel]; rfl), (hR 10 (by decide) 0).trans (by rw [show eR stT (stO 10) 0 = some (stO 1) by decide +kernel]; rfl), (hR 11 (by decide) 0).trans (by rw [show eR stT (stO 11) 0 = some (stO 1) by decide +kernel]; rfl), (hR 12 (by decide) 0).trans (by rw [show eR stT (stO 12) 0 = some (stO 1) by decide +kernel]; rfl), (hR 13 (by decide) 0).trans (by rw [show eR stT (stO 13) 0 = some (stO 1) by decide +kernel]; rfl), (hR 14 (by decide) 0).trans (by rw [show eR stT (stO 14) 0 = some (stO 2) by decide +kernel]; rfl), (hR 15 (by decide) 0).trans (by rw [show eR stT (stO 15) 0 = some (stO 1) by decide +kernel]; rfl), (hR 16 (by decide) 0).trans (by rw [show eR stT (stO 16) 0 = some (stO 2) by decide +kernel]; rfl), (hR 17 (by decide) 0).trans (by rw [show eR stT (stO 17) 0 = some (stO 18) by decide +kernel]; rfl), (hR 19 (by decide) 0).trans (by rw [show eR stT (stO 19) 0 = some (stO 20) by decide +kernel]; rfl), (hR 19 (by decide) 1).trans (by rw [show eR stT (stO 19) 1 = some (stO 21) by decide +kernel]; rfl), (hR 22 (by decide) 0).trans (by rw [show eR stT (stO 22) 0 = some (stO 23) by decide +kernel]; rfl), (hR 22 (by decide) 1).trans (by rw [show eR stT (stO 22) 1 = some (stO 24) by decide +kernel]; rfl), (hR 22 (by decide) 2).trans (by rw [show eR stT (stO 22) 2 = some (stO 25) by decide +kernel]; rfl), (hR 22 (by decide) 3).trans (by rw [show eR stT (stO 22) 3 = some (stO 26) by decide +kernel]; rfl), (hR 22 (by decide) 4).trans (by rw [show eR stT (stO 22) 4 = some (stO 27) by decide +kernel]; rfl), (hR 22 (by decide) 5).trans (by rw [show eR stT (stO 22) 5 = some (stO 28) by decide +kernel]; rfl), (hR 22 (by decide) 7).trans (by rw [show eR stT (stO 22) 7 = some (stO 29) by decide +kernel]; rfl), (hR 22 (by decide) 8).trans (by rw [show eR stT (stO 22) 8 = some (stO 30) by decide +kernel]; rfl), (hR 25 (by decide) 0).trans (by rw [show eR stT (stO 25) 0 = some (stO 31) by decide +kernel]; rfl), (hR 25 (by decide) 1).trans (by rw [show eR stT (stO 25) 1 = some (stO 32) by decide +kernel]; rfl), (hR 25 (by decide) 2).trans (by rw [show eR stT (stO 25) 2 = some (stO 33) by decide +kernel]; rfl), (hR 26 (by decide) 0).trans (by rw [show eR stT (stO 26) 0 = some (stO 34) by decide +kernel]; rfl), (hR 26 (by decide) 1).trans (by rw [show eR stT (stO 26) 1 = some (stO 35) by decide +kernel]; rfl), (hR 26 (by decide) 2).trans (by rw [show eR stT (stO 26) 2 = some (stO 36) by decide +kernel]; rfl), (hR 29 (by decide) 0).trans (by rw [show eR stT (stO 29) 0 = some (stO 37) by decide +kernel]; rfl), (hR 29 (by decide) 1).trans (by rw [show eR stT (stO 29) 1 = some (stO 38) by decide +kernel]; rfl)⟩
  · exact ⟨(hI 5 (by decide) 2).trans (by decide +kernel), (hI 6 (by decide) 2).trans (by decide +kernel), (hI 7 (by decide) 2).trans (by decide +kernel), (hI 8 (by decide) 1).trans (by decide +kernel), (hI 8 (by decide) 2).trans (by decide +kernel), (hI 8 (by decide) 3).trans (by decide +kernel), (hI 9 (by decide) 1).trans (by decide +kernel), (hI 9 (by decide) 2).trans (by decide +kernel), (hI 9 (by decide) 3).trans (by decide +kernel), (hI 10 (by decide) 1).trans (by decide +kernel), (hI 10 (by decide) 2).trans (by decide +kernel), (hI 10 (by decide) 3).trans (by decide +kernel), (hI 11 (by decide) 1).trans (by decide +kernel), (hI 11 (by decide) 2).trans (by decide +kernel), (hI 11 (by decide) 3).trans (by decide +kernel), (hI 12 (by decide) 1).trans (by decide +kernel), (hI 12 (by decide) 2).trans (by decide +kernel), (hI 12 (by decide) 3).trans (by decide +kernel), (hI 13 (by decide) 1).trans (by decide +kernel), (hI 13 (by decide) 2).trans (by decide +kernel), (hI 13 (by decide) 3).trans (by decide +kernel), (hI 14 (by decide) 1).trans (by decide +kernel), (hI 14 (by decide) 2).trans (by decide +kernel), (hI 14 (by decide) 3).trans (by decide +kernel), (hI 28 (by decide) 0).trans (by decide +kernel), (hI 28 (by decide) 1).trans (by decide +kernel), (hI 31 (by decide) 0).trans (by decide +kernel), (hI 31 (by decide) 1).trans (by decide +kernel), (hI 32 (by decide) 0).trans (by decide +kernel), (hI 32 (by decide) 1).trans (by decide +kernel), (hI 33 (by decide) 0).trans (by decide +kernel), (hI 33 (by decide) 1).trans (by decide +kernel), (hI 34 (by decide) 0).trans (by decide +kernel), (hI 34 (by decide) 1).trans (by decide +kernel), (hI 35 (by decide) 0).trans (by decide +kernel), (hI 35 (by decide) 1).trans (by decide +kernel), (hI 36 (by decide) 0).trans (by decide +kernel), (hI 36 (by decide) 1).trans (by decide +kernel)⟩
  · simp only [Vq0, cT, mT, e5_3, e8_4, e8_5, e8_6, e9_4, e9_5, e9_6, e27_0, e31_3, e31_4, e31_5, e34_3, e34_4, e34_5]
    exact ⟨trivial, by decide +kernel⟩
  · simp only [Vq1, cT, mT, e6_3, e10_4, e10_5, e10_6, e11_4, e11_5, e11_6, e27_1, e32_3, e32_4, e32_5, e35_3, e35_4, e35_5]
    exact ⟨trivial, by decide +kernel⟩
  · simp only [Vq2, cT, mT, e7_3, e12_4, e12_5, e12_6, e13_4, e13_5, e13_6, e27_2, e33_3, e33_4, e33_5, e36_3, e36_4, e36_5]
    exact ⟨trivial, by decide +kernel⟩
  · simp only [Vp, e0_6, e14_4, e14_5, e14_6, e22_6, e28_3, e28_4, e28_5]
    exact ⟨⟨trivial, trivial, trivial, trivial⟩, by decide +kernel⟩
  · simp only [Vl0, lnOk, e15_1, e15_2, e15_3, e15_4, e15_5, e15_6, e37_0, e37_1, e37_2, e37_3, e37_4, e37_5]
    decide
  · simp only [Vl1, lnOk, e16_1, e16_2, e16_3, e16_4, e16_5, e16_6, e38_0, e38_1, e38_2, e38_3, e38_4, e38_5]
    decide
  · intro k _
    simp only [hL 3 (by decide), hL 23 (by decide)]
  · intro k hk
    have z : ∀ k, k < 36 → eI stT (stO 24) k = 0 := by decide +kernel
    simp only [hL 4 (by decide), hI 24 (by decide), z k hk]
    decide
  · intro k hk
    have z : ∀ k, k < 8 → eI stT (stO 18) k = eI stT (stO 30) k := by decide +kernel
    simp only [hI 18 (by decide), hI 30 (by decide), z k hk]
  · refine ⟨g_t h + 21, (hR 20 (by decide) 0).trans (by rw [show eR stT (stO 20) 0 = some 21 by decide +kernel]; rfl), (ld_c h 21 stT stT_w (by rw [stT_c]; decide)).trans (by decide +kernel), by rw [ld_z]; omega, by rw [ld_t, stT_c]; omega, ?_, ?_, e20_1, ?_, ?_⟩
    · rw [ld_n h 21 stT stT_w (by rw [stT_c]; decide)]
      exact Or.inl (by decide +kernel)
    · rw [ld_n h 21 stT stT_w (by rw [stT_c]; decide)]
      decide +kernel
    · rw [e20_3]; decide
    · rw [e20_3]; exact Nat.zero_le _
theorem start {scr B1 B2 : Nat} {h : MH} {Q : MR → MH → Prop} (hz : g_z h ≤ g_t h) (hb1 : 43 ≤ B1) (hb2 : 540 ≤ B2) (k : Ok 328 27 [.ref scr, .ref (g_t h), .ref (g_t h + 23), .ref (g_t h + 40), .int 0, mk0, mk0] [] (ld h stT) (B1 - 43) (B2 - 540) Q) : Ok 328 0 [.ref scr, mk0, mk0, mk0, mk0, mk0, mk0] [] h B1 B2 Q := by
  have b1 : (1 ≤ B1) = True := eq_true (by omega)
  have b2 : (11 ≤ B2) = True := eq_true (by omega)
  have b3 : (22 ≤ B1 - 1) = True := eq_true (by omega)
  have b4 : (199 ≤ B2 - 11) = True := eq_true (by omega)
  have b5 : (1 ≤ B1 - 1 - 22) = True := eq_true (by omega)
  have b6 : (10 ≤ B2 - 11 - 199) = True := eq_true (by omega)
  have b7 : (18 ≤ B1 - 1 - 22 - 1) = True := eq_true (by omega)
  have b8 : (318 ≤ B2 - 11 - 199 - 10) = True := eq_true (by omega)
  have b9 : (1 ≤ B1 - 1 - 22 - 1 - 18) = True := eq_true (by omega)
  have b10 : (2 ≤ B2 - 11 - 199 - 10 - 318) = True := eq_true (by omega)
  have q1 : B1 - 1 - 22 - 1 - 18 - 1 = B1 - 43 := by omega
  have q2 : B2 - 11 - 199 - 10 - 318 - 2 = B2 - 540 := by omega
  have hz1 : g_z (ld h stA) ≤ g_t (ld h stA) := by rw [ld_z, ld_t]; omega
  have t1 : g_t (ld h stA) = g_t h + 23 := by rw [ld_t, stA_c]
  have t2 : g_t (ld (ld h stA) stB) = g_t h + 40 := by rw [ld_app, ld_t]; exact congrArg (fun n => g_t h + n) (by decide +kernel)
  have em : p_N (ld (ld h stA) stB) 1 0 = ld h stT := by rw [ld_app]; rfl
  have k9 : g_c (p_N (ld h stA) 9 0) (g_t (ld h stA)) = 9 := by rw [mc_pN, if_pos rfl]
  have k7 : g_c (p_N h 7 0) (g_t h) = 7 := by rw [mc_pN, if_pos rfl]
  have k1 : g_c (p_N (ld (ld h stA) stB) 1 0) (g_t (ld (ld h stA) stB)) = 1 := by rw [mc_pN, if_pos rfl]
  rw [o328_0]
  simp only [o328_3, o328_4, o328_7, o328_8, o328_11, o328_12, o328_15, o328_16, o328_19, o328_20, o328_23, o328_24, o328_25, o149_0, o149_1, o149_4, mcs_0, mcs_r, Kn_0, true_and, Nat.reduceLeDiff, Nat.reduceAdd, Nat.zero_le, k7, st_X5 hz, st_X8 hz1, k9, k1, b1, b2, b3, b4, b5, b6, b7, b8, b9, b10]
  rw [em, t1, t2, q1, q2]
  exact k
theorem ld_Lw {h : MH} (hz : g_z h ≤ g_t h) : ∀ T, Lw h (ld h T)
  | [] => Lw_rfl
  | .inl (_, _, _) :: T => Lw_tr (ld_Lw hz T) (Lw_pN (by rw [ld_z, ld_t]; omega))
  | .inr (.inl (_, _, _)) :: T => Lw_tr (ld_Lw hz T) (Lw_pi (by rw [ld_z]; omega))
  | .inr (.inr (_, _, _)) :: T => Lw_tr (ld_Lw hz T) (Lw_pr (by rw [ld_z]; omega))
theorem law_ok {scr n : Nat} {h : MH} {Q : MR → MH → Prop} (hn : n ≤ 256) (C : Cs h) (S : Scr scr n h) (hQ : ∀ m, Q (.inl (some (.int 1))) m) : Ok 328 0 [.ref scr, mk0, mk0, mk0, mk0, mk0, mk0] [] h 52907 6333916 Q := by
  have hz := S.2.2.2
  have lo : Lw h (ld h stT) := ld_Lw hz stT
  refine start hz (by omega) (by omega) ?_
  exact law_loop hn hQ 64 0 _ _ mk0 mk0 rfl (start_Rl hz) (Cs_Lw C lo) (Scr_Lw S lo).1
end

/-! squeeze -/
theorem mvL_pi {h : MH} {a k cs f p n : Nat} {v : Int32} : mvL (p_i h a k v) cs f p n = p_i (mvL h cs f p n) a k v := id rfl
theorem mT_mvL {h : MH} {a k w r cs f p n : Nat} : mT (mvL h cs f p n) a k w r = mT h a k w r := id rfl
theorem mvL_far2 {h : MH} {cs f p n j : Nat} (hj : n ≤ j) : g_l (mvL h cs f p n) cs (f + p + j) = g_l h cs (f + j + p) := by
  rw [mvL_l, if_neg (by omega)]
  congr 1
  omega
theorem n_irr {a : Nat} : (Int32.ofNat a < Int32.ofNat a) = False := by
  apply eq_false
  rw [Int32.lt_iff_toInt_lt]
  omega
theorem n_m1 {a : Nat} (h : a < 2147483648) : (Int32.ofNat a < -1) = False := by
  apply eq_false
  rw [Int32.lt_iff_toInt_lt, Int32.toInt_ofNat_of_lt (by omega)]
  have : (-1 : Int32).toInt = -1 := rfl
  omega
theorem n_z {a : Nat} (h : a < 2147483648) : (Int32.ofNat a < 0) = False := by
  apply eq_false
  rw [Int32.lt_iff_toInt_lt, Int32.toInt_ofNat_of_lt (by omega)]
  have : (0 : Int32).toInt = 0 := rfl
  omega
theorem c_X1_compact {q w r rw cs R F N P L : Nat} {h : MH} {Q : MR → MH → Prop} (q1 : g_c h q = 5) (q3 : g_r h q 0 = some w) (q4 : g_r h q 1 = some r) (w1 : g_c h w = 4) (v1 : g_c h r = 4) (q2 : g_z h ≤ q) (w2 : g_z h ≤ w) (v2 : g_z h ≤ r) (s1 : g_i h w 2 = Int32.ofNat N) (s2 : g_i h r 2 = Int32.ofNat N) (s3 : g_i h q 2 = 0) (n1 : ¬ w = r) (n2 : ¬ r = w) (n3 : ¬ q = w) (n4 : ¬ w = q) (n5 : ¬ q = r) (n6 : ¬ r = q) (w3 : g_r h w 0 = some rw) (r1 : g_c h rw = 3) (r2 : g_r h rw 0 = some cs) (r3 : g_c h cs = 102) (r4 : g_n h cs = R) (r5 : g_z h ≤ cs) (s0 : g_i h w 3 = 0) (a1 : g_i h w 1 = Int32.ofNat F) (a4 : g_i h w 4 = Int32.ofNat L) (a6 : g_i h w 6 = -1) (c4 : g_i h r 4 = Int32.ofNat P) (c5 : g_i h r 5 = Int32.ofNat L) (ar : g_i h q 3 = 0) (b1 : P ≤ L) (b2 : L ≤ N) (b3 : F + N ≤ R) (b4 : R < 1000) : Ok 20 0 [.ref q] [] h 0 0 Q ↔ Q (.inl none) (cW (mvL h cs F P (L - P)) q w r (Int32.ofNat (L - P), Int32.ofNat N, -1, 0, Int32.ofNat (L - P), -1, 0)) := by
  have d1 : (Int32.ofNat L < Int32.ofNat L) = False := n_irr
  have d2 : (Int32.ofNat L < -1) = False := n_m1 (by omega)
  have d3 : (Int32.ofNat P < -1) = False := n_m1 (by omega)
  have d4 : (Int32.ofNat N < Int32.ofNat (L - P)) = False := by rw [n_lt (by omega) (by omega)]; exact eq_false (by omega)
  have d5 : (Int32.ofNat (L - P) < 0) = False := n_z (by omega)
  have d6 : (Int32.ofNat (L - P) < -1) = False := n_m1 (by omega)
  have d7 : (Int32.ofNat N < -1) = False := n_m1 (by omega)
  simp only [o20_0, o20_1, o20_4, o20_5, o20_8, o20_11, o20_14, o20_15, o20_18, o20_19, o20_22, o20_25, o20_28, o20_29, o20_32, o20_35, o20_36, o20_39, o20_42, o20_43, o20_46, c_X3_setLimit, c_X3_setPlace, c_X3_rewind, c_X3_compact (rw := rw) (cs := cs) (R := R) (F := F) (N := N) (P := P) (L := L), c_X1_settle (w := w) (r := r) (sz := Int32.ofNat N) (ring := 0), mc_pi, mn_pi, mi_pi, mr_pi, mz_pi, mcs_0, Kn_0, mrf_some, true_and, and_true, and_false, not_false_eq_true, if_true, if_false, and_self, Nat.reduceEqDiff, Nat.zero_le, mvL_c, mvL_r, mvL_i, mvL_z, q1, q3, q4, w1, v1, q2, w2, v2, s1, s2, s3, n1, n2, n3, n4, n5, n6, w3, r1, r2, r3, r4, r5, s0, a1, a4, a6, c4, c5, b1, b2, b3, b4, d1, d2, d3]
  simp only [seF, enF, cT, liP, liM, mi_pi, and_true, and_false, if_true, if_false, and_self, Nat.reduceEqDiff, Int32.reduceLT, mvL_i, n1, n2, n3, n5, a4, a6, c4, c5, ar, mvL_pi, cW_0, cW_1, cW_2, cW_3, cW_5, d4, d5, d6, d7]
  all_goals (try exact Iff.rfl)

theorem msq_step {m lr P n j : Nat} {h : MH} {Q : MR → MH → Prop} (m1 : g_c h m = 9) (g1 : g_r h m 0 = some lr) (g2 : g_c h lr = 102) (g3 : g_n h lr = 16) (g4 : g_z h ≤ lr) (b1 : 9 + P + n ≤ 16) (hj : j < n) : Ok 195 23 [.ref m, .int (Int32.ofNat P), .int (Int32.ofNat n), .int (Int32.ofNat j)] [] (mvL h lr 9 P j) 0 0 Q ↔ Ok 195 23 [.ref m, .int (Int32.ofNat P), .int (Int32.ofNat n), .int (Int32.ofNat (j + 1))] [] (mvL h lr 9 P (j + 1)) 0 0 Q := by
  have c1 : (Int32.ofNat j < Int32.ofNat n) = True := by rw [n_lt (by omega) (by omega)]; exact eq_true hj
  have e1 : 9 + Int32.ofNat j = Int32.ofNat (9 + j) := n_add 9 j
  have e2 : 9 + Int32.ofNat P = Int32.ofNat (9 + P) := n_add 9 P
  have c4 : vp_in (Int32.ofNat (9 + P + j)) 16 := (n_rdy (n := 16) (by omega) (by omega)).2.2
  have c7 : vp_in (Int32.ofNat (9 + j)) 16 := (n_rdy (n := 16) (by omega) (by omega)).2.2
  have c8 : (Int32.ofNat (9 + P + j)).toNatClampNeg = 9 + P + j := n_cl (by omega)
  have c9 : (Int32.ofNat (9 + j)).toNatClampNeg = 9 + j := n_cl (by omega)
  have c10 : Int32.ofNat j + 1 = Int32.ofNat (j + 1) := n_add j 1
  have c11 := mvL_far2 (h := h) (cs := lr) (f := 9) (p := P) (n := j) (j := j) (Nat.le_refl _)
  rw [o195_23]
  simp only [o195_24, o195_25, o195_28, o195_29, o195_32, o195_34, o195_35, o195_36, o195_37, o195_40, o195_42, o195_43, o195_44, o195_45, o195_46, o195_47, o195_48, o195_51, mvL_c, mvL_n, mvL_r, mvL_z, mrf_some, true_and, not_true_eq_false, not_false_eq_true, false_implies, forall_const, and_self, lt_le, m1, g1, g2, g3, g4, e1, e2, n_add, c1, c4, c7, c8, c9, c10, c11, mvL_s]

theorem msq_loop {m lr P n : Nat} {h : MH} {Q : MR → MH → Prop} (m1 : g_c h m = 9) (g1 : g_r h m 0 = some lr) (g2 : g_c h lr = 102) (g3 : g_n h lr = 16) (g4 : g_z h ≤ lr) (b1 : 9 + P + n ≤ 16) : ∀ d j : Nat, j + d = n → (Ok 195 23 [.ref m, .int (Int32.ofNat P), .int (Int32.ofNat n), .int (Int32.ofNat j)] [] (mvL h lr 9 P j) 0 0 Q ↔ Ok 195 23 [.ref m, .int (Int32.ofNat P), .int (Int32.ofNat n), .int (Int32.ofNat n)] [] (mvL h lr 9 P n) 0 0 Q)
  | 0, j, hd => by
    have : j = n := by omega
    subst this
    exact Iff.rfl
  | d + 1, j, hd => (msq_step (n := n) (j := j) m1 g1 g2 g3 g4 b1 (by omega)).trans (msq_loop m1 g1 g2 g3 g4 b1 d (j + 1) (by omega))

theorem msq_all {m lr P n : Nat} {h : MH} {Q : MR → MH → Prop} (m1 : g_c h m = 9) (g1 : g_r h m 0 = some lr) (g2 : g_c h lr = 102) (g3 : g_n h lr = 16) (g4 : g_z h ≤ lr) (b1 : 9 + P + n ≤ 16) : Ok 195 23 [.ref m, .int (Int32.ofNat P), .int (Int32.ofNat n), .int 0] [] h 0 0 Q ↔ Ok 195 54 [.ref m, .int (Int32.ofNat P), .int (Int32.ofNat n), .int (Int32.ofNat n)] [] (mvL h lr 9 P n) 0 0 Q := by
  have lp := msq_loop (Q := Q) m1 g1 g2 g3 g4 b1 n 0 (by omega)
  rw [mvL_0] at lp
  rw [show (0 : Int32) = Int32.ofNat 0 from rfl, lp, o195_23]
  simp only [o195_24, o195_25, and_true, not_true_eq_false, not_false_eq_true, false_implies, forall_const, lt_le, n_irr]
  all_goals (try exact Iff.rfl)

theorem Vq0_mvL3 {A : Nat → Nat} {m : MH} {f p n : Nat} (hA : inj40 A) : Vq0 A (mvL m (A 3) f p n) = Vq0 A m := by
  simp only [Vq0, cT, mT, mvL_i]
theorem Vq0_mvL23 {A : Nat → Nat} {m : MH} {f p n : Nat} (hA : inj40 A) : Vq0 A (mvL m (A 23) f p n) = Vq0 A m := by
  simp only [Vq0, cT, mT, mvL_i]
theorem Vq1_mvL3 {A : Nat → Nat} {m : MH} {f p n : Nat} (hA : inj40 A) : Vq1 A (mvL m (A 3) f p n) = Vq1 A m := by
  simp only [Vq1, cT, mT, mvL_i]
theorem Vq1_mvL23 {A : Nat → Nat} {m : MH} {f p n : Nat} (hA : inj40 A) : Vq1 A (mvL m (A 23) f p n) = Vq1 A m := by
  simp only [Vq1, cT, mT, mvL_i]
theorem Vp_mvL3 {A : Nat → Nat} {m : MH} {f p n : Nat} (hA : inj40 A) : Vp A (mvL m (A 3) f p n) = Vp A m := by
  simp only [Vp, mvL_i]
theorem Vp_mvL23 {A : Nat → Nat} {m : MH} {f p n : Nat} (hA : inj40 A) : Vp A (mvL m (A 23) f p n) = Vp A m := by
  simp only [Vp, mvL_i]
theorem Vl0_mvL3 {A : Nat → Nat} {m : MH} {f p n : Nat} (hA : inj40 A) : Vl0 A (mvL m (A 3) f p n) = Vl0 A m := by
  simp only [Vl0, mvL_i]
theorem Vl0_mvL23 {A : Nat → Nat} {m : MH} {f p n : Nat} (hA : inj40 A) : Vl0 A (mvL m (A 23) f p n) = Vl0 A m := by
  simp only [Vl0, mvL_i]
theorem Vl1_mvL3 {A : Nat → Nat} {m : MH} {f p n : Nat} (hA : inj40 A) : Vl1 A (mvL m (A 3) f p n) = Vl1 A m := by
  simp only [Vl1, mvL_i]
theorem Vl1_mvL23 {A : Nat → Nat} {m : MH} {f p n : Nat} (hA : inj40 A) : Vl1 A (mvL m (A 23) f p n) = Vl1 A m := by
  simp only [Vl1, mvL_i]
theorem Vsr_mvL3 {A : Nat → Nat} {m : MH} {f p n : Nat} (hA : inj40 A) : Vsr A (mvL m (A 3) f p n) = Vsr A m := by
  simp only [Vsr, mvL_i, mvL_l, false_and, if_false, Nat.reduceEqDiff, (hA_4_3 hA)]
theorem Vsr_mvL23 {A : Nat → Nat} {m : MH} {f p n : Nat} (hA : inj40 A) : Vsr A (mvL m (A 23) f p n) = Vsr A m := by
  simp only [Vsr, mvL_i, mvL_l, false_and, if_false, Nat.reduceEqDiff, (hA_4_23 hA)]
theorem Cn_mvL3 {A : Nat → Nat} {m : MH} {f p n : Nat} (hA : inj40 A) : Cn A (mvL m (A 3) f p n) = Cn A m := by
  simp only [Cn, mvL_i]
theorem Cn_mvL23 {A : Nat → Nat} {m : MH} {f p n : Nat} (hA : inj40 A) : Cn A (mvL m (A 23) f p n) = Cn A m := by
  simp only [Cn, mvL_i]
theorem Tx_mvL3 {A : Nat → Nat} {m : MH} {f p n : Nat} (hA : inj40 A) : Tx A (mvL m (A 3) f p n) = Tx A m := by
  simp only [Tx, mvL_i, mvL_r, mvL_c, mvL_n, mvL_z, mvL_t]
theorem Tx_mvL23 {A : Nat → Nat} {m : MH} {f p n : Nat} (hA : inj40 A) : Tx A (mvL m (A 23) f p n) = Tx A m := by
  simp only [Tx, mvL_i, mvL_r, mvL_c, mvL_n, mvL_z, mvL_t]
theorem Cn_33_3 {A : Nat → Nat} {h : MH} {v : Int32} (hA : inj40 A) : Cn A (p_i h (A 33) 3 v) = Cn A h := by
  simp only [Cn, mi_pi, Nat.reduceEqDiff, and_false, if_false, false_and, (hA_5_33 hA), (hA_6_33 hA), (hA_7_33 hA), (hA_8_33 hA), (hA_9_33 hA), (hA_10_33 hA), (hA_11_33 hA), (hA_12_33 hA), (hA_13_33 hA), (hA_14_33 hA), (hA_28_33 hA), (hA_31_33 hA), (hA_32_33 hA), (hA_34_33 hA), (hA_35_33 hA), (hA_36_33 hA)]
theorem Cn_36_3 {A : Nat → Nat} {h : MH} {v : Int32} (hA : inj40 A) : Cn A (p_i h (A 36) 3 v) = Cn A h := by
  simp only [Cn, mi_pi, Nat.reduceEqDiff, and_false, if_false, false_and, (hA_5_36 hA), (hA_6_36 hA), (hA_7_36 hA), (hA_8_36 hA), (hA_9_36 hA), (hA_10_36 hA), (hA_11_36 hA), (hA_12_36 hA), (hA_13_36 hA), (hA_14_36 hA), (hA_28_36 hA), (hA_31_36 hA), (hA_32_36 hA), (hA_33_36 hA), (hA_34_36 hA), (hA_35_36 hA)]
theorem Cn_36_4 {A : Nat → Nat} {h : MH} {v : Int32} (hA : inj40 A) : Cn A (p_i h (A 36) 4 v) = Cn A h := by
  simp only [Cn, mi_pi, Nat.reduceEqDiff, and_false, if_false, (hA_5_36 hA), (hA_6_36 hA), (hA_7_36 hA), (hA_8_36 hA), (hA_9_36 hA), (hA_10_36 hA), (hA_11_36 hA), (hA_12_36 hA), (hA_13_36 hA), (hA_14_36 hA), (hA_28_36 hA), (hA_31_36 hA), (hA_32_36 hA), (hA_33_36 hA), (hA_34_36 hA), (hA_35_36 hA)]
theorem Cn_36_5 {A : Nat → Nat} {h : MH} {v : Int32} (hA : inj40 A) : Cn A (p_i h (A 36) 5 v) = Cn A h := by
  simp only [Cn, mi_pi, Nat.reduceEqDiff, and_false, if_false, (hA_5_36 hA), (hA_6_36 hA), (hA_7_36 hA), (hA_8_36 hA), (hA_9_36 hA), (hA_10_36 hA), (hA_11_36 hA), (hA_12_36 hA), (hA_13_36 hA), (hA_14_36 hA), (hA_28_36 hA), (hA_31_36 hA), (hA_32_36 hA), (hA_33_36 hA), (hA_34_36 hA), (hA_35_36 hA)]
theorem Vlr_mv {A : Nat → Nat} {h m : MH} {F P n : Nat} (v : Vlr A h) (hb : F + n + P ≤ 16) (e1 : ∀ k, g_l m (A 3) k = if F ≤ k ∧ k < F + n then g_l h (A 3) (k + P) else g_l h (A 3) k) (e2 : ∀ k, g_l m (A 23) k = if F ≤ k ∧ k < F + n then g_l h (A 23) (k + P) else g_l h (A 23) k) : Vlr A m := by
  intro k hk
  rw [e1, e2]
  by_cases c : F ≤ k ∧ k < F + n
  · rw [if_pos c, if_pos c]
    exact v (k + P) (by omega)
  · rw [if_neg c, if_neg c]
    exact v k hk
set_option maxRecDepth 100000 in
theorem qSq : ∀ t ∈ QS2, t.1 = Int32.ofNat t.1.toNatClampNeg ∧ t.2.1 = 6 ∧ t.2.2.1 = -1 ∧ t.2.2.2.1 = Int32.ofNat t.2.2.2.1.toNatClampNeg ∧ t.2.2.2.2.1 = t.1 ∧ t.2.2.2.2.2.2 = 0 ∧ t.2.2.2.1.toNatClampNeg ≤ t.1.toNatClampNeg ∧ t.1.toNatClampNeg ≤ 6 ∧ lyF t = Int32.ofNat (t.1.toNatClampNeg - t.2.2.2.1.toNatClampNeg) ∧ (Int32.ofNat (t.1.toNatClampNeg - t.2.2.2.1.toNatClampNeg), 6, -1, 0, Int32.ofNat (t.1.toNatClampNeg - t.2.2.2.1.toNatClampNeg), -1, 0) ∈ QS2 := by
  decide +kernel

theorem cpo_step {x rw cs w S F P n : Nat} {j : Nat} {h : MH} {Q : MR → MH → Prop} (x1 : g_c h x = 7) (x2 : g_r h x 1 = some rw) (x6 : g_r h x 5 = some w) (r1 : g_c h rw = 3) (r2 : g_r h rw 0 = some cs) (r3 : g_c h cs = 102) (r4 : g_n h cs = 36) (r5 : g_z h ≤ cs) (w1 : g_c h w = 4) (w2 : g_z h ≤ w) (w3 : g_r h w 0 = some rw) (s0 : g_i h w 3 = 0) (a1 : g_i h w 1 = 1) (a2 : g_i h w 2 = 10) (a5 : g_i h w 5 = 10) (vs : ∀ k, k < 36 → (g_l h cs k).toInt32.toInt64 = g_l h cs k) (hS : S < 6) (hF : F + n ≤ 4) (hP : P + n ≤ 10) (hj : j < n) : Ok 82 29 [.ref x, .int (Int32.ofNat S), .int (Int32.ofNat F), .int (Int32.ofNat n), .int (Int32.ofNat j)] [] (p_i (cpL h cs (1 + P) (11 + 4 * S + F) j) w 4 (Int32.ofNat (P + j))) 0 0 Q ↔ Ok 82 29 [.ref x, .int (Int32.ofNat S), .int (Int32.ofNat F), .int (Int32.ofNat n), .int (Int32.ofNat (j + 1))] [] (p_i (cpL h cs (1 + P) (11 + 4 * S + F) (j + 1)) w 4 (Int32.ofNat (P + (j + 1)))) 0 0 Q := by
  have c1 : (Int32.ofNat j < Int32.ofNat n) = True := by rw [n_lt (by omega) (by omega)]; exact eq_true hj
  have e4 : 4 * Int32.ofNat S = Int32.ofNat (4 * S) := n_mul 4 S
  have e11 : 11 + Int32.ofNat (4 * S) = Int32.ofNat (11 + 4 * S) := n_add 11 (4 * S)
  have e1 : 1 + Int32.ofNat (P + j) = Int32.ofNat (1 + (P + j)) := n_add 1 (P + j)
  have e2 : Int32.ofNat (P + j) + 1 = Int32.ofNat (P + (j + 1)) := n_add (P + j) 1
  have e3 : Int32.ofNat j + 1 = Int32.ofNat (j + 1) := n_add j 1
  have c2 : (Int32.ofNat (P + j) < 0) = False := n_z (by omega)
  have c3 : (Int32.ofNat (P + j) < 10) = True := by rw [show (10 : Int32) = Int32.ofNat 10 from rfl, n_lt (by omega) (by omega)]; exact eq_true (by omega)
  have c4 : (10 - Int32.ofNat (P + j) = 0) = False := by
    rw [show (10 : Int32) = Int32.ofNat 10 from rfl, n_sub (by omega) (by omega), show (0 : Int32) = Int32.ofNat 0 from rfl]
    exact eq_false (fun z => by have := congrArg Int32.toNatClampNeg z; rw [n_cl (by omega), n_cl (by omega)] at this; omega)
  have c5 : rdy 36 (Int32.ofNat (11 + 4 * S + (F + j))) := n_rdy (by omega) (by omega)
  have c6 : rdy 36 (Int32.ofNat (1 + (P + j))) := n_rdy (by omega) (by omega)
  have c7 : (Int32.ofNat (11 + 4 * S + (F + j))).toNatClampNeg = 11 + 4 * S + (F + j) := n_cl (by omega)
  have c8 : (Int32.ofNat (1 + (P + j))).toNatClampNeg = 1 + (P + j) := n_cl (by omega)
  have c9 := cpL_o (h := h) (cs := cs) (d := 1 + P) (s := 11 + 4 * S + F) (n := j) (i := 11 + 4 * S + (F + j)) (by omega)
  have c10 := vs (11 + 4 * S + (F + j)) (by omega)
  have c11 := cpL_s (h := h) (cs := cs) (d := 1 + P) (s := 11 + 4 * S + F) (n := j) (i := 1 + (P + j)) (v := g_l h cs (11 + 4 * S + (F + j))) (by omega) (by rw [Nat.add_assoc (11 + 4 * S) F j])
  rw [o82_29]
  simp only [o82_31, o82_32, o82_35, o82_36, o82_39, o82_40, o82_41, o82_42, o82_44, o82_45, o82_48, o82_49, o82_52, o82_53, o82_56, c_X5_fourthIn (rw := rw) (cs := cs), c_X3_writeNext (rw := rw) (cs := cs) (n := 36), mc_pi, mn_pi, mi_pi, ml_pi, mr_pi, mz_pi, mcs_0, mcs_r, Kn_v, mrf_some, true_and, and_false, not_true_eq_false, not_false_eq_true, false_implies, forall_const, if_true, if_false, and_self, Nat.reduceEqDiff, Nat.reduceLeDiff, Nat.reduceAdd, Nat.zero_le, lt_le, cpL_c, cpL_n, cpL_r, cpL_i, cpL_z, x1, x2, x6, r1, r2, r3, r4, r5, w1, w2, w3, s0, a1, a2, a5, e4, e11, n_add, c1, c2, c3, c4, c5, c6, c7, c8, c9, c10, e1, e2, e3, p_li, c11, p_ii]

theorem cpo_loop {x rw cs w S F P n : Nat} {h : MH} {Q : MR → MH → Prop} (x1 : g_c h x = 7) (x2 : g_r h x 1 = some rw) (x6 : g_r h x 5 = some w) (r1 : g_c h rw = 3) (r2 : g_r h rw 0 = some cs) (r3 : g_c h cs = 102) (r4 : g_n h cs = 36) (r5 : g_z h ≤ cs) (w1 : g_c h w = 4) (w2 : g_z h ≤ w) (w3 : g_r h w 0 = some rw) (s0 : g_i h w 3 = 0) (a1 : g_i h w 1 = 1) (a2 : g_i h w 2 = 10) (a5 : g_i h w 5 = 10) (vs : ∀ k, k < 36 → (g_l h cs k).toInt32.toInt64 = g_l h cs k) (hS : S < 6) (hF : F + n ≤ 4) (hP : P + n ≤ 10) : ∀ d j : Nat, j + d = n → (Ok 82 29 [.ref x, .int (Int32.ofNat S), .int (Int32.ofNat F), .int (Int32.ofNat n), .int (Int32.ofNat j)] [] (p_i (cpL h cs (1 + P) (11 + 4 * S + F) j) w 4 (Int32.ofNat (P + j))) 0 0 Q ↔ Ok 82 29 [.ref x, .int (Int32.ofNat S), .int (Int32.ofNat F), .int (Int32.ofNat n), .int (Int32.ofNat n)] [] (p_i (cpL h cs (1 + P) (11 + 4 * S + F) n) w 4 (Int32.ofNat (P + n))) 0 0 Q)
  | 0, j, hd => by
    have : j = n := by omega
    subst this
    exact Iff.rfl
  | d + 1, j, hd => (cpo_step (n := n) (j := j) x1 x2 x6 r1 r2 r3 r4 r5 w1 w2 w3 s0 a1 a2 a5 vs hS hF hP (by omega)).trans (cpo_loop x1 x2 x6 r1 r2 r3 r4 r5 w1 w2 w3 s0 a1 a2 a5 vs hS hF hP d (j + 1) (by omega))

theorem cpo_all {x rw cs w S F P n : Nat} {h : MH} {Q : MR → MH → Prop} (x1 : g_c h x = 7) (x2 : g_r h x 1 = some rw) (x6 : g_r h x 5 = some w) (r1 : g_c h rw = 3) (r2 : g_r h rw 0 = some cs) (r3 : g_c h cs = 102) (r4 : g_n h cs = 36) (r5 : g_z h ≤ cs) (w1 : g_c h w = 4) (w2 : g_z h ≤ w) (w3 : g_r h w 0 = some rw) (s0 : g_i h w 3 = 0) (a1 : g_i h w 1 = 1) (a2 : g_i h w 2 = 10) (a5 : g_i h w 5 = 10) (vs : ∀ k, k < 36 → (g_l h cs k).toInt32.toInt64 = g_l h cs k) (hS : S < 6) (hF : F + n ≤ 4) (hP : P + n ≤ 10) (a4 : g_i h w 4 = Int32.ofNat P) : Ok 82 29 [.ref x, .int (Int32.ofNat S), .int (Int32.ofNat F), .int (Int32.ofNat n), .int 0] [] h 0 0 Q ↔ Ok 82 59 [.ref x, .int (Int32.ofNat S), .int (Int32.ofNat F), .int (Int32.ofNat n), .int (Int32.ofNat n)] [] (p_i (cpL h cs (1 + P) (11 + 4 * S + F) n) w 4 (Int32.ofNat (P + n))) 0 0 Q := by
  have lp := cpo_loop (Q := Q) x1 x2 x6 r1 r2 r3 r4 r5 w1 w2 w3 s0 a1 a2 a5 vs hS hF hP n 0 (by omega)
  rw [cpL_0, Nat.add_zero, ← a4, p_i_self] at lp
  rw [show (0 : Int32) = Int32.ofNat 0 from rfl, lp, o82_29]
  simp only [o82_31, o82_32, and_true, not_true_eq_false, not_false_eq_true, false_implies, forall_const, lt_le, n_irr]
  all_goals (try exact Iff.rfl)

theorem mpo_step {m sr w S F P n : Nat} {j : Nat} {h : MH} {Q : MR → MH → Prop} (m1 : g_c h m = 9) (g1 : g_r h m 1 = some sr) (g2 : g_c h sr = 101) (g3 : g_n h sr = 36) (g4 : g_z h ≤ sr) (m5 : g_r h m 5 = some w) (w1 : g_c h w = 8) (w2 : g_z h ≤ w) (nw : ¬ w = sr) (nw2 : ¬ sr = w) (a5 : g_i h w 4 = 10) (hS : S < 6) (hF : F + n ≤ 4) (hP : P + n ≤ 10) (hj : j < n) : Ok 210 42 [.ref m, .int (Int32.ofNat S), .int (Int32.ofNat F), .int (Int32.ofNat j), .int (Int32.ofNat (F + j))] [] (p_i (cpI h sr (1 + P) (11 + 4 * S + F) j) w 3 (Int32.ofNat (P + j))) 0 0 Q ↔ Ok 210 42 [.ref m, .int (Int32.ofNat S), .int (Int32.ofNat F), .int (Int32.ofNat (j + 1)), .int (Int32.ofNat (F + (j + 1)))] [] (p_i (cpI h sr (1 + P) (11 + 4 * S + F) (j + 1)) w 3 (Int32.ofNat (P + (j + 1)))) 0 0 Q := by
  have c1 : (Int32.ofNat (F + j) < 4) = True := by rw [show (4 : Int32) = Int32.ofNat 4 from rfl, n_lt (by omega) (by omega)]; exact eq_true (by omega)
  have e4 : 4 * Int32.ofNat S = Int32.ofNat (4 * S) := n_mul 4 S
  have e11 : 11 + Int32.ofNat (4 * S) = Int32.ofNat (11 + 4 * S) := n_add 11 (4 * S)
  have e1 : 1 + Int32.ofNat (P + j) = Int32.ofNat (1 + (P + j)) := n_add 1 (P + j)
  have e2 : Int32.ofNat (P + j) + 1 = Int32.ofNat (P + (j + 1)) := n_add (P + j) 1
  have e3 : Int32.ofNat j + 1 = Int32.ofNat (j + 1) := n_add j 1
  have e5 : Int32.ofNat (F + j) + 1 = Int32.ofNat (F + (j + 1)) := n_add (F + j) 1
  have c4 : (0 < 10 - Int32.ofNat (P + j)) = True := by
    rw [show (10 : Int32) = Int32.ofNat 10 from rfl, n_sub (by omega) (by omega), show (0 : Int32) = Int32.ofNat 0 from rfl, n_lt (by omega) (by omega)]
    exact eq_true (by omega)
  have c5 : vp_in (Int32.ofNat (11 + 4 * S + (F + j))) 36 := (n_rdy (n := 36) (by omega) (by omega)).2.2
  have c6 : vp_in (Int32.ofNat (1 + (P + j))) 36 := (n_rdy (n := 36) (by omega) (by omega)).2.2
  have c7 : (Int32.ofNat (11 + 4 * S + (F + j))).toNatClampNeg = 11 + 4 * S + (F + j) := n_cl (by omega)
  have c8 : (Int32.ofNat (1 + (P + j))).toNatClampNeg = 1 + (P + j) := n_cl (by omega)
  have c9 := cpI_o (h := h) (cs := sr) (d := 1 + P) (s := 11 + 4 * S + F) (n := j) (i := 11 + 4 * S + (F + j)) (by omega)
  have c11 := cpI_s (h := h) (cs := sr) (d := 1 + P) (s := 11 + 4 * S + F) (n := j) (i := 1 + (P + j)) (v := g_i h sr (11 + 4 * S + (F + j))) (by omega) (by rw [Nat.add_assoc (11 + 4 * S) F j])
  rw [o210_42]
  simp only [o210_44, o210_45, o210_48, o210_49, o210_52, o210_55, o210_58, o210_59, o210_60, o210_63, o210_65, o210_66, o210_67, o210_68, o210_69, o210_71, o210_72, o210_73, o210_76, o210_79, o210_82, c_X7_rests, o207_0, o207_1, o207_4, o207_5, o207_6, o207_9, o207_12, o207_13, o207_14, o207_15, o207_16, o207_19, o207_20, o207_23, o207_24, o207_25, o207_28, mc_pi, mn_pi, mi_pi, mr_pi, mz_pi, mcs_0, Kn_v, Kn_0, mrf_some, kok_0, true_and, false_and, and_false, not_true_eq_false, not_false_eq_true, false_implies, forall_const, if_true, if_false, and_self, Nat.reduceEqDiff, Nat.zero_le, lt_le, cpI_c, cpI_n, cpI_r, cpI_z, m1, g1, g2, g3, g4, m5, w1, w2, nw2, a5, cpI_w nw, e4, e11, n_add, c1, c4, c5, c6, c7, c8, c9, e1, e2, e3, e5, p_i_c nw, c11, p_ii, false_and]

theorem mpo_loop {m sr w S F P n : Nat} {h : MH} {Q : MR → MH → Prop} (m1 : g_c h m = 9) (g1 : g_r h m 1 = some sr) (g2 : g_c h sr = 101) (g3 : g_n h sr = 36) (g4 : g_z h ≤ sr) (m5 : g_r h m 5 = some w) (w1 : g_c h w = 8) (w2 : g_z h ≤ w) (nw : ¬ w = sr) (nw2 : ¬ sr = w) (a5 : g_i h w 4 = 10) (hS : S < 6) (hF : F + n ≤ 4) (hP : P + n ≤ 10) : ∀ d j : Nat, j + d = n → (Ok 210 42 [.ref m, .int (Int32.ofNat S), .int (Int32.ofNat F), .int (Int32.ofNat j), .int (Int32.ofNat (F + j))] [] (p_i (cpI h sr (1 + P) (11 + 4 * S + F) j) w 3 (Int32.ofNat (P + j))) 0 0 Q ↔ Ok 210 42 [.ref m, .int (Int32.ofNat S), .int (Int32.ofNat F), .int (Int32.ofNat n), .int (Int32.ofNat (F + n))] [] (p_i (cpI h sr (1 + P) (11 + 4 * S + F) n) w 3 (Int32.ofNat (P + n))) 0 0 Q)
  | 0, j, hd => by
    have : j = n := by omega
    subst this
    exact Iff.rfl
  | d + 1, j, hd => (mpo_step (n := n) (j := j) m1 g1 g2 g3 g4 m5 w1 w2 nw nw2 a5 hS hF hP (by omega)).trans (mpo_loop m1 g1 g2 g3 g4 m5 w1 w2 nw nw2 a5 hS hF hP d (j + 1) (by omega))

theorem mpo_all {m sr w S F P n : Nat} {h : MH} {Q : MR → MH → Prop} (m1 : g_c h m = 9) (g1 : g_r h m 1 = some sr) (g2 : g_c h sr = 101) (g3 : g_n h sr = 36) (g4 : g_z h ≤ sr) (m5 : g_r h m 5 = some w) (w1 : g_c h w = 8) (w2 : g_z h ≤ w) (nw : ¬ w = sr) (nw2 : ¬ sr = w) (a5 : g_i h w 4 = 10) (hS : S < 6) (hF : F + n ≤ 4) (hP : P + n ≤ 10) (a4 : g_i h w 3 = Int32.ofNat P) (he : F + n = 4 ∨ P + n = 10) : Ok 210 42 [.ref m, .int (Int32.ofNat S), .int (Int32.ofNat F), .int 0, .int (Int32.ofNat F)] [] h 0 0 Q ↔ Ok 210 85 [.ref m, .int (Int32.ofNat S), .int (Int32.ofNat F), .int (Int32.ofNat n), .int (Int32.ofNat (F + n))] [] (p_i (cpI h sr (1 + P) (11 + 4 * S + F) n) w 3 (Int32.ofNat (P + n))) 0 0 Q := by
  have lp := mpo_loop (Q := Q) m1 g1 g2 g3 g4 m5 w1 w2 nw nw2 a5 hS hF hP n 0 (by omega)
  rw [cpI_0, Nat.add_zero, Nat.add_zero, ← a4, p_i_self] at lp
  rw [show (0 : Int32) = Int32.ofNat 0 from rfl, lp, o210_42]
  by_cases hf : F + n = 4
  · have c1 : (Int32.ofNat (F + n) < 4) = False := by rw [hf]; decide
    simp only [o210_44, o210_45, o210_48, o210_49, mc_pi, mr_pi, and_true, not_true_eq_false, not_false_eq_true, false_implies, forall_const, lt_le, c1]
    all_goals (try exact Iff.rfl)
  · have c1 : (Int32.ofNat (F + n) < 4) = True := by rw [show (4 : Int32) = Int32.ofNat 4 from rfl, n_lt (by omega) (by omega)]; exact eq_true (by omega)
    have c2 : P + n = 10 := he.resolve_left hf
    have c3 : (0 < 10 - Int32.ofNat (P + n)) = False := by rw [c2]; decide
    have c4 : ¬ w = sr := nw
    simp only [o210_44, o210_45, o210_48, o210_49, o210_52, o210_55, c_X7_rests, mc_pi, mi_pi, mr_pi, mcs_0, Kn_v, mrf_some, true_and, and_true, and_false, not_true_eq_false, not_false_eq_true, false_implies, forall_const, if_true, if_false, and_self, Nat.reduceEqDiff, Nat.zero_le, lt_le, cpI_c, cpI_r, cpI_w nw, m1, m5, w1, a5, c1, c3]
    all_goals (try exact Iff.rfl)


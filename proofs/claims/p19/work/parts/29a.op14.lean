/-! drawAll -/
def oL (h : MH) (cs d s : Nat) : Nat → Int32
  | 0 => 0
  | j + 1 => oL h cs d s j + (if g_l h cs (d + j) = g_l h cs (s + j) then 0 else 1)
def oI (h : MH) (cs d s : Nat) : Nat → Int32
  | 0 => 0
  | j + 1 => oI h cs d s j + (if g_i h cs (d + j) = g_i h cs (s + j) then 0 else 1)
theorem oL_s {h : MH} {cs d s j : Nat} : oL h cs d s j + (if g_l h cs (d + j) = g_l h cs (s + j) then 0 else 1) = oL h cs d s (j + 1) := rfl
theorem oI_s {h : MH} {cs d s j : Nat} : oI h cs d s j + (if g_i h cs (d + j) = g_i h cs (s + j) then 0 else 1) = oI h cs d s (j + 1) := rfl
theorem oLI {A : Nat → Nat} {h m : MH} {d s : Nat} (v : Vsr A h) (e : ∀ k, g_i m (A 24) k = g_i h (A 24) k) : ∀ n, d + n ≤ 36 → s + n ≤ 36 → oL h (A 4) d s n = oI m (A 24) d s n
  | 0, _, _ => rfl
  | n + 1, h1, h2 => by
    rw [oL, oI, oLI v e n (by omega) (by omega), (v _ (show d + n < 36 by omega)).1, (v _ (show s + n < 36 by omega)).1, e, e]
    congr 1
    by_cases c : g_i h (A 24) (d + n) = g_i h (A 24) (s + n)
    · rw [if_pos c, if_pos (by rw [c])]
    · rw [if_neg c, if_neg (fun z => c (by simp only [i64_inj] at z; exact z))]
theorem oI_e {h m : MH} {cs d s : Nat} (e : ∀ k, g_i m cs k = g_i h cs k) : ∀ n, oI m cs d s n = oI h cs d s n
  | 0 => rfl
  | n + 1 => by rw [oI, oI, oI_e e n, e, e]
theorem oI_pi {h : MH} {a k cs d s n : Nat} {v : Int32} (hn : ¬ a = cs) : oI (p_i h a k v) cs d s n = oI h cs d s n := oI_e (fun j => by rw [mi_pi, if_neg (fun z => hn z.1.symm)]) n
theorem oI_pl {h : MH} {a k cs d s n : Nat} {v : Int64} : oI (p_l h a k v) cs d s n = oI h cs d s n := oI_e (h := h) (m := p_l h a k v) (fun j => rfl) n
theorem oI_cp {h : MH} {a d0 s0 n0 cs d s n : Nat} : oI (cpL h a d0 s0 n0) cs d s n = oI h cs d s n := oI_e (h := h) (m := cpL h a d0 s0 n0) (fun j => rfl) n
theorem cdr_step {x rw cs w S P L : Nat} {j : Nat} {h : MH} {Q : MR → MH → Prop} (x1 : g_c h x = 7) (x2 : g_r h x 1 = some rw) (x6 : g_r h x 5 = some w) (r1 : g_c h rw = 3) (r2 : g_r h rw 0 = some cs) (r3 : g_c h cs = 102) (r4 : g_n h cs = 36) (r5 : g_z h ≤ cs) (w1 : g_c h w = 4) (w2 : g_z h ≤ w) (w3 : g_r h w 0 = some rw) (a1 : g_i h w 1 = 1) (a2 : g_i h w 2 = 10) (a5 : g_i h w 5 = Int32.ofNat L) (hS : S < 6) (hP : P + 4 ≤ L) (hL : L ≤ 10) (hj : j < 4) : Ok 84 32 [.ref x, .int (Int32.ofNat S), .int (oL h cs (11 + 4 * S) (1 + P) j), .int (Int32.ofNat j)] [] (p_i (cpL h cs (11 + 4 * S) (1 + P) j) w 4 (Int32.ofNat (P + j))) 0 0 Q ↔ Ok 84 32 [.ref x, .int (Int32.ofNat S), .int (oL h cs (11 + 4 * S) (1 + P) (j + 1)), .int (Int32.ofNat (j + 1))] [] (p_i (cpL h cs (11 + 4 * S) (1 + P) (j + 1)) w 4 (Int32.ofNat (P + (j + 1)))) 0 0 Q := by
  have c1 : (Int32.ofNat j < 4) = True := by rw [show (4 : Int32) = Int32.ofNat 4 from rfl, n_lt (by omega) (by omega)]; exact eq_true hj
  have e1 : 1 + Int32.ofNat (P + j) = Int32.ofNat (1 + (P + j)) := n_add 1 (P + j)
  have e2 : Int32.ofNat (P + j) + 1 = Int32.ofNat (P + (j + 1)) := n_add (P + j) 1
  have e3 : Int32.ofNat j + 1 = Int32.ofNat (j + 1) := n_add j 1
  have e4 : 4 * Int32.ofNat S = Int32.ofNat (4 * S) := n_mul 4 S
  have e11 : 11 + Int32.ofNat (4 * S) = Int32.ofNat (11 + 4 * S) := n_add 11 (4 * S)
  have c2 : (Int32.ofNat (P + j) < 0) = False := n_z (by omega)
  have c3 : (Int32.ofNat (P + j) < 10) = True := by rw [show (10 : Int32) = Int32.ofNat 10 from rfl, n_lt (by omega) (by omega)]; exact eq_true (by omega)
  have c4 : (Int32.ofNat L - Int32.ofNat (P + j) = 0) = False := by
    rw [n_sub (by omega) (by omega), show (0 : Int32) = Int32.ofNat 0 from rfl]
    exact eq_false (fun z => by have := congrArg Int32.toNatClampNeg z; rw [n_cl (by omega), n_cl (by omega)] at this; omega)
  have c5 : rdy 36 (Int32.ofNat (11 + 4 * S + j)) := n_rdy (by omega) (by omega)
  have c6 : rdy 36 (Int32.ofNat (1 + (P + j))) := n_rdy (by omega) (by omega)
  have c7 : (Int32.ofNat (11 + 4 * S + j)).toNatClampNeg = 11 + 4 * S + j := n_cl (by omega)
  have c8 : (Int32.ofNat (1 + (P + j))).toNatClampNeg = 1 + P + j := by rw [n_cl (by omega), Nat.add_assoc]
  have c9 := cpL_o (h := h) (cs := cs) (d := 11 + 4 * S) (s := 1 + P) (n := j) (i := 11 + 4 * S + j) (by omega)
  have c10 := cpL_o (h := h) (cs := cs) (d := 11 + 4 * S) (s := 1 + P) (n := j) (i := 1 + P + j) (by omega)
  have c11 := cpL_s (h := h) (cs := cs) (d := 11 + 4 * S) (s := 1 + P) (n := j) (i := 11 + 4 * S + j) (v := g_l h cs (1 + P + j)) (by omega) rfl
  rw [o84_32]
  by_cases b : g_l h cs (11 + 4 * S + j) = g_l h cs (1 + P + j) <;> (
    have b2 := oL_s (h := h) (cs := cs) (d := 11 + 4 * S) (s := 1 + P) (j := j)
    simp only [b, if_true, if_false] at b2
    simp only [o84_33, o84_34, o84_37, o84_38, o84_39, o84_40, o84_41, o84_42, o84_45, o84_48, o84_51, o84_54, o84_55, o84_58, o84_59, o84_60, o84_61, o84_64, c_X5_changeFourth (rw := rw) (cs := cs), c_X3_readNext (rw := rw) (cs := cs) (n := 36), mc_pi, mn_pi, mi_pi, ml_pi, mr_pi, mz_pi, mcs_0, mcs_i, mcs_r, Kn_v, mrf_some, true_and, and_true, and_false, not_true_eq_false, not_false_eq_true, false_implies, forall_const, if_true, if_false, and_self, Nat.reduceEqDiff, Nat.reduceLeDiff, Nat.reduceAdd, i10, lt_le, cpL_c, cpL_n, cpL_r, cpL_i, cpL_z, x1, x2, x6, r1, r2, r3, r4, r5, w1, w2, w3, a1, a2, a5, e4, e11, n_add, c1, c2, c3, c4, c5, c6, c7, c8, c9, c10, e1, e2, e3, p_li, c11, p_ii, b, b2])

theorem cdr_loop {x rw cs w S P L : Nat} {h : MH} {Q : MR → MH → Prop} (x1 : g_c h x = 7) (x2 : g_r h x 1 = some rw) (x6 : g_r h x 5 = some w) (r1 : g_c h rw = 3) (r2 : g_r h rw 0 = some cs) (r3 : g_c h cs = 102) (r4 : g_n h cs = 36) (r5 : g_z h ≤ cs) (w1 : g_c h w = 4) (w2 : g_z h ≤ w) (w3 : g_r h w 0 = some rw) (a1 : g_i h w 1 = 1) (a2 : g_i h w 2 = 10) (a5 : g_i h w 5 = Int32.ofNat L) (hS : S < 6) (hP : P + 4 ≤ L) (hL : L ≤ 10) : ∀ d j : Nat, j + d = 4 → (Ok 84 32 [.ref x, .int (Int32.ofNat S), .int (oL h cs (11 + 4 * S) (1 + P) j), .int (Int32.ofNat j)] [] (p_i (cpL h cs (11 + 4 * S) (1 + P) j) w 4 (Int32.ofNat (P + j))) 0 0 Q ↔ Ok 84 32 [.ref x, .int (Int32.ofNat S), .int (oL h cs (11 + 4 * S) (1 + P) 4), .int (Int32.ofNat 4)] [] (p_i (cpL h cs (11 + 4 * S) (1 + P) 4) w 4 (Int32.ofNat (P + 4))) 0 0 Q)
  | 0, j, hd => by
    have : j = 4 := by omega
    subst this
    exact Iff.rfl
  | d + 1, j, hd => (cdr_step (j := j) x1 x2 x6 r1 r2 r3 r4 r5 w1 w2 w3 a1 a2 a5 hS hP hL (by omega)).trans (cdr_loop x1 x2 x6 r1 r2 r3 r4 r5 w1 w2 w3 a1 a2 a5 hS hP hL d (j + 1) (by omega))

theorem cdr_all {x rw cs w S P L : Nat} {h : MH} {Q : MR → MH → Prop} (x1 : g_c h x = 7) (x2 : g_r h x 1 = some rw) (x6 : g_r h x 5 = some w) (r1 : g_c h rw = 3) (r2 : g_r h rw 0 = some cs) (r3 : g_c h cs = 102) (r4 : g_n h cs = 36) (r5 : g_z h ≤ cs) (w1 : g_c h w = 4) (w2 : g_z h ≤ w) (w3 : g_r h w 0 = some rw) (a1 : g_i h w 1 = 1) (a2 : g_i h w 2 = 10) (a5 : g_i h w 5 = Int32.ofNat L) (hS : S < 6) (hP : P + 4 ≤ L) (hL : L ≤ 10) (a4 : g_i h w 4 = Int32.ofNat P) : Ok 84 32 [.ref x, .int (Int32.ofNat S), .int 0, .int 0] [] h 0 0 Q ↔ Ok 84 67 [.ref x, .int (Int32.ofNat S), .int (oL h cs (11 + 4 * S) (1 + P) 4), .int (Int32.ofNat 4)] [] (p_i (cpL h cs (11 + 4 * S) (1 + P) 4) w 4 (Int32.ofNat (P + 4))) 0 0 Q := by
  have lp := cdr_loop (Q := Q) x1 x2 x6 r1 r2 r3 r4 r5 w1 w2 w3 a1 a2 a5 hS hP hL 4 0 (by omega)
  rw [cpL_0, Nat.add_zero, ← a4, p_i_self] at lp
  have c1 : (Int32.ofNat 4 < 4) = False := by decide
  refine Iff.trans (show _ ↔ _ from lp) ?_
  rw [o84_32]
  simp only [o84_33, o84_34, and_true, not_true_eq_false, not_false_eq_true, false_implies, forall_const, lt_le, c1]
  all_goals (try exact Iff.rfl)

theorem mdr_step {m sr w S P L : Nat} {j : Nat} {h : MH} {Q : MR → MH → Prop} (m1 : g_c h m = 9) (g1 : g_r h m 1 = some sr) (g2 : g_c h sr = 101) (g3 : g_n h sr = 36) (g4 : g_z h ≤ sr) (m5 : g_r h m 5 = some w) (w1 : g_c h w = 8) (w2 : g_z h ≤ w) (nw : ¬ w = sr) (nw2 : ¬ sr = w) (hS : S < 6) (hP : P + 4 ≤ L) (hL : L ≤ 10) (hj : j < 4) : Ok 212 54 [.ref m, .int (Int32.ofNat S), .int (oI h sr (11 + 4 * S) (1 + P) j), .int (Int32.ofNat j)] [] (p_i (cpI h sr (11 + 4 * S) (1 + P) j) w 3 (Int32.ofNat (P + j))) 0 0 Q ↔ Ok 212 54 [.ref m, .int (Int32.ofNat S), .int (oI h sr (11 + 4 * S) (1 + P) (j + 1)), .int (Int32.ofNat (j + 1))] [] (p_i (cpI h sr (11 + 4 * S) (1 + P) (j + 1)) w 3 (Int32.ofNat (P + (j + 1)))) 0 0 Q := by
  have c1 : (Int32.ofNat j < 4) = True := by rw [show (4 : Int32) = Int32.ofNat 4 from rfl, n_lt (by omega) (by omega)]; exact eq_true hj
  have e1 : 1 + Int32.ofNat (P + j) = Int32.ofNat (1 + (P + j)) := n_add 1 (P + j)
  have e2 : Int32.ofNat (P + j) + 1 = Int32.ofNat (P + (j + 1)) := n_add (P + j) 1
  have e3 : Int32.ofNat j + 1 = Int32.ofNat (j + 1) := n_add j 1
  have e4 : 4 * Int32.ofNat S = Int32.ofNat (4 * S) := n_mul 4 S
  have e11 : 11 + Int32.ofNat (4 * S) = Int32.ofNat (11 + 4 * S) := n_add 11 (4 * S)
  have c5 : vp_in (Int32.ofNat (11 + 4 * S + j)) 36 := (n_rdy (n := 36) (by omega) (by omega)).2.2
  have c6 : vp_in (Int32.ofNat (P + (j + 1))) 36 := (n_rdy (n := 36) (by omega) (by omega)).2.2
  have c7 : (Int32.ofNat (11 + 4 * S + j)).toNatClampNeg = 11 + 4 * S + j := n_cl (by omega)
  have c8 : (Int32.ofNat (P + (j + 1))).toNatClampNeg = 1 + P + j := by rw [n_cl (by omega)]; omega
  have c9 := cpI_o (h := h) (cs := sr) (d := 11 + 4 * S) (s := 1 + P) (n := j) (i := 11 + 4 * S + j) (by omega)
  have c10 := cpI_o (h := h) (cs := sr) (d := 11 + 4 * S) (s := 1 + P) (n := j) (i := 1 + P + j) (by omega)
  have c11 := cpI_s (h := h) (cs := sr) (d := 11 + 4 * S) (s := 1 + P) (n := j) (i := 11 + 4 * S + j) (v := g_i h sr (1 + P + j)) (by omega) rfl
  rw [o212_54]
  by_cases b : g_i h sr (11 + 4 * S + j) = g_i h sr (1 + P + j) <;> (
    have b2 := oI_s (h := h) (cs := sr) (d := 11 + 4 * S) (s := 1 + P) (j := j)
    simp only [b, if_true, if_false] at b2
    simp only [o212_55, o212_56, o212_59, o212_60, o212_61, o212_63, o212_64, o212_65, o212_66, o212_67, o212_68, o212_69, o212_70, o212_73, o212_76, o212_77, o212_78, o212_81, c_X8_writeShort (sr := sr), o208_0, o208_1, o208_4, o208_5, o208_8, o208_9, o208_10, o208_13, o208_14, o208_17, o208_18, o208_21, o208_24, o208_25, mc_pi, mn_pi, mi_pi, mr_pi, mz_pi, mcs_0, mcs_i, mcs_r, Kn_v, mrf_some, kok_0, true_and, false_and, not_true_eq_false, not_false_eq_true, false_implies, forall_const, if_true, if_false, and_self, Nat.reduceLeDiff, Nat.reduceAdd, lt_le, cpI_c, cpI_n, cpI_r, cpI_z, m1, g1, g2, g3, g4, m5, w1, w2, nw2, cpI_w nw, e4, e11, n_add, c1, c5, c6, c7, c8, c9, c10, e2, e3, p_i_c nw, c11, p_ii, false_and, b, b2])

theorem mdr_loop {m sr w S P L : Nat} {h : MH} {Q : MR → MH → Prop} (m1 : g_c h m = 9) (g1 : g_r h m 1 = some sr) (g2 : g_c h sr = 101) (g3 : g_n h sr = 36) (g4 : g_z h ≤ sr) (m5 : g_r h m 5 = some w) (w1 : g_c h w = 8) (w2 : g_z h ≤ w) (nw : ¬ w = sr) (nw2 : ¬ sr = w) (hS : S < 6) (hP : P + 4 ≤ L) (hL : L ≤ 10) : ∀ d j : Nat, j + d = 4 → (Ok 212 54 [.ref m, .int (Int32.ofNat S), .int (oI h sr (11 + 4 * S) (1 + P) j), .int (Int32.ofNat j)] [] (p_i (cpI h sr (11 + 4 * S) (1 + P) j) w 3 (Int32.ofNat (P + j))) 0 0 Q ↔ Ok 212 54 [.ref m, .int (Int32.ofNat S), .int (oI h sr (11 + 4 * S) (1 + P) 4), .int (Int32.ofNat 4)] [] (p_i (cpI h sr (11 + 4 * S) (1 + P) 4) w 3 (Int32.ofNat (P + 4))) 0 0 Q)
  | 0, j, hd => by
    have : j = 4 := by omega
    subst this
    exact Iff.rfl
  | d + 1, j, hd => (mdr_step (j := j) m1 g1 g2 g3 g4 m5 w1 w2 nw nw2 hS hP hL (by omega)).trans (mdr_loop m1 g1 g2 g3 g4 m5 w1 w2 nw nw2 hS hP hL d (j + 1) (by omega))

theorem mdr_all {m sr w S P L : Nat} {h : MH} {Q : MR → MH → Prop} (m1 : g_c h m = 9) (g1 : g_r h m 1 = some sr) (g2 : g_c h sr = 101) (g3 : g_n h sr = 36) (g4 : g_z h ≤ sr) (m5 : g_r h m 5 = some w) (w1 : g_c h w = 8) (w2 : g_z h ≤ w) (nw : ¬ w = sr) (nw2 : ¬ sr = w) (hS : S < 6) (hP : P + 4 ≤ L) (hL : L ≤ 10) (a4 : g_i h w 3 = Int32.ofNat P) : Ok 212 54 [.ref m, .int (Int32.ofNat S), .int 0, .int 0] [] h 0 0 Q ↔ Ok 212 84 [.ref m, .int (Int32.ofNat S), .int (oI h sr (11 + 4 * S) (1 + P) 4), .int (Int32.ofNat 4)] [] (p_i (cpI h sr (11 + 4 * S) (1 + P) 4) w 3 (Int32.ofNat (P + 4))) 0 0 Q := by
  have lp := mdr_loop (Q := Q) m1 g1 g2 g3 g4 m5 w1 w2 nw nw2 hS hP hL 4 0 (by omega)
  rw [cpI_0, Nat.add_zero, ← a4, p_i_self] at lp
  have c1 : (Int32.ofNat 4 < 4) = False := by decide
  refine Iff.trans (show _ ↔ _ from lp) ?_
  rw [o212_54]
  simp only [o212_55, o212_56, and_true, not_true_eq_false, not_false_eq_true, false_implies, forall_const, lt_le, c1]
  all_goals (try exact Iff.rfl)


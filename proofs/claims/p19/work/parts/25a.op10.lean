/-! turn, lensTurn -/
theorem mvI_w {h : MH} {cs f p n w k : Nat} (hw : ¬ w = cs) : g_i (mvI h cs f p n) w k = g_i h w k := by rw [mvI_i, if_neg (fun z => hw z.1)]
theorem mcm_step {m sr w F P L : Nat} {j n : Nat} {h : MH} {Q : MR → MH → Prop} (m1 : g_c h m = 9) (g1 : g_r h m 1 = some sr) (g2 : g_c h sr = 101) (g3 : g_n h sr = 36) (g4 : g_z h ≤ sr) (w1 : g_c h w = 8) (w2 : g_z h ≤ w) (nw : ¬ w = sr) (a1 : g_i h w 0 = Int32.ofNat F) (a4 : g_i h w 3 = Int32.ofNat P) (a5 : g_i h w 4 = Int32.ofNat L) (b1 : P ≤ L) (b3 : F + L ≤ 36) (hj : j < n) (hn : n = L - P) : Ok 213 7 [.ref m, .ref w, .int (Int32.ofNat n), .int (Int32.ofNat j)] [] (mvI h sr F P j) 0 0 Q ↔ Ok 213 7 [.ref m, .ref w, .int (Int32.ofNat n), .int (Int32.ofNat (j + 1))] [] (mvI h sr F P (j + 1)) 0 0 Q := by
  have c1 : (Int32.ofNat j < Int32.ofNat n) = True := by rw [n_lt (by omega) (by omega)]; exact eq_true hj
  have c4 : vp_in (Int32.ofNat (F + P + j)) 36 := (n_rdy (n := 36) (by omega) (by omega)).2.2
  have c7 : vp_in (Int32.ofNat (F + j)) 36 := (n_rdy (n := 36) (by omega) (by omega)).2.2
  have c8 : (Int32.ofNat (F + P + j)).toNatClampNeg = F + P + j := n_cl (by omega)
  have c9 : (Int32.ofNat (F + j)).toNatClampNeg = F + j := n_cl (by omega)
  have c10 : Int32.ofNat j + 1 = Int32.ofNat (j + 1) := n_add j 1
  have c11 := mvI_far (h := h) (cs := sr) (f := F) (p := P) (n := j) (j := j) (Nat.le_refl _)
  rw [o213_7]
  simp only [o213_8, o213_9, o213_12, o213_13, o213_16, o213_17, o213_20, o213_21, o213_22, o213_23, o213_26, o213_27, o213_30, o213_31, o213_34, o213_35, o213_36, o213_37, o213_38, o213_39, o213_42, mrf_some, true_and, not_true_eq_false, not_false_eq_true, false_implies, forall_const, and_self, lt_le, mvI_c, mvI_n, mvI_r, mvI_z, mvI_w nw, m1, g1, g2, g3, g4, w1, a1, a4, n_add, c1, c4, c7, c8, c9, c10, c11, mvI_s]

theorem mcm_loop {m sr w F P L : Nat} {n : Nat} {h : MH} {Q : MR → MH → Prop} (m1 : g_c h m = 9) (g1 : g_r h m 1 = some sr) (g2 : g_c h sr = 101) (g3 : g_n h sr = 36) (g4 : g_z h ≤ sr) (w1 : g_c h w = 8) (w2 : g_z h ≤ w) (nw : ¬ w = sr) (a1 : g_i h w 0 = Int32.ofNat F) (a4 : g_i h w 3 = Int32.ofNat P) (a5 : g_i h w 4 = Int32.ofNat L) (b1 : P ≤ L) (b3 : F + L ≤ 36) (hn : n = L - P) : ∀ d j : Nat, j + d = n → (Ok 213 7 [.ref m, .ref w, .int (Int32.ofNat n), .int (Int32.ofNat j)] [] (mvI h sr F P j) 0 0 Q ↔ Ok 213 7 [.ref m, .ref w, .int (Int32.ofNat n), .int (Int32.ofNat n)] [] (mvI h sr F P n) 0 0 Q)
  | 0, j, hd => by
    have : j = n := by omega
    subst this
    exact Iff.rfl
  | d + 1, j, hd => (mcm_step (n := n) (j := j) m1 g1 g2 g3 g4 w1 w2 nw a1 a4 a5 b1 b3 (by omega) hn).trans (mcm_loop m1 g1 g2 g3 g4 w1 w2 nw a1 a4 a5 b1 b3 hn d (j + 1) (by omega))

theorem c_X8_compacted {m sr w F P L : Nat} {h : MH} {Q : MR → MH → Prop} (m1 : g_c h m = 9) (g1 : g_r h m 1 = some sr) (g2 : g_c h sr = 101) (g3 : g_n h sr = 36) (g4 : g_z h ≤ sr) (w1 : g_c h w = 8) (w2 : g_z h ≤ w) (nw : ¬ w = sr) (a1 : g_i h w 0 = Int32.ofNat F) (a4 : g_i h w 3 = Int32.ofNat P) (a5 : g_i h w 4 = Int32.ofNat L) (b1 : P ≤ L) (b3 : F + L ≤ 36) : Ok 213 0 [.ref m, .ref w, mk0, mk0] [] h 0 0 Q ↔ Q (.inl none) (p_i (p_i (p_i (p_i (mvI h sr F P (L - P)) w 4 (g_i h w 1)) w 3 0) w 5 (-1)) w 3 (Int32.ofNat (L - P))) := by
  have c0 : Int32.ofNat L - Int32.ofNat P = Int32.ofNat (L - P) := n_sub b1 (by omega)
  have c1 : (Int32.ofNat (L - P) < Int32.ofNat (L - P)) = False := by rw [n_lt (by omega) (by omega)]; exact eq_false (Nat.lt_irrefl _)
  simp only [o213_0, o213_1, o213_4, o213_5, o213_6, c_X7_rests, mcs_0, Kn_v, true_and, Nat.zero_le, w1, a4, a5, c0]
  have lp := mcm_loop (n := L - P) (Q := Q) m1 g1 g2 g3 g4 w1 w2 nw a1 a4 a5 b1 b3 rfl (L - P) 0 (by omega)
  rw [mvI_0] at lp
  rw [show (0 : Int32) = Int32.ofNat 0 from rfl, lp, o213_7]
  simp only [o213_8, o213_9, o213_12, o213_13, o213_16, o213_17, o213_20, o213_21, o213_22, o213_23, o213_26, o213_27, o213_30, o213_31, o213_34, o213_35, o213_36, o213_37, o213_38, o213_39, o213_42, o213_45, o213_46, o213_49, o213_50, o213_51, o213_54, c_X7_cleared, mc_pi, mz_pi, mcs_0, Kn_0, mrf_some, kok_0, true_and, and_true, not_true_eq_false, not_false_eq_true, false_implies, forall_const, and_self, Nat.zero_le, lt_le, mvI_c, mvI_n, mvI_r, mvI_z, mvI_w nw, m1, g1, g2, g3, g4, w1, w2, a1, a4, c1]
  all_goals (try exact Iff.rfl)

theorem Vq0_mvI24 {A : Nat → Nat} {m : MH} {f p n : Nat} (hA : inj40 A) : Vq0 A (mvI m (A 24) f p n) = Vq0 A m := by
  simp only [Vq0, cT, mT, mvI_i, false_and, if_false, Nat.reduceEqDiff, (hA_5_24 hA), (hA_8_24 hA), (hA_9_24 hA), (hA_27_24 hA), (hA_31_24 hA), (hA_34_24 hA)]
theorem Vq0_mvL4 {A : Nat → Nat} {m : MH} {f p n : Nat} (hA : inj40 A) : Vq0 A (mvL m (A 4) f p n) = Vq0 A m := by
  simp only [Vq0, cT, mT, mvL_i]
theorem Vq1_mvI24 {A : Nat → Nat} {m : MH} {f p n : Nat} (hA : inj40 A) : Vq1 A (mvI m (A 24) f p n) = Vq1 A m := by
  simp only [Vq1, cT, mT, mvI_i, false_and, if_false, Nat.reduceEqDiff, (hA_6_24 hA), (hA_10_24 hA), (hA_11_24 hA), (hA_27_24 hA), (hA_32_24 hA), (hA_35_24 hA)]
theorem Vq1_mvL4 {A : Nat → Nat} {m : MH} {f p n : Nat} (hA : inj40 A) : Vq1 A (mvL m (A 4) f p n) = Vq1 A m := by
  simp only [Vq1, cT, mT, mvL_i]
theorem Vq2_mvI24 {A : Nat → Nat} {m : MH} {f p n : Nat} (hA : inj40 A) : Vq2 A (mvI m (A 24) f p n) = Vq2 A m := by
  simp only [Vq2, cT, mT, mvI_i, false_and, if_false, Nat.reduceEqDiff, (hA_7_24 hA), (hA_12_24 hA), (hA_13_24 hA), (hA_27_24 hA), (hA_33_24 hA), (hA_36_24 hA)]
theorem Vq2_mvL4 {A : Nat → Nat} {m : MH} {f p n : Nat} (hA : inj40 A) : Vq2 A (mvL m (A 4) f p n) = Vq2 A m := by
  simp only [Vq2, cT, mT, mvL_i]
theorem Vp_mvI24 {A : Nat → Nat} {m : MH} {f p n : Nat} (hA : inj40 A) : Vp A (mvI m (A 24) f p n) = Vp A m := by
  simp only [Vp, mvI_i, false_and, if_false, Nat.reduceEqDiff, (hA_14_24 hA), (hA_28_24 hA), (hA_0_24 hA), (hA_22_24 hA)]
theorem Vp_mvL4 {A : Nat → Nat} {m : MH} {f p n : Nat} (hA : inj40 A) : Vp A (mvL m (A 4) f p n) = Vp A m := by
  simp only [Vp, mvL_i]
theorem Vl0_mvI24 {A : Nat → Nat} {m : MH} {f p n : Nat} (hA : inj40 A) : Vl0 A (mvI m (A 24) f p n) = Vl0 A m := by
  simp only [Vl0, mvI_i, false_and, if_false, Nat.reduceEqDiff, (hA_15_24 hA), (hA_37_24 hA)]
theorem Vl0_mvL4 {A : Nat → Nat} {m : MH} {f p n : Nat} (hA : inj40 A) : Vl0 A (mvL m (A 4) f p n) = Vl0 A m := by
  simp only [Vl0, mvL_i]
theorem Vl1_mvI24 {A : Nat → Nat} {m : MH} {f p n : Nat} (hA : inj40 A) : Vl1 A (mvI m (A 24) f p n) = Vl1 A m := by
  simp only [Vl1, mvI_i, false_and, if_false, Nat.reduceEqDiff, (hA_16_24 hA), (hA_38_24 hA)]
theorem Vl1_mvL4 {A : Nat → Nat} {m : MH} {f p n : Nat} (hA : inj40 A) : Vl1 A (mvL m (A 4) f p n) = Vl1 A m := by
  simp only [Vl1, mvL_i]
theorem Vlr_mvI24 {A : Nat → Nat} {m : MH} {f p n : Nat} (hA : inj40 A) : Vlr A (mvI m (A 24) f p n) = Vlr A m := by
  simp only [Vlr, mvI_l]
theorem Vlr_mvL4 {A : Nat → Nat} {m : MH} {f p n : Nat} (hA : inj40 A) : Vlr A (mvL m (A 4) f p n) = Vlr A m := by
  simp only [Vlr, mvL_l, false_and, if_false, Nat.reduceEqDiff, (hA_3_4 hA), (hA_23_4 hA)]
theorem Cn_mvI24 {A : Nat → Nat} {m : MH} {f p n : Nat} (hA : inj40 A) : Cn A (mvI m (A 24) f p n) = Cn A m := by
  simp only [Cn, mvI_i, false_and, if_false, Nat.reduceEqDiff, (hA_5_24 hA), (hA_6_24 hA), (hA_7_24 hA), (hA_8_24 hA), (hA_9_24 hA), (hA_10_24 hA), (hA_11_24 hA), (hA_12_24 hA), (hA_13_24 hA), (hA_14_24 hA), (hA_28_24 hA), (hA_31_24 hA), (hA_32_24 hA), (hA_33_24 hA), (hA_34_24 hA), (hA_35_24 hA), (hA_36_24 hA)]
theorem Cn_mvL4 {A : Nat → Nat} {m : MH} {f p n : Nat} (hA : inj40 A) : Cn A (mvL m (A 4) f p n) = Cn A m := by
  simp only [Cn, mvL_i]
theorem Tx_mvI24 {A : Nat → Nat} {m : MH} {f p n : Nat} (hA : inj40 A) : Tx A (mvI m (A 24) f p n) = Tx A m := by
  simp only [Tx, mvI_i, mvI_r, mvI_c, mvI_n, mvI_z, mvI_t, false_and, if_false, Nat.reduceEqDiff, (hA_20_24 hA)]
theorem Tx_mvL4 {A : Nat → Nat} {m : MH} {f p n : Nat} (hA : inj40 A) : Tx A (mvL m (A 4) f p n) = Tx A m := by
  simp only [Tx, mvL_i, mvL_r, mvL_c, mvL_n, mvL_z, mvL_t]
theorem K_mvI {A : Nat → Nat} {m : MH} {a f p n : Nat} : K A (mvI m a f p n) = K A m := id rfl
theorem K_mvL {A : Nat → Nat} {m : MH} {a f p n : Nat} : K A (mvL m a f p n) = K A m := id rfl
theorem Vsr_mv {A : Nat → Nat} {h m : MH} {F P n : Nat} (v : Vsr A h) (hb : F + n + P ≤ 36) (e1 : ∀ k, g_l m (A 4) k = if F ≤ k ∧ k < F + n then g_l h (A 4) (k + P) else g_l h (A 4) k) (e2 : ∀ k, g_i m (A 24) k = if F ≤ k ∧ k < F + n then g_i h (A 24) (k + P) else g_i h (A 24) k) : Vsr A m := by
  intro k hk
  rw [e1, e2]
  by_cases c : F ≤ k ∧ k < F + n
  · rw [if_pos c, if_pos c]
    exact v (k + P) (by omega)
  · rw [if_neg c, if_neg c]
    exact v k hk
theorem on0 : Int32.ofNat 0 = 0 ∧ Int32.ofNat 1 = 1 ∧ Int32.ofNat 6 = 6 ∧ Int32.ofNat 9 = 9 ∧ Int32.ofNat 10 = 10 := by decide
set_option maxRecDepth 100000 in
theorem pN : ∀ t ∈ PS, (t.1 = Int32.ofNat t.1.toNatClampNeg ∧ t.2.1 = Int32.ofNat t.2.1.toNatClampNeg ∧ t.1.toNatClampNeg ≤ t.2.1.toNatClampNeg ∧ t.2.1.toNatClampNeg ≤ 10 ∧ (0, t.1, -1, 1) ∈ PS ∧ (Int32.ofNat (t.2.1.toNatClampNeg - t.1.toNatClampNeg), 10, -1, 0) ∈ PS) := by
  (try unfold rdy vp_in)
  decide +kernel

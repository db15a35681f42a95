/-! LOOPS: cells come to the front -/
theorem n_lt {a b : Nat} (ha : a < 2147483648) (hb : b < 2147483648) : (Int32.ofNat a < Int32.ofNat b) = (a < b) := by
  apply propext
  rw [Int32.lt_iff_toInt_lt, Int32.toInt_ofNat_of_lt (by omega), Int32.toInt_ofNat_of_lt (by omega)]
  omega
theorem n_add (a b : Nat) : Int32.ofNat a + Int32.ofNat b = Int32.ofNat (a + b) := (Int32.ofNat_add a b).symm
theorem n_cl {a : Nat} (ha : a < 2147483648) : (Int32.ofNat a).toNatClampNeg = a := by
  show (Int32.ofNat a).toInt.toNat = a
  rw [Int32.toInt_ofNat_of_lt (by omega)]
  omega
theorem n_sub {a b : Nat} (h : b ≤ a) (ha : a < 2147483648) : Int32.ofNat a - Int32.ofNat b = Int32.ofNat (a - b) := by
  apply Int32.toInt_inj.mp
  rw [Int32.toInt_sub, Int32.toInt_ofNat_of_lt (by omega), Int32.toInt_ofNat_of_lt (by omega), Int32.toInt_ofNat_of_lt (by omega), Int.bmod_eq_of_le (by omega) (by omega)]
  omega
theorem n_rdy {n a : Nat} (h : a < n) (hn : n < 2147483648) : rdy n (Int32.ofNat a) := by
  refine ⟨?_, ?_, ?_⟩
  · rw [show (0 : Int32) = Int32.ofNat 0 from rfl, n_lt (by omega) (by omega)]; omega
  · rw [n_lt (by omega) (by omega)]; exact h
  · unfold vp_in
    rw [n_cl (by omega), show (0 : Int32) = Int32.ofNat 0 from rfl, n_lt (by omega) (by omega)]
    omega
/-- longs of a row come to the front: n cells from f + p to f -/
def mvL (h : MH) (cs f p n : Nat) : MH := (h.1, h.2.1, h.2.2.1, fun b i => if b = cs ∧ f ≤ i ∧ i < f + n then g_l h cs (i + p) else g_l h b i, h.2.2.2.2)
def mvI (h : MH) (cs f p n : Nat) : MH := (h.1, h.2.1, fun b i => if b = cs ∧ f ≤ i ∧ i < f + n then g_i h cs (i + p) else g_i h b i, h.2.2.2)
theorem mvL_l {h : MH} {cs f p n b i : Nat} : g_l (mvL h cs f p n) b i = if b = cs ∧ f ≤ i ∧ i < f + n then g_l h cs (i + p) else g_l h b i := id rfl
theorem mvI_i {h : MH} {cs f p n b i : Nat} : g_i (mvI h cs f p n) b i = if b = cs ∧ f ≤ i ∧ i < f + n then g_i h cs (i + p) else g_i h b i := id rfl
section
variable {h : MH} {cs f p n b j : Nat}
theorem mvL_c : g_c (mvL h cs f p n) b = g_c h b := id rfl
theorem mvL_n : g_n (mvL h cs f p n) b = g_n h b := id rfl
theorem mvL_r : g_r (mvL h cs f p n) b j = g_r h b j := id rfl
theorem mvL_i : g_i (mvL h cs f p n) b j = g_i h b j := id rfl
theorem mvL_z : g_z (mvL h cs f p n) = g_z h := id rfl
theorem mvL_t : g_t (mvL h cs f p n) = g_t h := id rfl
theorem mvI_c : g_c (mvI h cs f p n) b = g_c h b := id rfl
theorem mvI_n : g_n (mvI h cs f p n) b = g_n h b := id rfl
theorem mvI_r : g_r (mvI h cs f p n) b j = g_r h b j := id rfl
theorem mvI_l : g_l (mvI h cs f p n) b j = g_l h b j := id rfl
theorem mvI_z : g_z (mvI h cs f p n) = g_z h := id rfl
theorem mvI_t : g_t (mvI h cs f p n) = g_t h := id rfl
end
theorem ml_ext {m n : MH} (e1 : ∀ b j, g_l m b j = g_l n b j) (e2 : (m.1, m.2.1, m.2.2.1, m.2.2.2.2) = (n.1, n.2.1, n.2.2.1, n.2.2.2.2)) : m = n := by
  obtain ⟨a1, a2, a3, a4, a5⟩ := m
  obtain ⟨b1, b2, b3, b4, b5⟩ := n
  simp only [Prod.mk.injEq] at e2
  obtain ⟨rfl, rfl, rfl, rfl⟩ := e2
  have : a4 = b4 := funext fun b => funext fun j => e1 b j
  rw [this]
theorem mvL_0 {h : MH} {cs f p : Nat} : mvL h cs f p 0 = h := by
  refine ml_ext (fun b j => ?_) rfl
  rw [mvL_l, if_neg (by omega)]
theorem mvI_0 {h : MH} {cs f p : Nat} : mvI h cs f p 0 = h := by
  refine mh_ext (fun b j => ?_) rfl
  rw [mvI_i, if_neg (by omega)]
theorem mvL_s {h : MH} {cs f p n : Nat} : p_l (mvL h cs f p n) cs (f + n) (g_l h cs (f + n + p)) = mvL h cs f p (n + 1) := by
  refine ml_ext (fun b j => ?_) rfl
  rw [ml_pl, mvL_l, mvL_l]
  by_cases hb : b = cs
  · subst hb
    by_cases hj : j = f + n
    · subst hj
      rw [if_pos ⟨rfl, rfl⟩, if_pos ⟨rfl, by omega, by omega⟩]
    · rw [if_neg (fun z => hj z.2)]
      by_cases hr : f ≤ j ∧ j < f + n
      · rw [if_pos ⟨rfl, hr.1, hr.2⟩, if_pos ⟨rfl, hr.1, by omega⟩]
      · rw [if_neg (fun z => hr z.2), if_neg (fun z => hr ⟨z.2.1, by omega⟩)]
  · rw [if_neg (fun z => hb z.1), if_neg (fun z => hb z.1), if_neg (fun z => hb z.1)]
theorem mvI_s {h : MH} {cs f p n : Nat} : p_i (mvI h cs f p n) cs (f + n) (g_i h cs (f + n + p)) = mvI h cs f p (n + 1) := by
  refine mh_ext (fun b j => ?_) rfl
  rw [mi_pi, mvI_i, mvI_i]
  by_cases hb : b = cs
  · subst hb
    by_cases hj : j = f + n
    · subst hj
      rw [if_pos ⟨rfl, rfl⟩, if_pos ⟨rfl, by omega, by omega⟩]
    · rw [if_neg (fun z => hj z.2)]
      by_cases hr : f ≤ j ∧ j < f + n
      · rw [if_pos ⟨rfl, hr.1, hr.2⟩, if_pos ⟨rfl, hr.1, by omega⟩]
      · rw [if_neg (fun z => hr z.2), if_neg (fun z => hr ⟨z.2.1, by omega⟩)]
  · rw [if_neg (fun z => hb z.1), if_neg (fun z => hb z.1), if_neg (fun z => hb z.1)]
theorem mvL_far {h : MH} {cs f p n j : Nat} (hj : n ≤ j) : g_l (mvL h cs f p n) cs (f + (p + j)) = g_l h cs (f + j + p) := by
  rw [mvL_l, if_neg (by omega)]
  congr 1
  omega
theorem mvI_far {h : MH} {cs f p n j : Nat} (hj : n ≤ j) : g_i (mvI h cs f p n) cs (f + p + j) = g_i h cs (f + j + p) := by
  rw [mvI_i, if_neg (by omega)]
  congr 1
  omega
theorem cmp_step {w rw cs R F N P L : Nat} {j n : Nat} {h : MH} {Q : MR → MH → Prop} (w1 : g_c h w = 4) (w2 : g_z h ≤ w) (w3 : g_r h w 0 = some rw) (r1 : g_c h rw = 3) (r2 : g_r h rw 0 = some cs) (r3 : g_c h cs = 102) (r4 : g_n h cs = R) (r5 : g_z h ≤ cs) (s0 : g_i h w 3 = 0) (a1 : g_i h w 1 = Int32.ofNat F) (a2 : g_i h w 2 = Int32.ofNat N) (a4 : g_i h w 4 = Int32.ofNat P) (a5 : g_i h w 5 = Int32.ofNat L) (b1 : P ≤ L) (b2 : L ≤ N) (b3 : F + N ≤ R) (b4 : R < 1000) (hj : j < n) (hn : n = L - P) : Ok 46 15 [.ref w, .int (Int32.ofNat n), .int (Int32.ofNat j)] [] (mvL h cs F P j) 0 0 Q ↔ Ok 46 15 [.ref w, .int (Int32.ofNat n), .int (Int32.ofNat (j + 1))] [] (mvL h cs F P (j + 1)) 0 0 Q := by
  have c1 : (Int32.ofNat j < Int32.ofNat n) = True := by rw [n_lt (by omega) (by omega)]; exact eq_true hj
  have c2 : ¬ Int32.ofNat (P + j) < 0 := (n_rdy (n := R) (by omega) (by omega)).1
  have c3 : Int32.ofNat (P + j) < Int32.ofNat N := by rw [n_lt (by omega) (by omega)]; omega
  have c4 : rdy R (Int32.ofNat (F + (P + j))) := n_rdy (by omega) (by omega)
  have c5 : ¬ Int32.ofNat j < 0 := (n_rdy (n := R) (by omega) (by omega)).1
  have c6 : Int32.ofNat j < Int32.ofNat N := by rw [n_lt (by omega) (by omega)]; omega
  have c7 : rdy R (Int32.ofNat (F + j)) := n_rdy (by omega) (by omega)
  have c8 : (Int32.ofNat (F + (P + j))).toNatClampNeg = F + (P + j) := n_cl (by omega)
  have c9 : (Int32.ofNat (F + j)).toNatClampNeg = F + j := n_cl (by omega)
  have c10 : Int32.ofNat j + 1 = Int32.ofNat (j + 1) := n_add j 1
  have c11 := mvL_far (h := h) (cs := cs) (f := F) (p := P) (n := j) (j := j) (Nat.le_refl _)
  rw [o46_15]
  simp only [o46_16, o46_17, o46_20, o46_21, o46_22, o46_23, o46_24, o46_27, o46_28, o46_29, o46_32, o46_35, o46_36, o46_39, c_X3_readAt (rw := rw) (cs := cs) (n := R), c_X3_writeAt (rw := rw) (cs := cs) (n := R), mcs_0, mcs_i, mcs_r, Kn_v, true_and, not_true_eq_false, not_false_eq_true, false_implies, forall_const, Nat.reduceLeDiff, Nat.reduceAdd, Nat.zero_le, lt_le, mvL_c, mvL_n, mvL_r, mvL_i, mvL_z, w1, w3, r1, r2, r3, r4, r5, s0, a1, a2, a4, n_add, c1, c2, c3, c4, c5, c6, c7, c8, c9, c10, c11, mvL_s]

theorem cmp_loop {w rw cs R F N P L : Nat} {n : Nat} {h : MH} {Q : MR → MH → Prop} (w1 : g_c h w = 4) (w2 : g_z h ≤ w) (w3 : g_r h w 0 = some rw) (r1 : g_c h rw = 3) (r2 : g_r h rw 0 = some cs) (r3 : g_c h cs = 102) (r4 : g_n h cs = R) (r5 : g_z h ≤ cs) (s0 : g_i h w 3 = 0) (a1 : g_i h w 1 = Int32.ofNat F) (a2 : g_i h w 2 = Int32.ofNat N) (a4 : g_i h w 4 = Int32.ofNat P) (a5 : g_i h w 5 = Int32.ofNat L) (b1 : P ≤ L) (b2 : L ≤ N) (b3 : F + N ≤ R) (b4 : R < 1000) (hn : n = L - P) : ∀ d j : Nat, j + d = n → (Ok 46 15 [.ref w, .int (Int32.ofNat n), .int (Int32.ofNat j)] [] (mvL h cs F P j) 0 0 Q ↔ Ok 46 15 [.ref w, .int (Int32.ofNat n), .int (Int32.ofNat n)] [] (mvL h cs F P n) 0 0 Q)
  | 0, j, hd => by
    have : j = n := by omega
    subst this
    exact Iff.rfl
  | d + 1, j, hd => (cmp_step (n := n) (j := j) w1 w2 w3 r1 r2 r3 r4 r5 s0 a1 a2 a4 a5 b1 b2 b3 b4 (by omega) hn).trans (cmp_loop w1 w2 w3 r1 r2 r3 r4 r5 s0 a1 a2 a4 a5 b1 b2 b3 b4 hn d (j + 1) (by omega))

theorem c_X3_compact {w rw cs R F N P L : Nat} {h : MH} {Q : MR → MH → Prop} (w1 : g_c h w = 4) (w2 : g_z h ≤ w) (w3 : g_r h w 0 = some rw) (r1 : g_c h rw = 3) (r2 : g_r h rw 0 = some cs) (r3 : g_c h cs = 102) (r4 : g_n h cs = R) (r5 : g_z h ≤ cs) (s0 : g_i h w 3 = 0) (a1 : g_i h w 1 = Int32.ofNat F) (a2 : g_i h w 2 = Int32.ofNat N) (a4 : g_i h w 4 = Int32.ofNat P) (a5 : g_i h w 5 = Int32.ofNat L) (b1 : P ≤ L) (b2 : L ≤ N) (b3 : F + N ≤ R) (b4 : R < 1000) : Ok 46 0 [.ref w, mk0, mk0] [] h 0 0 Q ↔ Q (.inl none) (p_i (p_i (p_i (p_i (mvL h cs F P (L - P)) w 4 0) w 5 (Int32.ofNat N)) w 6 (-1)) w 4 (Int32.ofNat (L - P))) := by
  have c0 : Int32.ofNat L - Int32.ofNat P = Int32.ofNat (L - P) := n_sub b1 (by omega)
  have c1 : (Int32.ofNat (L - P) < Int32.ofNat (L - P)) = False := by rw [n_lt (by omega) (by omega)]; exact eq_false (Nat.lt_irrefl _)
  simp only [o46_0, o46_1, o46_4, o46_7, o46_8, o46_9, o46_12, o46_13, o46_14, c_X3_rests, mcs_0, Kn_v, true_and, and_true, not_true_eq_false, false_implies, forall_const, Nat.zero_le, w1, s0, a4, a5, c0]
  have lp := cmp_loop (n := L - P) (Q := Q) w1 w2 w3 r1 r2 r3 r4 r5 s0 a1 a2 a4 a5 b1 b2 b3 b4 rfl (L - P) 0 (by omega)
  rw [mvL_0] at lp
  rw [show (0 : Int32) = Int32.ofNat 0 from rfl, lp, o46_15]
  simp only [o46_16, o46_17, o46_20, o46_21, o46_22, o46_23, o46_24, o46_27, o46_28, o46_29, o46_42, o46_43, o46_46, o46_47, o46_48, o46_51, o46_42, o46_43, o46_46, o46_47, o46_48, o46_51, c_X3_clear, mc_pi, mz_pi, mcs_0, mcs_i, mcs_r, Kn_0, kok_0, true_and, and_true, not_true_eq_false, not_false_eq_true, false_implies, forall_const, and_self, Nat.reduceLeDiff, Nat.reduceAdd, Nat.zero_le, lt_le, mvL_c, mvL_i, mvL_z, w1, w2, a2, a4, c1]
  all_goals (try exact Iff.rfl)


theorem mc_pi (h : MH) (a k b : Nat) (v : Int32) : g_c (p_i h a k v) b = g_c h b := id rfl
theorem mc_pl (h : MH) (a k b : Nat) (v : Int64) : g_c (p_l h a k v) b = g_c h b := id rfl
theorem mc_pr (h : MH) (a k b : Nat) (v : Option Nat) : g_c (p_r h a k v) b = g_c h b := id rfl
theorem mc_pN (h : MH) (a k b : Nat)  : g_c (p_N h a k) b = if b = g_t h then a else g_c h b := id rfl
theorem mc_pT (h : MH) (a b : Nat)  : g_c (p_T h a) b = g_c h b := id rfl
theorem mc_pC (h : MH) (a b : Nat) (f : Nat → Int32) : g_c (p_C h a f) b = g_c h b := id rfl
theorem mn_pi (h : MH) (a k b : Nat) (v : Int32) : g_n (p_i h a k v) b = g_n h b := id rfl
theorem mn_pl (h : MH) (a k b : Nat) (v : Int64) : g_n (p_l h a k v) b = g_n h b := id rfl
theorem mn_pr (h : MH) (a k b : Nat) (v : Option Nat) : g_n (p_r h a k v) b = g_n h b := id rfl
theorem mn_pN (h : MH) (a k b : Nat)  : g_n (p_N h a k) b = if b = g_t h then k else g_n h b := id rfl
theorem mn_pT (h : MH) (a b : Nat)  : g_n (p_T h a) b = g_n h b := id rfl
theorem mn_pC (h : MH) (a b : Nat) (f : Nat → Int32) : g_n (p_C h a f) b = g_n h b := id rfl
theorem mi_pi (h : MH) (a k b j : Nat) (v : Int32) : g_i (p_i h a k v) b j = if b = a ∧ j = k then v else g_i h b j := id rfl
theorem mi_pl (h : MH) (a k b j : Nat) (v : Int64) : g_i (p_l h a k v) b j = g_i h b j := id rfl
theorem mi_pr (h : MH) (a k b j : Nat) (v : Option Nat) : g_i (p_r h a k v) b j = g_i h b j := id rfl
theorem mi_pN (h : MH) (a k b j : Nat)  : g_i (p_N h a k) b j = if b = g_t h then 0 else g_i h b j := id rfl
theorem mi_pT (h : MH) (a b j : Nat)  : g_i (p_T h a) b j = g_i h b j := id rfl
theorem mi_pC (h : MH) (a b j : Nat) (f : Nat → Int32) : g_i (p_C h a f) b j = if b = a then f j else g_i h b j := id rfl
theorem ml_pi (h : MH) (a k b j : Nat) (v : Int32) : g_l (p_i h a k v) b j = g_l h b j := id rfl
theorem ml_pl (h : MH) (a k b j : Nat) (v : Int64) : g_l (p_l h a k v) b j = if b = a ∧ j = k then v else g_l h b j := id rfl
theorem ml_pr (h : MH) (a k b j : Nat) (v : Option Nat) : g_l (p_r h a k v) b j = g_l h b j := id rfl
theorem ml_pN (h : MH) (a k b j : Nat)  : g_l (p_N h a k) b j = if b = g_t h then 0 else g_l h b j := id rfl
theorem ml_pT (h : MH) (a b j : Nat)  : g_l (p_T h a) b j = g_l h b j := id rfl
theorem ml_pC (h : MH) (a b j : Nat) (f : Nat → Int32) : g_l (p_C h a f) b j = g_l h b j := id rfl
theorem mr_pi (h : MH) (a k b j : Nat) (v : Int32) : g_r (p_i h a k v) b j = g_r h b j := id rfl
theorem mr_pl (h : MH) (a k b j : Nat) (v : Int64) : g_r (p_l h a k v) b j = g_r h b j := id rfl
theorem mr_pr (h : MH) (a k b j : Nat) (v : Option Nat) : g_r (p_r h a k v) b j = if b = a ∧ j = k then v else g_r h b j := id rfl
theorem mr_pN (h : MH) (a k b j : Nat)  : g_r (p_N h a k) b j = if b = g_t h then none else g_r h b j := id rfl
theorem mr_pT (h : MH) (a b j : Nat)  : g_r (p_T h a) b j = g_r h b j := id rfl
theorem mr_pC (h : MH) (a b j : Nat) (f : Nat → Int32) : g_r (p_C h a f) b j = g_r h b j := id rfl
theorem mt_pi (h : MH) (a k : Nat) (v : Int32) : g_t (p_i h a k v) = g_t h := id rfl
theorem mt_pl (h : MH) (a k : Nat) (v : Int64) : g_t (p_l h a k v) = g_t h := id rfl
theorem mt_pr (h : MH) (a k : Nat) (v : Option Nat) : g_t (p_r h a k v) = g_t h := id rfl
theorem mt_pN (h : MH) (a k : Nat)  : g_t (p_N h a k) = g_t h + 1 := id rfl
theorem mt_pT (h : MH) (a : Nat)  : g_t (p_T h a) = a := id rfl
theorem mt_pC (h : MH) (a : Nat) (f : Nat → Int32) : g_t (p_C h a f) = g_t h := id rfl
theorem mz_pi (h : MH) (a k : Nat) (v : Int32) : g_z (p_i h a k v) = g_z h := id rfl
theorem mz_pl (h : MH) (a k : Nat) (v : Int64) : g_z (p_l h a k v) = g_z h := id rfl
theorem mz_pr (h : MH) (a k : Nat) (v : Option Nat) : g_z (p_r h a k v) = g_z h := id rfl
theorem mz_pN (h : MH) (a k : Nat)  : g_z (p_N h a k) = g_z h := id rfl
theorem mz_pT (h : MH) (a : Nat)  : g_z (p_T h a) = g_z h := id rfl
theorem mz_pC (h : MH) (a : Nat) (f : Nat → Int32) : g_z (p_C h a f) = g_z h := id rfl
theorem ma_pi (h : MH) (a k j : Nat) (v : Int32) : g_a (p_i h a k v) j = g_a h j := id rfl
theorem ma_pl (h : MH) (a k j : Nat) (v : Int64) : g_a (p_l h a k v) j = g_a h j := id rfl
theorem ma_pr (h : MH) (a k j : Nat) (v : Option Nat) : g_a (p_r h a k v) j = g_a h j := id rfl
theorem ma_pN (h : MH) (a k j : Nat)  : g_a (p_N h a k) j = g_a h j := id rfl
theorem ma_pT (h : MH) (a j : Nat)  : g_a (p_T h a) j = g_a h j := id rfl
theorem ma_pC (h : MH) (a j : Nat) (f : Nat → Int32) : g_a (p_C h a f) j = g_a h j := id rfl
theorem p_i_self (h : MH) (a k : Nat) : p_i h a k (g_i h a k) = h := by
  obtain ⟨h1, h2, h3, h4, h5, h6⟩ := h
  simp only [p_i, g_i]
  congr
  funext b j
  by_cases hb : b = a ∧ j = k
  · rw [if_pos hb, hb.1, hb.2]
  · rw [if_neg hb]
/-! literals -/
theorem mcs_0 : csum [] = 0 := id rfl
theorem mcs_i (x : Int32) (l : List Value) : csum (.int x :: l) = 1 + csum l := id rfl
theorem mcs_l (x : Int64) (l : List Value) : csum (.long x :: l) = 2 + csum l := id rfl
theorem mcs_r (x : Nat) (l : List Value) : csum (.ref x :: l) = 1 + csum l := id rfl
theorem mcs_n (l : List Value) : csum (.null :: l) = 1 + csum l := id rfl
theorem mrf_some (a : Nat) : va_rf (some a) = .ref a := id rfl
theorem lt_le {x y : Int32} : (x ≤ y) = ¬ y < x := by simp
theorem i10 : ((1 : Int32) = 0) = False := by decide
theorem i01 : ((0 : Int32) = 1) = False := by decide
theorem kz0 : kok 3 0 = True := by simp [kok]
theorem kz1 : kok 3 1 = True := by simp [kok]
theorem kzi2 {c : Prop}{d : Decidable c} : kok 3 (if c then 0 else 1) = True := by by_cases h : c <;> simp [kok, h]
theorem cl0 : (0 : Int32).toNatClampNeg = 0 := id rfl
theorem cl1 : (1 : Int32).toNatClampNeg = 1 := id rfl
theorem cl2 : (2 : Int32).toNatClampNeg = 2 := id rfl
theorem cl3 : (3 : Int32).toNatClampNeg = 3 := id rfl
theorem cl4 : (4 : Int32).toNatClampNeg = 4 := id rfl
theorem cl5 : (5 : Int32).toNatClampNeg = 5 := id rfl
theorem cl6 : (6 : Int32).toNatClampNeg = 6 := id rfl
theorem cl7 : (7 : Int32).toNatClampNeg = 7 := id rfl
theorem cl8 : (8 : Int32).toNatClampNeg = 8 := id rfl
theorem cl9 : (9 : Int32).toNatClampNeg = 9 := id rfl
theorem cl10 : (10 : Int32).toNatClampNeg = 10 := id rfl
theorem cl11 : (11 : Int32).toNatClampNeg = 11 := id rfl
theorem cl12 : (12 : Int32).toNatClampNeg = 12 := id rfl
theorem cl13 : (13 : Int32).toNatClampNeg = 13 := id rfl
theorem cl14 : (14 : Int32).toNatClampNeg = 14 := id rfl
theorem cl15 : (15 : Int32).toNatClampNeg = 15 := id rfl
theorem cl16 : (16 : Int32).toNatClampNeg = 16 := id rfl
theorem cl17 : (17 : Int32).toNatClampNeg = 17 := id rfl
theorem cl18 : (18 : Int32).toNatClampNeg = 18 := id rfl
theorem cl19 : (19 : Int32).toNatClampNeg = 19 := id rfl
theorem cl20 : (20 : Int32).toNatClampNeg = 20 := id rfl
theorem cl21 : (21 : Int32).toNatClampNeg = 21 := id rfl
theorem cl22 : (22 : Int32).toNatClampNeg = 22 := id rfl
theorem cl23 : (23 : Int32).toNatClampNeg = 23 := id rfl
theorem cl24 : (24 : Int32).toNatClampNeg = 24 := id rfl
theorem cl25 : (25 : Int32).toNatClampNeg = 25 := id rfl
theorem cl26 : (26 : Int32).toNatClampNeg = 26 := id rfl
theorem cl27 : (27 : Int32).toNatClampNeg = 27 := id rfl
theorem cl28 : (28 : Int32).toNatClampNeg = 28 := id rfl
theorem cl29 : (29 : Int32).toNatClampNeg = 29 := id rfl
theorem cl30 : (30 : Int32).toNatClampNeg = 30 := id rfl
theorem cl31 : (31 : Int32).toNatClampNeg = 31 := id rfl
theorem cl32 : (32 : Int32).toNatClampNeg = 32 := id rfl
theorem cl33 : (33 : Int32).toNatClampNeg = 33 := id rfl
theorem cl34 : (34 : Int32).toNatClampNeg = 34 := id rfl
theorem cl35 : (35 : Int32).toNatClampNeg = 35 := id rfl
theorem cl36 : (36 : Int32).toNatClampNeg = 36 := id rfl
theorem cl37 : (37 : Int32).toNatClampNeg = 37 := id rfl
theorem cl38 : (38 : Int32).toNatClampNeg = 38 := id rfl
theorem cl39 : (39 : Int32).toNatClampNeg = 39 := id rfl
/-- an index that lies in a row of n, as the code asks it and as the machine does -/
def rdy (n : Nat) (j : Int32) : Prop := ¬ j < 0 ∧ j < Int32.ofNat n ∧ vp_in j n
/-! CONTRACTS, the class: ledger, rows, windows -/
theorem v08 : vp_in 0 8 = True := by simp [vp_in]
theorem v78 : vp_in 7 8 = True := by simp [vp_in]
theorem c_X0_done {ld cs : Nat} {x : Int32} {h : MH} {Q : MR → MH → Prop} (l1 : g_c h ld = 2) (l2 : g_r h ld 0 = some cs) (l3 : g_c h cs = 101) (l4 : g_z h ≤ cs) (l5 : g_n h cs = 8) : Ok 1 0 [.ref ld, .int x] [] h 0 0 Q ↔ Q (.inl (some (.int x))) (p_i h cs 0 (g_i h cs 0 + 1)) := by
  simp only [o1_0, o1_1, o1_4, o1_5, o1_6, o1_7, o1_8, o1_9, o1_10, o1_11, mrf_some, true_and, and_self, cl0, l1, l2, l3, l4, l5, v08]

theorem c_X0_refused {ld cs : Nat} {x : Int32} {h : MH} {Q : MR → MH → Prop} (l1 : g_c h ld = 2) (l2 : g_r h ld 0 = some cs) (l3 : g_c h cs = 101) (l4 : g_z h ≤ cs) (l5 : g_n h cs = 8) (x1 : 0 < x) (x2 : x < 7) (x3 : vp_in x 8) : Ok 2 0 [.ref ld, .int x] [] h 0 0 Q ↔ Q (.inl (some (.int (-70000 - x)))) (p_i h cs x.toNatClampNeg (g_i h cs x.toNatClampNeg + 1)) := by
  simp only [o2_0, o2_1, o2_4, o2_5, o2_7, o2_10, o2_11, o2_14, o2_15, o2_16, o2_17, o2_18, o2_19, o2_20, o2_22, o2_23, o2_24, mrf_some, true_and, not_true_eq_false, not_false_eq_true, false_implies, forall_const, and_self, lt_le, l1, l2, l3, l4, l5, x1, x2, x3]

theorem c_ref_1 {ld cs : Nat} {h : MH} {Q : MR → MH → Prop} (l1 : g_c h ld = 2) (l2 : g_r h ld 0 = some cs) (l3 : g_c h cs = 101) (l4 : g_z h ≤ cs) (l5 : g_n h cs = 8) : Ok 2 0 [.ref ld, .int 1] [] h 0 0 Q ↔ Q (.inl (some (.int (-70000 - 1)))) (p_i h cs 1 (g_i h cs 1 + 1)) := c_X0_refused l1 l2 l3 l4 l5 (by decide) (by decide) (by unfold vp_in; decide)
theorem c_ref_2 {ld cs : Nat} {h : MH} {Q : MR → MH → Prop} (l1 : g_c h ld = 2) (l2 : g_r h ld 0 = some cs) (l3 : g_c h cs = 101) (l4 : g_z h ≤ cs) (l5 : g_n h cs = 8) : Ok 2 0 [.ref ld, .int 2] [] h 0 0 Q ↔ Q (.inl (some (.int (-70000 - 2)))) (p_i h cs 2 (g_i h cs 2 + 1)) := c_X0_refused l1 l2 l3 l4 l5 (by decide) (by decide) (by unfold vp_in; decide)
theorem c_ref_3 {ld cs : Nat} {h : MH} {Q : MR → MH → Prop} (l1 : g_c h ld = 2) (l2 : g_r h ld 0 = some cs) (l3 : g_c h cs = 101) (l4 : g_z h ≤ cs) (l5 : g_n h cs = 8) : Ok 2 0 [.ref ld, .int 3] [] h 0 0 Q ↔ Q (.inl (some (.int (-70000 - 3)))) (p_i h cs 3 (g_i h cs 3 + 1)) := c_X0_refused l1 l2 l3 l4 l5 (by decide) (by decide) (by unfold vp_in; decide)
theorem c_ref_4 {ld cs : Nat} {h : MH} {Q : MR → MH → Prop} (l1 : g_c h ld = 2) (l2 : g_r h ld 0 = some cs) (l3 : g_c h cs = 101) (l4 : g_z h ≤ cs) (l5 : g_n h cs = 8) : Ok 2 0 [.ref ld, .int 4] [] h 0 0 Q ↔ Q (.inl (some (.int (-70000 - 4)))) (p_i h cs 4 (g_i h cs 4 + 1)) := c_X0_refused l1 l2 l3 l4 l5 (by decide) (by decide) (by unfold vp_in; decide)
theorem c_ref_5 {ld cs : Nat} {h : MH} {Q : MR → MH → Prop} (l1 : g_c h ld = 2) (l2 : g_r h ld 0 = some cs) (l3 : g_c h cs = 101) (l4 : g_z h ≤ cs) (l5 : g_n h cs = 8) : Ok 2 0 [.ref ld, .int 5] [] h 0 0 Q ↔ Q (.inl (some (.int (-70000 - 5)))) (p_i h cs 5 (g_i h cs 5 + 1)) := c_X0_refused l1 l2 l3 l4 l5 (by decide) (by decide) (by unfold vp_in; decide)
theorem c_ref_6 {ld cs : Nat} {h : MH} {Q : MR → MH → Prop} (l1 : g_c h ld = 2) (l2 : g_r h ld 0 = some cs) (l3 : g_c h cs = 101) (l4 : g_z h ≤ cs) (l5 : g_n h cs = 8) : Ok 2 0 [.ref ld, .int 6] [] h 0 0 Q ↔ Q (.inl (some (.int (-70000 - 6)))) (p_i h cs 6 (g_i h cs 6 + 1)) := c_X0_refused l1 l2 l3 l4 l5 (by decide) (by decide) (by unfold vp_in; decide)
theorem c_X0_knocked {ld cs : Nat} {h : MH} {Q : MR → MH → Prop} (l1 : g_c h ld = 2) (l2 : g_r h ld 0 = some cs) (l3 : g_c h cs = 101) (l4 : g_z h ≤ cs) (l5 : g_n h cs = 8) : Ok 3 0 [.ref ld] [] h 0 0 Q ↔ Q (.inl (some (.int (g_i h cs 7 + 1)))) (p_i h cs 7 (g_i h cs 7 + 1)) := by
  simp only [o3_0, o3_1, o3_4, o3_6, o3_7, o3_8, o3_9, o3_10, o3_11, o3_12, o3_15, o3_17, o3_18, mc_pi, mn_pi, mi_pi, mr_pi, mrf_some, true_and, if_true, and_self, cl7, l1, l2, l3, l4, l5, v78]

theorem c_X0_told {ld cs : Nat} {x : Int32} {h : MH} {Q : MR → MH → Prop} (l1 : g_c h ld = 2) (l2 : g_r h ld 0 = some cs) (l3 : g_c h cs = 101) (l4 : g_z h ≤ cs) (l5 : g_n h cs = 8) (x1 : ¬ x < 0) (x2 : ¬ 7 < x) (x3 : vp_in x 8) : Ok 4 0 [.ref ld, .int x] [] h 0 0 Q ↔ Q (.inl (some (.int (g_i h cs x.toNatClampNeg)))) h := by
  simp only [o4_0, o4_1, o4_4, o4_5, o4_7, o4_10, o4_11, o4_14, o4_15, o4_16, o4_19, o4_20, mrf_some, true_and, not_false_eq_true, false_implies, forall_const, and_self, l1, l2, l3, l5, x1, x2, x3]

theorem c_X2_read {rw cs n : Nat} {j : Int32} {h : MH} {Q : MR → MH → Prop} (r1 : g_c h rw = 3) (r2 : g_r h rw 0 = some cs) (r3 : g_c h cs = 102) (r4 : g_n h cs = n) (hj : rdy n j) : Ok 29 0 [.ref rw, .int j] [] h 0 0 Q ↔ Q (.inl (some (.long (g_l h cs j.toNatClampNeg)))) h := by
  obtain ⟨j1, j2, j3⟩ := hj
  simp only [o29_0, o29_1, o29_4, o29_5, o29_6, o29_9, o29_10, o29_13, o29_14, o29_17, o29_18, o29_19, o29_22, o29_23, mrf_some, true_and, not_true_eq_false, not_false_eq_true, false_implies, forall_const, and_self, Nat.reduceLeDiff, lt_le, r1, r2, r3, r4, j1, j2, j3]

theorem c_X2_write {rw cs n : Nat} {j : Int32} {v : Int64} {h : MH} {Q : MR → MH → Prop} (r1 : g_c h rw = 3) (r2 : g_r h rw 0 = some cs) (r3 : g_c h cs = 102) (r4 : g_n h cs = n) (r5 : g_z h ≤ cs) (hj : rdy n j) : Ok 30 0 [.ref rw, .int j, .long v, mk0, mk0] [] h 0 0 Q ↔ Q (.inl (some (.int (if g_l h cs j.toNatClampNeg = v then 0 else 1)))) (p_l h cs j.toNatClampNeg v) := by
  obtain ⟨j1, j2, j3⟩ := hj
  by_cases b0 : g_l h cs j.toNatClampNeg = v <;> simp only [o30_0, o30_1, o30_4, o30_5, o30_6, o30_9, o30_10, o30_13, o30_14, o30_15, o30_16, o30_19, o30_20, o30_21, o30_22, o30_23, o30_26, o30_27, o30_30, o30_31, o30_33, o30_34, o30_37, o30_38, o30_39, o30_40, o30_42, mrf_some, true_and, and_true, not_true_eq_false, not_false_eq_true, false_implies, forall_const, if_true, if_false, and_self, Nat.reduceLeDiff, kz0, kz1, lg_cmp_eq, r1, r2, r3, r4, r5, b0, j1, j2, j3]

theorem c_X3_rests {w : Nat} {h : MH} {Q : MR → MH → Prop} (w1 : g_c h w = 4) : Ok 32 0 [.ref w] [] h 0 0 Q ↔ Q (.inl (some (.int ((g_i h w 5) - (g_i h w 4))))) h := by
  simp only [o32_0, o32_1, o32_4, o32_5, o32_8, o32_9, true_and, w1]

theorem c_X3_hasMark {w : Nat} {h : MH} {Q : MR → MH → Prop} (w1 : g_c h w = 4) : Ok 33 0 [.ref w] [] h 0 0 Q ↔ Q (.inl (some (.int (if (g_i h w 6) = -1 then 0 else 1)))) h := by
  by_cases b0 : g_i h w 6 = -1 <;> simp only [o33_0, o33_1, o33_4, o33_5, o33_8, o33_9, o33_12, o33_13, true_and, and_true, not_true_eq_false, not_false_eq_true, false_implies, forall_const, if_true, if_false, kz0, kz1, w1, b0]

theorem c_X3_setPlace {w : Nat} {x : Int32} {h : MH} {Q : MR → MH → Prop} (w1 : g_c h w = 4) (w2 : g_z h ≤ w) : Ok 38 0 [.ref w, .int x] [] h 0 0 Q ↔ Q (.inl none) (p_i (p_i h w 4 x) w 6 (if x < (g_i h w 6) then -1 else (g_i h w 6))) := by
  have e := p_i_self (p_i h w 4 x) w 6
  simp only [i_pi, Nat.reduceEqDiff, and_false, if_false] at e
  by_cases b0 : x < g_i h w 6 <;> simp only [o38_0, o38_1, o38_2, o38_5, o38_6, o38_9, o38_10, o38_13, o38_14, o38_15, o38_18, mc_pi, mi_pi, mz_pi, kok_0, true_and, and_true, and_false, not_true_eq_false, not_false_eq_true, false_implies, forall_const, if_true, if_false, and_self, Nat.reduceEqDiff, lt_le, w1, w2, b0, e]

theorem c_X3_setLimit {w : Nat} {x : Int32} {h : MH} {Q : MR → MH → Prop} (w1 : g_c h w = 4) (w2 : g_z h ≤ w) : Ok 39 0 [.ref w, .int x] [] h 0 0 Q ↔ Q (.inl none) (p_i (p_i (p_i h w 5 x) w 4 (if x < (g_i h w 4) then x else (g_i h w 4))) w 6 (if x < (g_i h w 6) then -1 else (g_i h w 6))) := by
  have e := p_i_self (p_i (p_i h w 5 x) w 4 (if x < g_i h w 4 then x else g_i h w 4)) w 6
  simp only [i_pi, Nat.reduceEqDiff, and_false, if_false] at e
  by_cases b0 : x < g_i h w 6 <;> simp only [o39_0, o39_1, o39_2, o39_5, o39_6, o39_7, o39_10, o39_11, o39_14, o39_17, o39_18, o39_21, o39_22, o39_25, o39_26, o39_27, o39_30, mc_pi, mi_pi, mz_pi, mcs_0, mcs_r, kok_0, true_and, and_true, and_false, not_true_eq_false, not_false_eq_true, false_implies, forall_const, if_true, if_false, and_self, Nat.reduceEqDiff, Nat.reduceLeDiff, Nat.reduceAdd, lt_le, w1, w2, b0, e]

theorem c_X3_setMark {w : Nat} {h : MH} {Q : MR → MH → Prop} (w1 : g_c h w = 4) (w2 : g_z h ≤ w) : Ok 40 0 [.ref w] [] h 0 0 Q ↔ Q (.inl none) (p_i h w 6 (g_i h w 4)) := by
  simp only [o40_0, o40_1, o40_2, o40_5, o40_8, kok_0, true_and, and_self, w1, w2]

theorem c_X3_setBack {w : Nat} {h : MH} {Q : MR → MH → Prop} (w1 : g_c h w = 4) (w2 : g_z h ≤ w) : Ok 41 0 [.ref w] [] h 0 0 Q ↔ Q (.inl none) (p_i h w 4 (if (g_i h w 6) = -1 then (g_i h w 4) else (g_i h w 6))) := by
  have e := p_i_self h w 4
  by_cases b0 : g_i h w 6 = -1 <;> simp only [o41_0, o41_1, o41_4, o41_7, o41_8, o41_9, o41_12, o41_15, c_X3_hasMark, mcs_0, Kn_v, kok_0, true_and, and_true, not_true_eq_false, not_false_eq_true, false_implies, forall_const, if_true, if_false, and_self, Nat.zero_le, i10, w1, w2, b0, e]

theorem c_X3_loseMark {w : Nat} {h : MH} {Q : MR → MH → Prop} (w1 : g_c h w = 4) (w2 : g_z h ≤ w) : Ok 42 0 [.ref w] [] h 0 0 Q ↔ Q (.inl none) (p_i h w 6 (-1)) := by
  simp only [o42_0, o42_1, o42_2, o42_5, kok_0, true_and, and_self, w1, w2]

theorem c_X3_clear {w : Nat} {h : MH} {Q : MR → MH → Prop} (w1 : g_c h w = 4) (w2 : g_z h ≤ w) : Ok 43 0 [.ref w] [] h 0 0 Q ↔ Q (.inl none) (p_i (p_i (p_i h w 4 0) w 5 (g_i h w 2)) w 6 (-1)) := by
  simp only [o43_0, o43_1, o43_2, o43_5, o43_6, o43_7, o43_10, o43_13, o43_14, o43_15, o43_18, mc_pi, mi_pi, mz_pi, kok_0, true_and, and_false, if_false, and_self, Nat.reduceEqDiff, w1, w2]

theorem c_X3_rewind {w : Nat} {h : MH} {Q : MR → MH → Prop} (w1 : g_c h w = 4) (w2 : g_z h ≤ w) : Ok 45 0 [.ref w] [] h 0 0 Q ↔ Q (.inl none) (p_i (p_i h w 4 0) w 6 (-1)) := by
  simp only [o45_0, o45_1, o45_2, o45_5, o45_6, o45_7, o45_10, mc_pi, mz_pi, kok_0, true_and, and_self, w1, w2]

theorem c_X3_flip {w : Nat} {h : MH} {Q : MR → MH → Prop} (w1 : g_c h w = 4) (w2 : g_z h ≤ w) : Ok 44 0 [.ref w] [] h 0 0 Q ↔ Q (.inl none) (p_i (p_i (p_i h w 5 (g_i h w 4)) w 4 0) w 6 (-1)) := by
  simp only [o44_0, o44_1, o44_2, o44_5, o44_8, o44_9, o44_12, c_X3_rewind, mc_pi, mz_pi, mcs_0, Kn_0, kok_0, true_and, and_self, Nat.zero_le, w1, w2]

theorem c_X3_isOrdered {w : Nat} {h : MH} {Q : MR → MH → Prop} (w1 : g_c h w = 4) : Ok 49 0 [.ref w] [] h 0 0 Q ↔ Q (.inl (some (.int (if -1 ≤ (g_i h w 6) ∧ (g_i h w 6) ≤ (g_i h w 4) ∧ (g_i h w 4) ≤ (g_i h w 5) ∧ (g_i h w 5) ≤ (g_i h w 2) then 1 else 0)))) h := by
  by_cases b0 : g_i h w 6 < -1 <;> by_cases b1 : g_i h w 4 < g_i h w 6 <;> by_cases b2 : g_i h w 5 < g_i h w 4 <;> by_cases b3 : g_i h w 2 < g_i h w 5 <;> simp only [o49_0, o49_1, o49_2, o49_5, o49_8, o49_9, o49_12, o49_13, o49_16, o49_19, o49_20, o49_23, o49_24, o49_27, o49_30, o49_31, o49_34, o49_35, o49_38, o49_41, o49_42, o49_45, o49_46, true_and, and_true, and_false, not_true_eq_false, not_false_eq_true, false_implies, forall_const, if_true, if_false, and_self, kz0, kz1, lt_le, w1, b0, b1, b2, b3]

theorem c_X3_readAt {w rw cs n : Nat} {i : Int32} {h : MH} {Q : MR → MH → Prop} (w1 : g_c h w = 4) (w3 : g_r h w 0 = some rw) (r1 : g_c h rw = 3) (r2 : g_r h rw 0 = some cs) (r3 : g_c h cs = 102) (r4 : g_n h cs = n) (i1 : ¬ i < 0) (i2 : i < g_i h w 2) (hj : rdy n (g_i h w 1 + i)) : Ok 34 0 [.ref w, .int i] [] h 0 0 Q ↔ Q (.inl (some (.long (g_l h cs (g_i h w 1 + i).toNatClampNeg)))) h := by
  simp only [o34_0, o34_1, o34_4, o34_5, o34_6, o34_9, o34_12, o34_13, o34_16, o34_17, o34_20, o34_21, o34_22, o34_25, o34_28, o34_29, c_X2_read (cs := cs) (n := n), mcs_0, Kn_v, mrf_some, true_and, not_true_eq_false, not_false_eq_true, false_implies, forall_const, Nat.zero_le, lt_le, w1, w3, r1, r2, r3, r4, i1, i2, hj]

theorem c_X3_writeAt {w rw cs n : Nat} {i : Int32} {v : Int64} {h : MH} {Q : MR → MH → Prop} (w1 : g_c h w = 4) (w3 : g_r h w 0 = some rw) (r1 : g_c h rw = 3) (r2 : g_r h rw 0 = some cs) (r3 : g_c h cs = 102) (r4 : g_n h cs = n) (r5 : g_z h ≤ cs) (s0 : g_i h w 3 = 0) (i1 : ¬ i < 0) (i2 : i < g_i h w 2) (hj : rdy n (g_i h w 1 + i)) : Ok 35 0 [.ref w, .int i, .long v, mk0] [] h 0 0 Q ↔ Q (.inl (some (.int (if g_l h cs (g_i h w 1 + i).toNatClampNeg = v then 0 else 1)))) (p_l h cs (g_i h w 1 + i).toNatClampNeg v) := by
  by_cases b0 : g_l h cs (g_i h w 1 + i).toNatClampNeg = v <;> simp only [o35_0, o35_1, o35_4, o35_7, o35_8, o35_11, o35_12, o35_13, o35_16, o35_19, o35_20, o35_23, o35_24, o35_27, o35_28, o35_29, o35_30, o35_33, o35_36, o35_37, o35_40, o35_41, c_X2_write (cs := cs) (n := n), mcs_0, Kn_v, mrf_some, true_and, and_true, not_true_eq_false, not_false_eq_true, false_implies, forall_const, if_true, if_false, Nat.zero_le, i10, kz0, kz1, lt_le, w1, w3, r1, r2, r3, r4, r5, s0, i1, i2, hj, b0]

theorem c_X3_readNext {w rw cs n : Nat} {h : MH} {Q : MR → MH → Prop} (w1 : g_c h w = 4) (w2 : g_z h ≤ w) (w3 : g_r h w 0 = some rw) (r1 : g_c h rw = 3) (r2 : g_r h rw 0 = some cs) (r3 : g_c h cs = 102) (r4 : g_n h cs = n) (e0 : ¬ g_i h w 5 - g_i h w 4 = 0) (i1 : ¬ g_i h w 4 < 0) (i2 : g_i h w 4 < g_i h w 2) (hj : rdy n (g_i h w 1 + g_i h w 4)) : Ok 36 0 [.ref w, mk0, mk0] [] h 0 0 Q ↔ Q (.inl (some (.long (g_l h cs (g_i h w 1 + g_i h w 4).toNatClampNeg)))) (p_i h w 4 (g_i h w 4 + 1)) := by
  simp only [o36_0, o36_1, o36_4, o36_7, o36_8, o36_9, o36_10, o36_11, o36_14, o36_17, o36_18, o36_19, o36_20, o36_23, o36_24, o36_25, o36_28, o36_29, c_X3_rests, c_X3_readAt (rw := rw) (cs := cs) (n := n), mcs_0, Kn_v, kok_0, true_and, and_true, not_false_eq_true, false_implies, forall_const, and_self, Nat.zero_le, w1, w2, w3, r1, r2, r3, r4, e0, i1, i2, hj]

theorem c_X3_writeNext {w rw cs n : Nat} {v : Int64} {h : MH} {Q : MR → MH → Prop} (w1 : g_c h w = 4) (w2 : g_z h ≤ w) (w3 : g_r h w 0 = some rw) (r1 : g_c h rw = 3) (r2 : g_r h rw 0 = some cs) (r3 : g_c h cs = 102) (r4 : g_n h cs = n) (r5 : g_z h ≤ cs) (s0 : g_i h w 3 = 0) (e0 : ¬ g_i h w 5 - g_i h w 4 = 0) (i1 : ¬ g_i h w 4 < 0) (i2 : g_i h w 4 < g_i h w 2) (hj : rdy n (g_i h w 1 + g_i h w 4)) : Ok 37 0 [.ref w, .long v, mk0, mk0] [] h 0 0 Q ↔ Q (.inl (some (.int (if g_l h cs (g_i h w 1 + g_i h w 4).toNatClampNeg = v then 0 else 1)))) (p_i (p_l h cs (g_i h w 1 + g_i h w 4).toNatClampNeg v) w 4 (g_i h w 4 + 1)) := by
  simp only [o37_0, o37_1, o37_4, o37_7, o37_8, o37_11, o37_14, o37_15, o37_16, o37_17, o37_18, o37_21, o37_22, o37_25, o37_26, o37_27, o37_28, o37_31, o37_32, o37_33, o37_36, o37_37, c_X3_rests, c_X3_writeAt (rw := rw) (cs := cs) (n := n), mc_pl, mi_pl, mz_pl, mcs_0, Kn_v, kok_0, true_and, and_true, not_true_eq_false, not_false_eq_true, false_implies, forall_const, and_self, Nat.zero_le, kz0, w1, w2, w3, r1, r2, r3, r4, r5, s0, e0, i1, i2, hj, kzi2]

theorem c_X3_init {w rw : Nat} {f n s : Int32} {h : MH} {Q : MR → MH → Prop} (w1 : g_c h w = 4) (w2 : g_z h ≤ w) (s0 : kok 3 s) : Ok 31 0 [.ref w, .ref rw, .int f, .int n, .int s] [] h 0 0 Q ↔ Q (.inl none) (p_i (p_i (p_i (p_i (p_i (p_i (p_r h w 0 (some rw)) w 1 f) w 2 n) w 3 s) w 4 0) w 5 n) w 6 (-1)) := by
  simp only [o31_0, o31_1, o31_4, o31_5, o31_6, o31_9, o31_10, o31_11, o31_14, o31_15, o31_16, o31_19, o31_20, o31_22, o31_25, o31_26, o31_29, c_X3_clear, mc_pi, mc_pr, mi_pi, mi_pr, mz_pi, mz_pr, mcs_0, Kn_0, kok_0, true_and, and_false, if_true, if_false, and_self, Nat.reduceEqDiff, Nat.zero_le, w1, w2, s0, w1, w2]


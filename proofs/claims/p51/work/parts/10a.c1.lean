section
theorem mc_pi (h : MH) (a k b : Nat) (v : Int32) : g_c (p_i h a k v) b = g_c h b := id rfl
theorem mc_pl (h : MH) (a k b : Nat) (v : Int64) : g_c (p_l h a k v) b = g_c h b := id rfl
theorem mc_pr (h : MH) (a k b : Nat) (v : Option Nat) : g_c (p_r h a k v) b = g_c h b := id rfl
theorem mc_pN (h : MH) (a k b : Nat)  : g_c (p_N h a k) b = if b = g_t h then a else g_c h b := id rfl
theorem mc_pT (h : MH) (a b : Nat)  : g_c (p_T h a) b = g_c h b := id rfl
theorem mc_pC (h : MH) (a b : Nat) (f : Nat → Int32) : g_c (p_C h a f) b = g_c h b := id rfl
theorem mn_pi (h : MH) (a k b : Nat) (v : Int32) : g_n (p_i h a k v) b = g_n h b := id rfl
theorem mn_pl (h : MH) (a k b : Nat) (v : Int64) : g_n (p_l h a k v) b = g_n h b := id rfl
theorem mn_pr (h : MH) (a k b : Nat) (v : Option Nat) : g_n (p_r h a k v) b = g_n h b := id rfl
theorem mn_pN (h : MH) (a k b : Nat)  : g_n (p_N h a k) b = if b = g_t h then k else g_n h b := id rfl
theorem mn_pT (h : MH) (a b : Nat)  : g_n (p_T h a) b = g_n h b := id rfl
theorem mn_pC (h : MH) (a b : Nat) (f : Nat → Int32) : g_n (p_C h a f) b = g_n h b := id rfl
theorem mi_pi (h : MH) (a k b j : Nat) (v : Int32) : g_i (p_i h a k v) b j = if b = a ∧ j = k then v else g_i h b j := id rfl
theorem mi_pl (h : MH) (a k b j : Nat) (v : Int64) : g_i (p_l h a k v) b j = g_i h b j := id rfl
theorem mi_pr (h : MH) (a k b j : Nat) (v : Option Nat) : g_i (p_r h a k v) b j = g_i h b j := id rfl
theorem mi_pN (h : MH) (a k b j : Nat)  : g_i (p_N h a k) b j = if b = g_t h then 0 else g_i h b j := id rfl
theorem mi_pT (h : MH) (a b j : Nat)  : g_i (p_T h a) b j = g_i h b j := id rfl
theorem mi_pC (h : MH) (a b j : Nat) (f : Nat → Int32) : g_i (p_C h a f) b j = if b = a then f j else g_i h b j := id rfl
theorem ml_pi (h : MH) (a k b j : Nat) (v : Int32) : g_l (p_i h a k v) b j = g_l h b j := id rfl
theorem ml_pl (h : MH) (a k b j : Nat) (v : Int64) : g_l (p_l h a k v) b j = if b = a ∧ j = k then v else g_l h b j := id rfl
theorem ml_pr (h : MH) (a k b j : Nat) (v : Option Nat) : g_l (p_r h a k v) b j = g_l h b j := id rfl
theorem ml_pN (h : MH) (a k b j : Nat)  : g_l (p_N h a k) b j = if b = g_t h then 0 else g_l h b j := id rfl
theorem ml_pT (h : MH) (a b j : Nat)  : g_l (p_T h a) b j = g_l h b j := id rfl
theorem ml_pC (h : MH) (a b j : Nat) (f : Nat → Int32) : g_l (p_C h a f) b j = g_l h b j := id rfl
theorem mr_pi (h : MH) (a k b j : Nat) (v : Int32) : g_r (p_i h a k v) b j = g_r h b j := id rfl
theorem mr_pl (h : MH) (a k b j : Nat) (v : Int64) : g_r (p_l h a k v) b j = g_r h b j := id rfl
theorem mr_pr (h : MH) (a k b j : Nat) (v : Option Nat) : g_r (p_r h a k v) b j = if b = a ∧ j = k then v else g_r h b j := id rfl
theorem mr_pN (h : MH) (a k b j : Nat)  : g_r (p_N h a k) b j = if b = g_t h then none else g_r h b j := id rfl
theorem mr_pT (h : MH) (a b j : Nat)  : g_r (p_T h a) b j = g_r h b j := id rfl
theorem mr_pC (h : MH) (a b j : Nat) (f : Nat → Int32) : g_r (p_C h a f) b j = g_r h b j := id rfl
theorem mt_pi (h : MH) (a k : Nat) (v : Int32) : g_t (p_i h a k v) = g_t h := id rfl
theorem mt_pl (h : MH) (a k : Nat) (v : Int64) : g_t (p_l h a k v) = g_t h := id rfl
theorem mt_pr (h : MH) (a k : Nat) (v : Option Nat) : g_t (p_r h a k v) = g_t h := id rfl
theorem mt_pN (h : MH) (a k : Nat)  : g_t (p_N h a k) = g_t h + 1 := id rfl
theorem mt_pT (h : MH) (a : Nat)  : g_t (p_T h a) = a := id rfl
theorem mt_pC (h : MH) (a : Nat) (f : Nat → Int32) : g_t (p_C h a f) = g_t h := id rfl
theorem mz_pi (h : MH) (a k : Nat) (v : Int32) : g_z (p_i h a k v) = g_z h := id rfl
theorem mz_pl (h : MH) (a k : Nat) (v : Int64) : g_z (p_l h a k v) = g_z h := id rfl
theorem mz_pr (h : MH) (a k : Nat) (v : Option Nat) : g_z (p_r h a k v) = g_z h := id rfl
theorem mz_pN (h : MH) (a k : Nat)  : g_z (p_N h a k) = g_z h := id rfl
theorem mz_pT (h : MH) (a : Nat)  : g_z (p_T h a) = g_z h := id rfl
theorem mz_pC (h : MH) (a : Nat) (f : Nat → Int32) : g_z (p_C h a f) = g_z h := id rfl
theorem ma_pi (h : MH) (a k j : Nat) (v : Int32) : g_a (p_i h a k v) j = g_a h j := id rfl
theorem ma_pl (h : MH) (a k j : Nat) (v : Int64) : g_a (p_l h a k v) j = g_a h j := id rfl
theorem ma_pr (h : MH) (a k j : Nat) (v : Option Nat) : g_a (p_r h a k v) j = g_a h j := id rfl
theorem ma_pN (h : MH) (a k j : Nat)  : g_a (p_N h a k) j = g_a h j := id rfl
theorem ma_pT (h : MH) (a j : Nat)  : g_a (p_T h a) j = g_a h j := id rfl
theorem ma_pC (h : MH) (a j : Nat) (f : Nat → Int32) : g_a (p_C h a f) j = g_a h j := id rfl
theorem p_i_self (h : MH) (a k : Nat) : p_i h a k (g_i h a k) = h := by
  obtain ⟨h1, h2, h3, h4, h5, h6⟩ := h
  simp only [p_i, g_i]
  congr
  funext b j
  by_cases hb : b = a ∧ j = k
  · rw [if_pos hb, hb.1, hb.2]
  · rw [if_neg hb]
/-! literals -/
theorem mcs_0 : csum [] = 0 := id rfl
theorem mcs_i (x : Int32) (l : List Value) : csum (.int x :: l) = 1 + csum l := id rfl
theorem mcs_l (x : Int64) (l : List Value) : csum (.long x :: l) = 2 + csum l := id rfl
theorem mcs_r (x : Nat) (l : List Value) : csum (.ref x :: l) = 1 + csum l := id rfl
theorem mcs_n (l : List Value) : csum (.null :: l) = 1 + csum l := id rfl
theorem mrf_some (a : Nat) : va_rf (some a) = .ref a := id rfl
theorem lt_le {x y : Int32} : (x ≤ y) = ¬ y < x := by simp
theorem i10 : ((1 : Int32) = 0) = False := by decide
theorem i01 : ((0 : Int32) = 1) = False := by decide
theorem kz0 : kok 3 0 = True := by simp [kok]
theorem kz1 : kok 3 1 = True := by simp [kok]
theorem kzi2 {c : Prop}{d : Decidable c} : kok 3 (if c then 0 else 1) = True := by by_cases h : c <;> simp [kok, h]
theorem cl0 : (0 : Int32).toNatClampNeg = 0 := id rfl
theorem cl1 : (1 : Int32).toNatClampNeg = 1 := id rfl
theorem cl2 : (2 : Int32).toNatClampNeg = 2 := id rfl
theorem cl3 : (3 : Int32).toNatClampNeg = 3 := id rfl
theorem cl4 : (4 : Int32).toNatClampNeg = 4 := id rfl
theorem cl5 : (5 : Int32).toNatClampNeg = 5 := id rfl
theorem cl6 : (6 : Int32).toNatClampNeg = 6 := id rfl
theorem cl7 : (7 : Int32).toNatClampNeg = 7 := id rfl
theorem cl8 : (8 : Int32).toNatClampNeg = 8 := id rfl
theorem cl9 : (9 : Int32).toNatClampNeg = 9 := id rfl
theorem cl10 : (10 : Int32).toNatClampNeg = 10 := id rfl
theorem cl11 : (11 : Int32).toNatClampNeg = 11 := id rfl
theorem cl12 : (12 : Int32).toNatClampNeg = 12 := id rfl
theorem cl13 : (13 : Int32).toNatClampNeg = 13 := id rfl
theorem cl14 : (14 : Int32).toNatClampNeg = 14 := id rfl
theorem cl15 : (15 : Int32).toNatClampNeg = 15 := id rfl
theorem cl16 : (16 : Int32).toNatClampNeg = 16 := id rfl
theorem cl17 : (17 : Int32).toNatClampNeg = 17 := id rfl
theorem cl18 : (18 : Int32).toNatClampNeg = 18 := id rfl
theorem cl19 : (19 : Int32).toNatClampNeg = 19 := id rfl
theorem cl20 : (20 : Int32).toNatClampNeg = 20 := id rfl
theorem cl21 : (21 : Int32).toNatClampNeg = 21 := id rfl
theorem cl22 : (22 : Int32).toNatClampNeg = 22 := id rfl
theorem cl23 : (23 : Int32).toNatClampNeg = 23 := id rfl
theorem cl24 : (24 : Int32).toNatClampNeg = 24 := id rfl
theorem cl25 : (25 : Int32).toNatClampNeg = 25 := id rfl
theorem cl26 : (26 : Int32).toNatClampNeg = 26 := id rfl
theorem cl27 : (27 : Int32).toNatClampNeg = 27 := id rfl
theorem cl28 : (28 : Int32).toNatClampNeg = 28 := id rfl
theorem cl29 : (29 : Int32).toNatClampNeg = 29 := id rfl
theorem cl30 : (30 : Int32).toNatClampNeg = 30 := id rfl
theorem cl31 : (31 : Int32).toNatClampNeg = 31 := id rfl
theorem cl32 : (32 : Int32).toNatClampNeg = 32 := id rfl
theorem cl33 : (33 : Int32).toNatClampNeg = 33 := id rfl
theorem cl34 : (34 : Int32).toNatClampNeg = 34 := id rfl
theorem cl35 : (35 : Int32).toNatClampNeg = 35 := id rfl
theorem cl36 : (36 : Int32).toNatClampNeg = 36 := id rfl
theorem cl37 : (37 : Int32).toNatClampNeg = 37 := id rfl
theorem cl38 : (38 : Int32).toNatClampNeg = 38 := id rfl
theorem cl39 : (39 : Int32).toNatClampNeg = 39 := id rfl
/-- an index that lies in a row of n, as the code asks it and as the machine does -/
def rdy (n : Nat) (j : Int32) : Prop := ¬ j < 0 ∧ j < Int32.ofNat n ∧ vp_in j n
/-! CONTRACTS, the class: ledger, rows, windows -/
theorem v08 : vp_in 0 8 = True := by simp [vp_in]
theorem v78 : vp_in 7 8 = True := by simp [vp_in]
theorem c_X0_done {ld cs : Nat} {x : Int32} {h : MH} {Q : MR → MH → Prop} (l1 : g_c h ld = 2) (l2 : g_r h ld 0 = some cs) (l3 : g_c h cs = 101) (l4 : g_z h ≤ cs) (l5 : g_n h cs = 8) : Ok 1 0 [.ref ld, .int x] [] h 0 0 Q ↔ Q (.inl (some (.int x))) (p_i h cs 0 (g_i h cs 0 + 1)) := by
  simp only [o1_0, o1_1, o1_4, o1_5, o1_6, o1_7, o1_8, o1_9, o1_10, o1_11, mrf_some, true_and, and_self, cl0, l1, l2, l3, l4, l5, v08]

theorem c_X0_refused {ld cs : Nat} {x : Int32} {h : MH} {Q : MR → MH → Prop} (l1 : g_c h ld = 2) (l2 : g_r h ld 0 = some cs) (l3 : g_c h cs = 101) (l4 : g_z h ≤ cs) (l5 : g_n h cs = 8) (x1 : 0 < x) (x2 : x < 7) (x3 : vp_in x 8) : Ok 2 0 [.ref ld, .int x] [] h 0 0 Q ↔ Q (.inl (some (.int (-70000 - x)))) (p_i h cs x.toNatClampNeg (g_i h cs x.toNatClampNeg + 1)) := by
  simp only [o2_0, o2_1, o2_4, o2_5, o2_7, o2_10, o2_11, o2_14, o2_15, o2_16, o2_17, o2_18, o2_19, o2_20, o2_22, o2_23, o2_24, mrf_some, true_and, not_true_eq_false, not_false_eq_true, false_implies, forall_const, and_self, lt_le, l1, l2, l3, l4, l5, x1, x2, x3]

theorem c_ref_1 {ld cs : Nat} {h : MH} {Q : MR → MH → Prop} (l1 : g_c h ld = 2) (l2 : g_r h ld 0 = some cs) (l3 : g_c h cs = 101) (l4 : g_z h ≤ cs) (l5 : g_n h cs = 8) : Ok 2 0 [.ref ld, .int 1] [] h 0 0 Q ↔ Q (.inl (some (.int (-70000 - 1)))) (p_i h cs 1 (g_i h cs 1 + 1)) := c_X0_refused l1 l2 l3 l4 l5 (by decide) (by decide) (by unfold vp_in; decide)
theorem c_ref_2 {ld cs : Nat} {h : MH} {Q : MR → MH → Prop} (l1 : g_c h ld = 2) (l2 : g_r h ld 0 = some cs) (l3 : g_c h cs = 101) (l4 : g_z h ≤ cs) (l5 : g_n h cs = 8) : Ok 2 0 [.ref ld, .int 2] [] h 0 0 Q ↔ Q (.inl (some (.int (-70000 - 2)))) (p_i h cs 2 (g_i h cs 2 + 1)) := c_X0_refused l1 l2 l3 l4 l5 (by decide) (by decide) (by unfold vp_in; decide)
theorem c_ref_3 {ld cs : Nat} {h : MH} {Q : MR → MH → Prop} (l1 : g_c h ld = 2) (l2 : g_r h ld 0 = some cs) (l3 : g_c h cs = 101) (l4 : g_z h ≤ cs) (l5 : g_n h cs = 8) : Ok 2 0 [.ref ld, .int 3] [] h 0 0 Q ↔ Q (.inl (some (.int (-70000 - 3)))) (p_i h cs 3 (g_i h cs 3 + 1)) := c_X0_refused l1 l2 l3 l4 l5 (by decide) (by decide) (by unfold vp_in; decide)
theorem c_ref_4 {ld cs : Nat} {h : MH} {Q : MR → MH → Prop} (l1 : g_c h ld = 2) (l2 : g_r h ld 0 = some cs) (l3 : g_c h cs = 101) (l4 : g_z h ≤ cs) (l5 : g_n h cs = 8) : Ok 2 0 [.ref ld, .int 4] [] h 0 0 Q ↔ Q (.inl (some (.int (-70000 - 4)))) (p_i h cs 4 (g_i h cs 4 + 1)) := c_X0_refused l1 l2 l3 l4 l5 (by decide) (by decide) (by unfold vp_in; decide)
theorem c_ref_5 {ld cs : Nat} {h : MH} {Q : MR → MH → Prop} (l1 : g_c h ld = 2) (l2 : g_r h ld 0 = some cs) (l3 : g_c h cs = 101) (l4 : g_z h ≤ cs) (l5 : g_n h cs = 8) : Ok 2 0 [.ref ld, .int 5] [] h 0 0 Q ↔ Q (.inl (some (.int (-70000 - 5)))) (p_i h cs 5 (g_i h cs 5 + 1)) := c_X0_refused l1 l2 l3 l4 l5 (by decide) (by decide) (by unfold vp_in; decide)
theorem c_ref_6 {ld cs : Nat} {h : MH} {Q : MR → MH → Prop} (l1 : g_c h ld = 2) (l2 : g_r h ld 0 = some cs) (l3 : g_c h cs = 101) (l4 : g_z h ≤ cs) (l5 : g_n h cs = 8) : Ok 2 0 [.ref ld, .int 6] [] h 0 0 Q ↔ Q (.inl (some (.int (-70000 - 6)))) (p_i h cs 6 (g_i h cs 6 + 1)) := c_X0_refused l1 l2 l3 l4 l5 (by decide) (by decide) (by unfold vp_in; decide)
theorem c_X0_knocked {ld cs : Nat} {h : MH} {Q : MR → MH → Prop} (l1 : g_c h ld = 2) (l2 : g_r h ld 0 = some cs) (l3 : g_c h cs = 101) (l4 : g_z h ≤ cs) (l5 : g_n h cs = 8) : Ok 3 0 [.ref ld] [] h 0 0 Q ↔ Q (.inl (some (.int (g_i h cs 7 + 1)))) (p_i h cs 7 (g_i h cs 7 + 1)) := by
  simp only [o3_0, o3_1, o3_4, o3_6, o3_7, o3_8, o3_9, o3_10, o3_11, o3_12, o3_15, o3_17, o3_18, mc_pi, mn_pi, mi_pi, mr_pi, mrf_some, true_and, if_true, and_self, cl7, l1, l2, l3, l4, l5, v78]

theorem c_X0_told {ld cs : Nat} {x : Int32} {h : MH} {Q : MR → MH → Prop} (l1 : g_c h ld = 2) (l2 : g_r h ld 0 = some cs) (l3 : g_c h cs = 101) (l4 : g_z h ≤ cs) (l5 : g_n h cs = 8) (x1 : ¬ x < 0) (x2 : ¬ 7 < x) (x3 : vp_in x 8) : Ok 4 0 [.ref ld, .int x] [] h 0 0 Q ↔ Q (.inl (some (.int (g_i h cs x.toNatClampNeg)))) h := by
  simp only [o4_0, o4_1, o4_4, o4_5, o4_7, o4_10, o4_11, o4_14, o4_15, o4_16, o4_19, o4_20, mrf_some, true_and, not_false_eq_true, false_implies, forall_const, and_self, l1, l2, l3, l5, x1, x2, x3]

theorem c_X2_read {rw cs n : Nat} {j : Int32} {h : MH} {Q : MR → MH → Prop} (r1 : g_c h rw = 3) (r2 : g_r h rw 0 = some cs) (r3 : g_c h cs = 102) (r4 : g_n h cs = n) (hj : rdy n j) : Ok 29 0 [.ref rw, .int j] [] h 0 0 Q ↔ Q (.inl (some (.long (g_l h cs j.toNatClampNeg)))) h := by
  obtain ⟨j1, j2, j3⟩ := hj
  simp only [o29_0, o29_1, o29_4, o29_5, o29_6, o29_9, o29_10, o29_13, o29_14, o29_17, o29_18, o29_19, o29_22, o29_23, mrf_some, true_and, not_true_eq_false, not_false_eq_true, false_implies, forall_const, and_self, Nat.reduceLeDiff, lt_le, r1, r2, r3, r4, j1, j2, j3]

theorem c_X2_write {rw cs n : Nat} {j : Int32} {v : Int64} {h : MH} {Q : MR → MH → Prop} (r1 : g_c h rw = 3) (r2 : g_r h rw 0 = some cs) (r3 : g_c h cs = 102) (r4 : g_n h cs = n) (r5 : g_z h ≤ cs) (hj : rdy n j) : Ok 30 0 [.ref rw, .int j, .long v, mk0, mk0] [] h 0 0 Q ↔ Q (.inl (some (.int (if g_l h cs j.toNatClampNeg = v then 0 else 1)))) (p_l h cs j.toNatClampNeg v) := by
  obtain ⟨j1, j2, j3⟩ := hj
  by_cases b0 : g_l h cs j.toNatClampNeg = v <;> simp only [o30_0, o30_1, o30_4, o30_5, o30_6, o30_9, o30_10, o30_13, o30_14, o30_15, o30_16, o30_19, o30_20, o30_21, o30_22, o30_23, o30_26, o30_27, o30_30, o30_31, o30_33, o30_34, o30_37, o30_38, o30_39, o30_40, o30_42, mrf_some, true_and, and_true, not_true_eq_false, not_false_eq_true, false_implies, forall_const, if_true, if_false, and_self, Nat.reduceLeDiff, kz0, kz1, lg_cmp_eq, r1, r2, r3, r4, r5, b0, j1, j2, j3]

theorem c_X3_rests {w : Nat} {h : MH} {Q : MR → MH → Prop} (w1 : g_c h w = 4) : Ok 32 0 [.ref w] [] h 0 0 Q ↔ Q (.inl (some (.int ((g_i h w 5) - (g_i h w 4))))) h := by
  simp only [o32_0, o32_1, o32_4, o32_5, o32_8, o32_9, true_and, w1]

theorem c_X3_hasMark {w : Nat} {h : MH} {Q : MR → MH → Prop} (w1 : g_c h w = 4) : Ok 33 0 [.ref w] [] h 0 0 Q ↔ Q (.inl (some (.int (if (g_i h w 6) = -1 then 0 else 1)))) h := by
  by_cases b0 : g_i h w 6 = -1 <;> simp only [o33_0, o33_1, o33_4, o33_5, o33_8, o33_9, o33_12, o33_13, true_and, and_true, not_true_eq_false, not_false_eq_true, false_implies, forall_const, if_true, if_false, kz0, kz1, w1, b0]

theorem c_X3_setPlace {w : Nat} {x : Int32} {h : MH} {Q : MR → MH → Prop} (w1 : g_c h w = 4) (w2 : g_z h ≤ w) : Ok 38 0 [.ref w, .int x] [] h 0 0 Q ↔ Q (.inl none) (p_i (p_i h w 4 x) w 6 (if x < (g_i h w 6) then -1 else (g_i h w 6))) := by
  have e := p_i_self (p_i h w 4 x) w 6
  simp only [i_pi, Nat.reduceEqDiff, and_false, if_false] at e
  by_cases b0 : x < g_i h w 6 <;> simp only [o38_0, o38_1, o38_2, o38_5, o38_6, o38_9, o38_10, o38_13, o38_14, o38_15, o38_18, mc_pi, mi_pi, mz_pi, kok_0, true_and, and_true, and_false, not_true_eq_false, not_false_eq_true, false_implies, forall_const, if_true, if_false, and_self, Nat.reduceEqDiff, lt_le, w1, w2, b0, e]

theorem c_X3_setLimit {w : Nat} {x : Int32} {h : MH} {Q : MR → MH → Prop} (w1 : g_c h w = 4) (w2 : g_z h ≤ w) : Ok 39 0 [.ref w, .int x] [] h 0 0 Q ↔ Q (.inl none) (p_i (p_i (p_i h w 5 x) w 4 (if x < (g_i h w 4) then x else (g_i h w 4))) w 6 (if x < (g_i h w 6) then -1 else (g_i h w 6))) := by
  have e := p_i_self (p_i (p_i h w 5 x) w 4 (if x < g_i h w 4 then x else g_i h w 4)) w 6
  simp only [i_pi, Nat.reduceEqDiff, and_false, if_false] at e
  by_cases b0 : x < g_i h w 6 <;> simp only [o39_0, o39_1, o39_2, o39_5, o39_6, o39_7, o39_10, o39_11, o39_14, o39_17, o39_18, o39_21, o39_22, o39_25, o39_26, o39_27, o39_30, mc_pi, mi_pi, mz_pi, mcs_0, mcs_r, kok_0, true_and, and_true, and_false, not_true_eq_false, not_false_eq_true, false_implies, forall_const, if_true, if_false, and_self, Nat.reduceEqDiff, Nat.reduceLeDiff, Nat.reduceAdd, lt_le, w1, w2, b0, e]

theorem c_X3_setMark {w : Nat} {h : MH} {Q : MR → MH → Prop} (w1 : g_c h w = 4) (w2 : g_z h ≤ w) : Ok 40 0 [.ref w] [] h 0 0 Q ↔ Q (.inl none) (p_i h w 6 (g_i h w 4)) := by
  simp only [o40_0, o40_1, o40_2, o40_5, o40_8, kok_0, true_and, and_self, w1, w2]

theorem c_X3_setBack {w : Nat} {h : MH} {Q : MR → MH → Prop} (w1 : g_c h w = 4) (w2 : g_z h ≤ w) : Ok 41 0 [.ref w] [] h 0 0 Q ↔ Q (.inl none) (p_i h w 4 (if (g_i h w 6) = -1 then (g_i h w 4) else (g_i h w 6))) := by
  have e := p_i_self h w 4
  by_cases b0 : g_i h w 6 = -1 <;> simp only [o41_0, o41_1, o41_4, o41_7, o41_8, o41_9, o41_12, o41_15, c_X3_hasMark, mcs_0, Kn_v, kok_0, true_and, and_true, not_true_eq_false, not_false_eq_true, false_implies, forall_const, if_true, if_false, and_self, Nat.zero_le, i10, w1, w2, b0, e]

theorem c_X3_loseMark {w : Nat} {h : MH} {Q : MR → MH → Prop} (w1 : g_c h w = 4) (w2 : g_z h ≤ w) : Ok 42 0 [.ref w] [] h 0 0 Q ↔ Q (.inl none) (p_i h w 6 (-1)) := by
  simp only [o42_0, o42_1, o42_2, o42_5, kok_0, true_and, and_self, w1, w2]

theorem c_X3_clear {w : Nat} {h : MH} {Q : MR → MH → Prop} (w1 : g_c h w = 4) (w2 : g_z h ≤ w) : Ok 43 0 [.ref w] [] h 0 0 Q ↔ Q (.inl none) (p_i (p_i (p_i h w 4 0) w 5 (g_i h w 2)) w 6 (-1)) := by
  simp only [o43_0, o43_1, o43_2, o43_5, o43_6, o43_7, o43_10, o43_13, o43_14, o43_15, o43_18, mc_pi, mi_pi, mz_pi, kok_0, true_and, and_false, if_false, and_self, Nat.reduceEqDiff, w1, w2]

theorem c_X3_rewind {w : Nat} {h : MH} {Q : MR → MH → Prop} (w1 : g_c h w = 4) (w2 : g_z h ≤ w) : Ok 45 0 [.ref w] [] h 0 0 Q ↔ Q (.inl none) (p_i (p_i h w 4 0) w 6 (-1)) := by
  simp only [o45_0, o45_1, o45_2, o45_5, o45_6, o45_7, o45_10, mc_pi, mz_pi, kok_0, true_and, and_self, w1, w2]

theorem c_X3_flip {w : Nat} {h : MH} {Q : MR → MH → Prop} (w1 : g_c h w = 4) (w2 : g_z h ≤ w) : Ok 44 0 [.ref w] [] h 0 0 Q ↔ Q (.inl none) (p_i (p_i (p_i h w 5 (g_i h w 4)) w 4 0) w 6 (-1)) := by
  simp only [o44_0, o44_1, o44_2, o44_5, o44_8, o44_9, o44_12, c_X3_rewind, mc_pi, mz_pi, mcs_0, Kn_0, kok_0, true_and, and_self, Nat.zero_le, w1, w2]

theorem c_X3_isOrdered {w : Nat} {h : MH} {Q : MR → MH → Prop} (w1 : g_c h w = 4) : Ok 49 0 [.ref w] [] h 0 0 Q ↔ Q (.inl (some (.int (if -1 ≤ (g_i h w 6) ∧ (g_i h w 6) ≤ (g_i h w 4) ∧ (g_i h w 4) ≤ (g_i h w 5) ∧ (g_i h w 5) ≤ (g_i h w 2) then 1 else 0)))) h := by
  by_cases b0 : g_i h w 6 < -1 <;> by_cases b1 : g_i h w 4 < g_i h w 6 <;> by_cases b2 : g_i h w 5 < g_i h w 4 <;> by_cases b3 : g_i h w 2 < g_i h w 5 <;> simp only [o49_0, o49_1, o49_2, o49_5, o49_8, o49_9, o49_12, o49_13, o49_16, o49_19, o49_20, o49_23, o49_24, o49_27, o49_30, o49_31, o49_34, o49_35, o49_38, o49_41, o49_42, o49_45, o49_46, true_and, and_true, and_false, not_true_eq_false, not_false_eq_true, false_implies, forall_const, if_true, if_false, and_self, kz0, kz1, lt_le, w1, b0, b1, b2, b3]

theorem c_X3_readAt {w rw cs n : Nat} {i : Int32} {h : MH} {Q : MR → MH → Prop} (w1 : g_c h w = 4) (w3 : g_r h w 0 = some rw) (r1 : g_c h rw = 3) (r2 : g_r h rw 0 = some cs) (r3 : g_c h cs = 102) (r4 : g_n h cs = n) (i1 : ¬ i < 0) (i2 : i < g_i h w 2) (hj : rdy n (g_i h w 1 + i)) : Ok 34 0 [.ref w, .int i] [] h 0 0 Q ↔ Q (.inl (some (.long (g_l h cs (g_i h w 1 + i).toNatClampNeg)))) h := by
  simp only [o34_0, o34_1, o34_4, o34_5, o34_6, o34_9, o34_12, o34_13, o34_16, o34_17, o34_20, o34_21, o34_22, o34_25, o34_28, o34_29, c_X2_read (cs := cs) (n := n), mcs_0, Kn_v, mrf_some, true_and, not_true_eq_false, not_false_eq_true, false_implies, forall_const, Nat.zero_le, lt_le, w1, w3, r1, r2, r3, r4, i1, i2, hj]

theorem c_X3_writeAt {w rw cs n : Nat} {i : Int32} {v : Int64} {h : MH} {Q : MR → MH → Prop} (w1 : g_c h w = 4) (w3 : g_r h w 0 = some rw) (r1 : g_c h rw = 3) (r2 : g_r h rw 0 = some cs) (r3 : g_c h cs = 102) (r4 : g_n h cs = n) (r5 : g_z h ≤ cs) (s0 : g_i h w 3 = 0) (i1 : ¬ i < 0) (i2 : i < g_i h w 2) (hj : rdy n (g_i h w 1 + i)) : Ok 35 0 [.ref w, .int i, .long v, mk0] [] h 0 0 Q ↔ Q (.inl (some (.int (if g_l h cs (g_i h w 1 + i).toNatClampNeg = v then 0 else 1)))) (p_l h cs (g_i h w 1 + i).toNatClampNeg v) := by
  by_cases b0 : g_l h cs (g_i h w 1 + i).toNatClampNeg = v <;> simp only [o35_0, o35_1, o35_4, o35_7, o35_8, o35_11, o35_12, o35_13, o35_16, o35_19, o35_20, o35_23, o35_24, o35_27, o35_28, o35_29, o35_30, o35_33, o35_36, o35_37, o35_40, o35_41, c_X2_write (cs := cs) (n := n), mcs_0, Kn_v, mrf_some, true_and, and_true, not_true_eq_false, not_false_eq_true, false_implies, forall_const, if_true, if_false, Nat.zero_le, i10, kz0, kz1, lt_le, w1, w3, r1, r2, r3, r4, r5, s0, i1, i2, hj, b0]

theorem c_X3_readNext {w rw cs n : Nat} {h : MH} {Q : MR → MH → Prop} (w1 : g_c h w = 4) (w2 : g_z h ≤ w) (w3 : g_r h w 0 = some rw) (r1 : g_c h rw = 3) (r2 : g_r h rw 0 = some cs) (r3 : g_c h cs = 102) (r4 : g_n h cs = n) (e0 : ¬ g_i h w 5 - g_i h w 4 = 0) (i1 : ¬ g_i h w 4 < 0) (i2 : g_i h w 4 < g_i h w 2) (hj : rdy n (g_i h w 1 + g_i h w 4)) : Ok 36 0 [.ref w, mk0, mk0] [] h 0 0 Q ↔ Q (.inl (some (.long (g_l h cs (g_i h w 1 + g_i h w 4).toNatClampNeg)))) (p_i h w 4 (g_i h w 4 + 1)) := by
  simp only [o36_0, o36_1, o36_4, o36_7, o36_8, o36_9, o36_10, o36_11, o36_14, o36_17, o36_18, o36_19, o36_20, o36_23, o36_24, o36_25, o36_28, o36_29, c_X3_rests, c_X3_readAt (rw := rw) (cs := cs) (n := n), mcs_0, Kn_v, kok_0, true_and, and_true, not_false_eq_true, false_implies, forall_const, and_self, Nat.zero_le, w1, w2, w3, r1, r2, r3, r4, e0, i1, i2, hj]

theorem c_X3_writeNext {w rw cs n : Nat} {v : Int64} {h : MH} {Q : MR → MH → Prop} (w1 : g_c h w = 4) (w2 : g_z h ≤ w) (w3 : g_r h w 0 = some rw) (r1 : g_c h rw = 3) (r2 : g_r h rw 0 = some cs) (r3 : g_c h cs = 102) (r4 : g_n h cs = n) (r5 : g_z h ≤ cs) (s0 : g_i h w 3 = 0) (e0 : ¬ g_i h w 5 - g_i h w 4 = 0) (i1 : ¬ g_i h w 4 < 0) (i2 : g_i h w 4 < g_i h w 2) (hj : rdy n (g_i h w 1 + g_i h w 4)) : Ok 37 0 [.ref w, .long v, mk0, mk0] [] h 0 0 Q ↔ Q (.inl (some (.int (if g_l h cs (g_i h w 1 + g_i h w 4).toNatClampNeg = v then 0 else 1)))) (p_i (p_l h cs (g_i h w 1 + g_i h w 4).toNatClampNeg v) w 4 (g_i h w 4 + 1)) := by
  simp only [o37_0, o37_1, o37_4, o37_7, o37_8, o37_11, o37_14, o37_15, o37_16, o37_17, o37_18, o37_21, o37_22, o37_25, o37_26, o37_27, o37_28, o37_31, o37_32, o37_33, o37_36, o37_37, c_X3_rests, c_X3_writeAt (rw := rw) (cs := cs) (n := n), mc_pl, mi_pl, mz_pl, mcs_0, Kn_v, kok_0, true_and, and_true, not_true_eq_false, not_false_eq_true, false_implies, forall_const, and_self, Nat.zero_le, kz0, w1, w2, w3, r1, r2, r3, r4, r5, s0, e0, i1, i2, hj, kzi2]

theorem c_X3_init {w rw : Nat} {f n s : Int32} {h : MH} {Q : MR → MH → Prop} (w1 : g_c h w = 4) (w2 : g_z h ≤ w) (s0 : kok 3 s) : Ok 31 0 [.ref w, .ref rw, .int f, .int n, .int s] [] h 0 0 Q ↔ Q (.inl none) (p_i (p_i (p_i (p_i (p_i (p_i (p_r h w 0 (some rw)) w 1 f) w 2 n) w 3 s) w 4 0) w 5 n) w 6 (-1)) := by
  simp only [o31_0, o31_1, o31_4, o31_5, o31_6, o31_9, o31_10, o31_11, o31_14, o31_15, o31_16, o31_19, o31_20, o31_22, o31_25, o31_26, o31_29, c_X3_clear, mc_pi, mc_pr, mi_pi, mi_pr, mz_pi, mz_pr, mcs_0, Kn_0, kok_0, true_and, and_false, if_true, if_false, and_self, Nat.reduceEqDiff, Nat.zero_le, w1, w2, s0, w1, w2]
end

section
/-! CONTRACTS, the class: queues -/
/-- a queue's seven numbers: the writer's place, limit, mark; the reader's; around -/
abbrev QT : Type := Int32 × Int32 × Int32 × Int32 × Int32 × Int32 × Int32
def cT (h : MH) (q w r : Nat) : QT := (g_i h w 4, g_i h w 5, g_i h w 6, g_i h r 4, g_i h r 5, g_i h r 6, g_i h q 3)
def cW (h : MH) (q w r : Nat) (t : QT) : MH := p_i (p_i (p_i (p_i (p_i (p_i (p_i h w 4 t.1) w 5 t.2.1) w 6 t.2.2.1) r 4 t.2.2.2.1) r 5 t.2.2.2.2.1) r 6 t.2.2.2.2.2.1) q 3 t.2.2.2.2.2.2
/-- first part of settling a ring -/
def arF (sz : Int32) (t : QT) : QT := match t with
  | (wp, wl, wm, rp, rl, rm, ar) => if wp = sz then (0, wl, -1, rp, rl, rm, 1) else if ar = 0 then (wp, wl, wm, rp, rl, rm, ar) else if rp = sz then (wp, wl, wm, 0, rl, -1, 0) else (wp, wl, wm, rp, rl, rm, ar)
/-- setting a limit: place, limit, mark -/
def liP (p x : Int32) : Int32 := if x < p then x else p
def liM (m x : Int32) : Int32 := if x < m then -1 else m
def olF (t : QT) : Int32 := match t with
  | (_, _, _, rp, _, rm, _) => if rm < 0 then rp else rm
def enF (sz : Int32) (t : QT) : QT := match t with
  | (wp, wl, wm, rp, rl, rm, ar) => let x := if ar = 0 then wp else sz; let rp2 := liP rp x; let rm2 := liM rm x; let y := if ar = 0 then sz else (if rm2 < 0 then rp2 else rm2); (liP wp y, y, liM wm y, rp2, x, rm2, ar)
def seF (ring sz : Int32) (t : QT) : QT := if ring = 0 then enF sz t else enF sz (arF sz t)
def lyF (t : QT) : Int32 := match t with
  | (wp, _, _, rp, rl, _, ar) => rl - rp + (if ar = 0 then 0 else wp)
def frF (ring : Int32) (t : QT) : Int32 := match t with
  | (wp, wl, _, rp, _, rm, ar) => wl - wp + (if ring = 0 then 0 else if ar = 0 then (if rm < 0 then rp else rm) else 0)
def ceF (t : QT) (x : Int32) : Int32 := match t with
  | (_, _, _, rp, rl, _, _) => if x < rl - rp then rp + x else x - (rl - rp)
theorem ite_r {p : Prop} [Decidable p] {a b c : Int32} (f : ¬ p → b = c) : (if p then a else b) = (if p then a else c) := by
  by_cases z : p
  · rw [if_pos z, if_pos z]
  · rw [if_neg z, if_neg z]
    exact f z
theorem ite_s {p : Prop} [Decidable p] {a b c : Int32} (f : p → a = c) (g : ¬ p → b = c) : (if p then a else b) = c := by
  by_cases z : p
  · rw [if_pos z]
    exact f z
  · rw [if_neg z]
    exact g z
theorem gi_of {h : MH} {b j x k : Nat} (z : b = x ∧ j = k) : g_i h x k = g_i h b j := by rw [z.1, z.2]
theorem mh_ext {m n : MH} (e1 : ∀ b j, g_i m b j = g_i n b j) (e2 : (m.1, m.2.1, m.2.2.2) = (n.1, n.2.1, n.2.2.2)) : m = n := by
  obtain ⟨a1, a2, a3, a4⟩ := m
  obtain ⟨b1, b2, b3, b4⟩ := n
  simp only [Prod.mk.injEq] at e2
  obtain ⟨rfl, rfl, rfl⟩ := e2
  have : a3 = b3 := funext fun b => funext fun j => e1 b j
  rw [this]

theorem c_X1_oldest {q w r : Nat} {h : MH} {Q : MR → MH → Prop} (q1 : g_c h q = 5) (q3 : g_r h q 0 = some w) (q4 : g_r h q 1 = some r) (w1 : g_c h w = 4) (v1 : g_c h r = 4) : Ok 7 0 [.ref q] [] h 0 0 Q ↔ Q (.inl (some (.int (olF (cT h q w r))))) h := by
  by_cases b0 : g_i h r 6 < 0 <;> simp only [o7_0, o7_1, o7_4, o7_7, o7_10, o7_11, o7_14, o7_17, o7_20, o7_21, o7_24, o7_27, mrf_some, true_and, and_true, not_true_eq_false, not_false_eq_true, false_implies, forall_const, if_true, if_false, lt_le, q1, q4, v1, b0, olF, cT]

theorem c_X1_kept {q w r : Nat} {h : MH} {Q : MR → MH → Prop} (q1 : g_c h q = 5) (q3 : g_r h q 0 = some w) (q4 : g_r h q 1 = some r) (w1 : g_c h w = 4) (v1 : g_c h r = 4) : Ok 8 0 [.ref q] [] h 0 0 Q ↔ Q (.inl (some (.int (g_i h r 4 - olF (cT h q w r))))) h := by
  simp only [o8_0, o8_1, o8_4, o8_7, o8_8, o8_11, o8_12, c_X1_oldest (w := w) (r := r), mcs_0, mcs_i, Kn_v, mrf_some, true_and, Nat.reduceLeDiff, Nat.reduceAdd, q1, q3, q4, w1, v1]

theorem c_X1_lying {q w r : Nat} {h : MH} {Q : MR → MH → Prop} (q1 : g_c h q = 5) (q3 : g_r h q 0 = some w) (q4 : g_r h q 1 = some r) (w1 : g_c h w = 4) (v1 : g_c h r = 4) : Ok 9 0 [.ref q] [] h 0 0 Q ↔ Q (.inl (some (.int (lyF (cT h q w r))))) h := by
  by_cases b0 : g_i h q 3 = 0 <;> simp only [o9_0, o9_1, o9_4, o9_7, o9_8, o9_11, o9_14, o9_15, o9_18, o9_21, o9_24, o9_25, o9_26, c_X3_rests, mcs_0, Kn_v, mrf_some, true_and, and_true, not_true_eq_false, not_false_eq_true, false_implies, forall_const, if_true, if_false, Nat.zero_le, q1, q3, q4, w1, v1, b0, lyF, cT]

theorem c_X1_freeCells {q w r : Nat} {h : MH} {Q : MR → MH → Prop} (q1 : g_c h q = 5) (q3 : g_r h q 0 = some w) (q4 : g_r h q 1 = some r) (w1 : g_c h w = 4) (v1 : g_c h r = 4) : Ok 10 0 [.ref q] [] h 0 0 Q ↔ Q (.inl (some (.int (frF (g_i h q 2) (cT h q w r))))) h := by
  by_cases b0 : g_i h q 2 = 0 <;> by_cases b1 : g_i h q 3 = 0 <;> simp only [o10_0, o10_1, o10_4, o10_7, o10_8, o10_11, o10_14, o10_15, o10_18, o10_21, o10_22, o10_25, o10_28, o10_29, o10_30, c_X3_rests, c_X1_oldest (w := w) (r := r), mcs_0, mcs_i, Kn_v, mrf_some, true_and, and_true, not_true_eq_false, not_false_eq_true, false_implies, forall_const, if_true, if_false, Nat.reduceLeDiff, Nat.reduceAdd, Nat.zero_le, q1, q3, q4, w1, v1, b0, b1, frF, olF, cT]

theorem c_X1_hasNone {q w r : Nat} {h : MH} {Q : MR → MH → Prop} (q1 : g_c h q = 5) (q3 : g_r h q 0 = some w) (q4 : g_r h q 1 = some r) (w1 : g_c h w = 4) (v1 : g_c h r = 4) : Ok 11 0 [.ref q] [] h 0 0 Q ↔ Q (.inl (some (.int (if g_i h r 5 - g_i h r 4 = 0 then 1 else 0)))) h := by
  by_cases b0 : g_i h r 5 - g_i h r 4 = 0 <;> simp only [o11_0, o11_1, o11_4, o11_7, o11_10, o11_11, o11_14, o11_15, c_X3_rests, mcs_0, Kn_v, mrf_some, true_and, and_true, not_true_eq_false, not_false_eq_true, false_implies, forall_const, if_true, if_false, Nat.zero_le, kz0, kz1, q1, q4, v1, b0]

theorem c_X1_hasNoRest {q w r : Nat} {h : MH} {Q : MR → MH → Prop} (q1 : g_c h q = 5) (q3 : g_r h q 0 = some w) (q4 : g_r h q 1 = some r) (w1 : g_c h w = 4) (v1 : g_c h r = 4) : Ok 12 0 [.ref q] [] h 0 0 Q ↔ Q (.inl (some (.int (if g_i h w 5 - g_i h w 4 = 0 then 1 else 0)))) h := by
  by_cases b0 : g_i h w 5 - g_i h w 4 = 0 <;> simp only [o12_0, o12_1, o12_4, o12_7, o12_10, o12_11, o12_14, o12_15, c_X3_rests, mcs_0, Kn_v, mrf_some, true_and, and_true, not_true_eq_false, not_false_eq_true, false_implies, forall_const, if_true, if_false, Nat.zero_le, kz0, kz1, q1, q3, w1, b0]

theorem c_X1_cellAt {q w r : Nat} {x : Int32} {h : MH} {Q : MR → MH → Prop} (q1 : g_c h q = 5) (q3 : g_r h q 0 = some w) (q4 : g_r h q 1 = some r) (w1 : g_c h w = 4) (v1 : g_c h r = 4) : Ok 21 0 [.ref q, .int x, mk0] [] h 0 0 Q ↔ Q (.inl (some (.int (ceF (cT h q w r) x)))) h := by
  by_cases b0 : x < g_i h r 5 - g_i h r 4 <;> simp only [o21_0, o21_1, o21_4, o21_7, o21_8, o21_9, o21_10, o21_13, o21_14, o21_17, o21_20, o21_21, o21_22, o21_25, o21_26, o21_27, o21_28, c_X3_rests, mcs_0, Kn_v, mrf_some, true_and, and_true, not_true_eq_false, not_false_eq_true, false_implies, forall_const, if_true, if_false, Nat.zero_le, lt_le, q1, q4, v1, b0, ceF, cT]

theorem cW_cT {h : MH} {q w r : Nat} (n1 : ¬ w = r) (n3 : ¬ q = w) (n5 : ¬ q = r) (n2 : ¬ r = w) (n4 : ¬ w = q) (n6 : ¬ r = q) (t : QT) : cT (cW h q w r t) q w r = t := by
  obtain ⟨a1, a2, a3, a4, a5, a6, a7⟩ := t
  simp only [cT, cW, mi_pi, n1, n2, n3, n4, n5, n6, and_true, and_false, if_true, if_false, Nat.reduceEqDiff]
theorem cW_self {h : MH} {q w r : Nat} : cW h q w r (cT h q w r) = h := by
  refine mh_ext (fun b j => ?_) rfl
  simp only [cT, cW, mi_pi]
  exact ite_s gi_of fun _ => ite_s gi_of fun _ => ite_s gi_of fun _ => ite_s gi_of fun _ => ite_s gi_of fun _ => ite_s gi_of fun _ => ite_s gi_of fun _ => rfl

/-- what a queue's method wrote is a whole row of seven -/
theorem cW_of {h h' : MH} {q w r : Nat} {t : QT} (n1 : ¬ w = r) (n3 : ¬ q = w) (n5 : ¬ q = r) (n2 : ¬ r = w) (n4 : ¬ w = q) (n6 : ¬ r = q) (e : cT h' q w r = t) (e1 : cW h' q w r t = cW h q w r t) : h' = cW h q w r t := by
  rw [← e1, ← e, cW_self]

section
variable {h : MH} {q w r : Nat} {t : QT} (b j : Nat)
theorem c_cW : g_c (cW h q w r t) b = g_c h b := id rfl
theorem n_cW : g_n (cW h q w r t) b = g_n h b := id rfl
theorem r_cW : g_r (cW h q w r t) b j = g_r h b j := id rfl
theorem l_cW : g_l (cW h q w r t) b j = g_l h b j := id rfl
theorem z_cW : g_z (cW h q w r t) = g_z h := id rfl
theorem t_cW : g_t (cW h q w r t) = g_t h := id rfl
end
theorem cW_0 {h : MH} {q w r : Nat} {t : QT} {v : Int32} : cW (p_i h w 4 v) q w r t = cW h q w r t := by
  refine mh_ext (fun b j => ?_) rfl
  simp only [cW, mi_pi]
  exact ite_r fun n0 => ite_r fun n1 => ite_r fun n2 => ite_r fun n3 => ite_r fun n4 => ite_r fun n5 => ite_r fun n6 => if_neg n6
theorem cW_1 {h : MH} {q w r : Nat} {t : QT} {v : Int32} : cW (p_i h w 5 v) q w r t = cW h q w r t := by
  refine mh_ext (fun b j => ?_) rfl
  simp only [cW, mi_pi]
  exact ite_r fun n0 => ite_r fun n1 => ite_r fun n2 => ite_r fun n3 => ite_r fun n4 => ite_r fun n5 => ite_r fun n6 => if_neg n5
theorem cW_2 {h : MH} {q w r : Nat} {t : QT} {v : Int32} : cW (p_i h w 6 v) q w r t = cW h q w r t := by
  refine mh_ext (fun b j => ?_) rfl
  simp only [cW, mi_pi]
  exact ite_r fun n0 => ite_r fun n1 => ite_r fun n2 => ite_r fun n3 => ite_r fun n4 => ite_r fun n5 => ite_r fun n6 => if_neg n4
theorem cW_3 {h : MH} {q w r : Nat} {t : QT} {v : Int32} : cW (p_i h r 4 v) q w r t = cW h q w r t := by
  refine mh_ext (fun b j => ?_) rfl
  simp only [cW, mi_pi]
  exact ite_r fun n0 => ite_r fun n1 => ite_r fun n2 => ite_r fun n3 => ite_r fun n4 => ite_r fun n5 => ite_r fun n6 => if_neg n3
theorem cW_4 {h : MH} {q w r : Nat} {t : QT} {v : Int32} : cW (p_i h r 5 v) q w r t = cW h q w r t := by
  refine mh_ext (fun b j => ?_) rfl
  simp only [cW, mi_pi]
  exact ite_r fun n0 => ite_r fun n1 => ite_r fun n2 => ite_r fun n3 => ite_r fun n4 => ite_r fun n5 => ite_r fun n6 => if_neg n2
theorem cW_5 {h : MH} {q w r : Nat} {t : QT} {v : Int32} : cW (p_i h r 6 v) q w r t = cW h q w r t := by
  refine mh_ext (fun b j => ?_) rfl
  simp only [cW, mi_pi]
  exact ite_r fun n0 => ite_r fun n1 => ite_r fun n2 => ite_r fun n3 => ite_r fun n4 => ite_r fun n5 => ite_r fun n6 => if_neg n1
theorem cW_6 {h : MH} {q w r : Nat} {t : QT} {v : Int32} : cW (p_i h q 3 v) q w r t = cW h q w r t := by
  refine mh_ext (fun b j => ?_) rfl
  simp only [cW, mi_pi]
  exact ite_r fun n0 => ite_r fun n1 => ite_r fun n2 => ite_r fun n3 => ite_r fun n4 => ite_r fun n5 => ite_r fun n6 => if_neg n0
theorem cW_cW {h : MH} {q w r : Nat} (t u : QT) : cW (cW h q w r t) q w r u = cW h q w r u := by
  rw [show cW h q w r t = p_i (p_i (p_i (p_i (p_i (p_i (p_i h w 4 t.1) w 5 t.2.1) w 6 t.2.2.1) r 4 t.2.2.2.1) r 5 t.2.2.2.2.1) r 6 t.2.2.2.2.2.1) q 3 t.2.2.2.2.2.2 from rfl, cW_6, cW_5, cW_4, cW_3, cW_2, cW_1, cW_0]
section
variable {h : MH} {q w r : Nat} {t : QT}
theorem i_cW_q2 : g_i (cW h q w r t) q 2 = g_i h q 2 := by simp only [cW, mi_pi, Nat.reduceEqDiff, and_false, if_false]
theorem i_cW_w1 : g_i (cW h q w r t) w 1 = g_i h w 1 := by simp only [cW, mi_pi, Nat.reduceEqDiff, and_false, if_false]
theorem i_cW_w2 : g_i (cW h q w r t) w 2 = g_i h w 2 := by simp only [cW, mi_pi, Nat.reduceEqDiff, and_false, if_false]
theorem i_cW_w3 (n4 : ¬ w = q) : g_i (cW h q w r t) w 3 = g_i h w 3 := by simp only [cW, mi_pi, Nat.reduceEqDiff, and_false, if_false, false_and, n4]
theorem i_cW_r1 : g_i (cW h q w r t) r 1 = g_i h r 1 := by simp only [cW, mi_pi, Nat.reduceEqDiff, and_false, if_false]
theorem i_cW_r2 : g_i (cW h q w r t) r 2 = g_i h r 2 := by simp only [cW, mi_pi, Nat.reduceEqDiff, and_false, if_false]
end
end

section
theorem c_X1_goAround {q w r : Nat} {sz : Int32} {h : MH} {Q : MR → MH → Prop} (q1 : g_c h q = 5) (q3 : g_r h q 0 = some w) (q4 : g_r h q 1 = some r) (w1 : g_c h w = 4) (v1 : g_c h r = 4) (q2 : g_z h ≤ q) (w2 : g_z h ≤ w) (v2 : g_z h ≤ r) (s1 : g_i h w 2 = sz) (s2 : g_i h r 2 = sz) (n1 : ¬ w = r) (n2 : ¬ r = w) (n3 : ¬ q = w) (n4 : ¬ w = q) (n5 : ¬ q = r) (n6 : ¬ r = q) : Ok 23 0 [.ref q] [] h 0 0 Q ↔ Q (.inl none) (cW h q w r (arF sz (cT h q w r))) := by
  by_cases b0 : g_i h w 4 = sz <;> by_cases b1 : g_i h q 3 = 0 <;> by_cases b2 : g_i h r 4 = sz <;> (simp only [o23_0, o23_1, o23_4, o23_7, o23_8, o23_11, o23_14, o23_17, o23_18, o23_21, o23_24, o23_25, o23_26, o23_29, o23_32, o23_33, o23_36, o23_39, o23_40, o23_43, o23_46, o23_47, o23_50, o23_53, o23_56, o23_57, o23_60, o23_63, o23_64, o23_65, o23_68, c_X3_rewind, mc_pi, mz_pi, mcs_0, Kn_0, mrf_some, true_and, and_true, not_true_eq_false, not_false_eq_true, false_implies, forall_const, and_self, Nat.zero_le, kz0, kz1, q1, q3, q4, w1, v1, q2, w2, v2, s1, s2, b0, b1, b2]; refine Iff.of_eq (congrArg (Q _) ?_); first | rfl | (refine cW_of (h := h) n1 n3 n5 n2 n4 n6 ?_ ?_ <;> simp only [cW_0, cW_2, cW_3, cW_5, cW_6, cT, mi_pi, n1, n2, n3, n4, n5, n6, b0, b1, b2, and_true, and_false, if_true, if_false, Nat.reduceEqDiff, arF]))

theorem c_settle_tail {q w r : Nat} {sz : Int32} {h : MH} {Q : MR → MH → Prop} (q1 : g_c h q = 5) (q3 : g_r h q 0 = some w) (q4 : g_r h q 1 = some r) (w1 : g_c h w = 4) (v1 : g_c h r = 4) (q2 : g_z h ≤ q) (w2 : g_z h ≤ w) (v2 : g_z h ≤ r) (s1 : g_i h w 2 = sz) (s2 : g_i h r 2 = sz) (n1 : ¬ w = r) (n2 : ¬ r = w) (n3 : ¬ q = w) (n4 : ¬ w = q) (n5 : ¬ q = r) (n6 : ¬ r = q) : Ok 22 11 [.ref q] [] h 0 0 Q ↔ Q (.inl none) (cW h q w r (enF sz (cT h q w r))) := by
  by_cases b0 : g_i h q 3 = 0 <;> (simp only [o22_11, o22_12, o22_15, o22_16, o22_19, o22_22, o22_23, o22_26, o22_29, o22_32, o22_33, o22_36, o22_39, o22_42, o22_43, o22_46, o22_47, o22_50, o22_53, o22_54, o22_57, o22_60, o22_61, o22_64, o22_67, o22_70, c_X3_setLimit, c_X1_oldest (w := w) (r := r), mc_pi, mi_pi, mr_pi, mz_pi, mcs_0, mcs_r, Kn_v, Kn_0, mrf_some, true_and, and_true, and_false, not_true_eq_false, not_false_eq_true, false_implies, forall_const, if_true, if_false, and_self, Nat.reduceEqDiff, Nat.reduceLeDiff, Nat.reduceAdd, Nat.zero_le, q1, q3, q4, w1, v1, w2, v2, s1, s2, n1, n5, b0, olF, cT]; refine Iff.of_eq (congrArg (Q _) ?_); first | rfl | (refine cW_of (h := h) n1 n3 n5 n2 n4 n6 ?_ ?_ <;> simp only [cW_0, cW_1, cW_2, cW_3, cW_4, cW_5, cT, mi_pi, n1, n2, n3, n5, b0, and_true, and_false, if_true, if_false, Nat.reduceEqDiff, enF, liP, liM]))

theorem c_X1_settle {q w r : Nat} {sz : Int32} {ring : Int32} {h : MH} {Q : MR → MH → Prop} (q1 : g_c h q = 5) (q3 : g_r h q 0 = some w) (q4 : g_r h q 1 = some r) (w1 : g_c h w = 4) (v1 : g_c h r = 4) (q2 : g_z h ≤ q) (w2 : g_z h ≤ w) (v2 : g_z h ≤ r) (s1 : g_i h w 2 = sz) (s2 : g_i h r 2 = sz) (s3 : g_i h q 2 = ring) (n1 : ¬ w = r) (n2 : ¬ r = w) (n3 : ¬ q = w) (n4 : ¬ w = q) (n5 : ¬ q = r) (n6 : ¬ r = q) : Ok 22 0 [.ref q] [] h 0 0 Q ↔ Q (.inl none) (cW h q w r (seF ring sz (cT h q w r))) := by
  by_cases b0 : ring = 0 <;> simp only [o22_0, o22_1, o22_4, o22_7, o22_8, c_X1_goAround (w := w) (r := r) (sz := sz), c_settle_tail (w := w) (r := r) (sz := sz), mcs_0, Kn_0, true_and, and_true, not_true_eq_false, not_false_eq_true, false_implies, forall_const, if_true, if_false, Nat.zero_le, c_cW, r_cW, z_cW, i_cW_w2, i_cW_r2, q1, q3, q4, w1, v1, q2, w2, v2, s1, s2, n1, n2, n3, n4, n5, n6, b0, s3, seF, cW_cT n1 n3 n5 n2 n4 n6, cW_cW]

def ciF (t : QT) : QT := (t.1 + 1, t.2)
def goF : QT → QT | (wp, wl, wm, rp, rl, rm, ar) => (wp, wl, wm, rp + 1, rl, rm, ar)
def mkF : QT → QT | (wp, wl, wm, rp, rl, _, ar) => (wp, wl, wm, rp, rl, rp, ar)
def bkF : QT → QT | (wp, wl, wm, rp, rl, rm, ar) => (wp, wl, wm, if rm = -1 then rp else rm, rl, rm, ar)
def lmF : QT → QT | (wp, wl, wm, rp, rl, _, ar) => (wp, wl, wm, rp, rl, -1, ar)
def clF (sz : Int32) : QT := (0, sz, -1, 0, 0, -1, 0)
theorem c_X1_comeIn {q w r rw cs n : Nat} {sz ring : Int32} {v : Int64} {h : MH} {Q : MR → MH → Prop} (q1 : g_c h q = 5) (q3 : g_r h q 0 = some w) (q4 : g_r h q 1 = some r) (w1 : g_c h w = 4) (v1 : g_c h r = 4) (q2 : g_z h ≤ q) (w2 : g_z h ≤ w) (v2 : g_z h ≤ r) (s1 : g_i h w 2 = sz) (s2 : g_i h r 2 = sz) (s3 : g_i h q 2 = ring) (r3 : g_c h cs = 102) (r4 : g_n h cs = n) (r1 : g_c h rw = 3) (r2 : g_r h rw 0 = some cs) (r5 : g_z h ≤ cs) (w3 : g_r h w 0 = some rw) (s0 : g_i h w 3 = 0) (e0 : ¬ g_i h w 5 - g_i h w 4 = 0) (i1 : ¬ g_i h w 4 < 0) (i2 : g_i h w 4 < sz) (hj : rdy n (g_i h w 1 + g_i h w 4)) (n1 : ¬ w = r) (n2 : ¬ r = w) (n3 : ¬ q = w) (n4 : ¬ w = q) (n5 : ¬ q = r) (n6 : ¬ r = q) : Ok 13 0 [.ref q, .long v, mk0] [] h 0 0 Q ↔ Q (.inl none) (cW (p_l h cs (g_i h w 1 + g_i h w 4).toNatClampNeg v) q w r (seF ring sz (ciF (cT h q w r)))) := by
  simp only [o13_0, o13_1, o13_4, o13_5, o13_8, o13_9, o13_10, o13_13, c_X3_writeNext (rw := rw) (cs := cs) (n := n), c_X1_settle (w := w) (r := r) (sz := sz) (ring := ring), mc_pi, mc_pl, mi_pi, mi_pl, mr_pi, mr_pl, mz_pi, mz_pl, mcs_0, Kn_v, Kn_0, mrf_some, true_and, and_true, and_false, not_false_eq_true, if_true, if_false, and_self, Nat.reduceEqDiff, Nat.zero_le, cW_0, q1, q3, q4, w1, v1, q2, w2, v2, s1, s2, s3, r3, r4, r1, r2, r5, w3, s0, e0, i1, i2, hj, n1, n2, n3, n4, n5, n6, cT, ciF, mi_pi, mi_pl, and_true, true_and, and_false, if_true, if_false]
  all_goals (try exact Iff.rfl)

theorem c_X1_goOut {q w r rw cs n : Nat} {sz ring : Int32} {h : MH} {Q : MR → MH → Prop} (q1 : g_c h q = 5) (q3 : g_r h q 0 = some w) (q4 : g_r h q 1 = some r) (w1 : g_c h w = 4) (v1 : g_c h r = 4) (q2 : g_z h ≤ q) (w2 : g_z h ≤ w) (v2 : g_z h ≤ r) (s1 : g_i h w 2 = sz) (s2 : g_i h r 2 = sz) (s3 : g_i h q 2 = ring) (r3 : g_c h cs = 102) (r4 : g_n h cs = n) (r1 : g_c h rw = 3) (r2 : g_r h rw 0 = some cs) (w3 : g_r h r 0 = some rw) (e0 : ¬ g_i h r 5 - g_i h r 4 = 0) (i1 : ¬ g_i h r 4 < 0) (i2 : g_i h r 4 < sz) (hj : rdy n (g_i h r 1 + g_i h r 4)) (n1 : ¬ w = r) (n2 : ¬ r = w) (n3 : ¬ q = w) (n4 : ¬ w = q) (n5 : ¬ q = r) (n6 : ¬ r = q) : Ok 14 0 [.ref q, mk0, mk0] [] h 0 0 Q ↔ Q (.inl (some (.long (g_l h cs (g_i h r 1 + g_i h r 4).toNatClampNeg)))) (cW h q w r (seF ring sz (goF (cT h q w r)))) := by
  simp only [o14_0, o14_1, o14_4, o14_7, o14_8, o14_9, o14_12, o14_13, c_X3_readNext (rw := rw) (cs := cs) (n := n), c_X1_settle (w := w) (r := r) (sz := sz) (ring := ring), mc_pi, mi_pi, mr_pi, mz_pi, mcs_0, Kn_v, Kn_0, mrf_some, true_and, and_true, and_false, not_false_eq_true, if_true, if_false, and_self, Nat.reduceEqDiff, Nat.zero_le, cW_3, q1, q3, q4, w1, v1, q2, w2, v2, s1, s2, s3, r3, r4, r1, r2, w3, e0, i1, i2, hj, n1, n2, n3, n4, n5, n6, cT, goF, mi_pi, and_true, true_and, and_false, if_true, if_false]
  all_goals (try exact Iff.rfl)

theorem c_X1_setMark {q w r : Nat} {sz ring : Int32} {h : MH} {Q : MR → MH → Prop} (q1 : g_c h q = 5) (q3 : g_r h q 0 = some w) (q4 : g_r h q 1 = some r) (w1 : g_c h w = 4) (v1 : g_c h r = 4) (q2 : g_z h ≤ q) (w2 : g_z h ≤ w) (v2 : g_z h ≤ r) (s1 : g_i h w 2 = sz) (s2 : g_i h r 2 = sz) (s3 : g_i h q 2 = ring) (n1 : ¬ w = r) (n2 : ¬ r = w) (n3 : ¬ q = w) (n4 : ¬ w = q) (n5 : ¬ q = r) (n6 : ¬ r = q) : Ok 15 0 [.ref q] [] h 0 0 Q ↔ Q (.inl none) (cW h q w r (seF ring sz (mkF (cT h q w r)))) := by
  simp only [o15_0, o15_1, o15_4, o15_7, o15_8, o15_11, c_X3_setMark, c_X1_settle (w := w) (r := r) (sz := sz) (ring := ring), mc_pi, mi_pi, mr_pi, mz_pi, mcs_0, Kn_0, mrf_some, true_and, and_true, and_false, not_false_eq_true, if_true, if_false, and_self, Nat.reduceEqDiff, Nat.zero_le, cW_5, q1, q3, q4, w1, v1, q2, w2, v2, s1, s2, s3, n1, n2, n3, n4, n5, n6, cT, mkF, mi_pi, and_true, true_and, and_false, if_true, if_false]
  all_goals (try exact Iff.rfl)

theorem c_X1_setBack {q w r : Nat} {sz ring : Int32} {h : MH} {Q : MR → MH → Prop} (q1 : g_c h q = 5) (q3 : g_r h q 0 = some w) (q4 : g_r h q 1 = some r) (w1 : g_c h w = 4) (v1 : g_c h r = 4) (q2 : g_z h ≤ q) (w2 : g_z h ≤ w) (v2 : g_z h ≤ r) (s1 : g_i h w 2 = sz) (s2 : g_i h r 2 = sz) (s3 : g_i h q 2 = ring) (n1 : ¬ w = r) (n2 : ¬ r = w) (n3 : ¬ q = w) (n4 : ¬ w = q) (n5 : ¬ q = r) (n6 : ¬ r = q) : Ok 16 0 [.ref q] [] h 0 0 Q ↔ Q (.inl none) (cW h q w r (seF ring sz (bkF (cT h q w r)))) := by
  simp only [o16_0, o16_1, o16_4, o16_7, o16_8, o16_11, c_X3_setBack, c_X1_settle (w := w) (r := r) (sz := sz) (ring := ring), mc_pi, mi_pi, mr_pi, mz_pi, mcs_0, Kn_0, mrf_some, true_and, and_true, and_false, not_false_eq_true, if_true, if_false, and_self, Nat.reduceEqDiff, Nat.zero_le, cW_3, q1, q3, q4, w1, v1, q2, w2, v2, s1, s2, s3, n1, n2, n3, n4, n5, n6, cT, bkF, mi_pi, and_true, true_and, and_false, if_true, if_false]
  all_goals (try exact Iff.rfl)

theorem c_X1_loseMark {q w r : Nat} {sz ring : Int32} {h : MH} {Q : MR → MH → Prop} (q1 : g_c h q = 5) (q3 : g_r h q 0 = some w) (q4 : g_r h q 1 = some r) (w1 : g_c h w = 4) (v1 : g_c h r = 4) (q2 : g_z h ≤ q) (w2 : g_z h ≤ w) (v2 : g_z h ≤ r) (s1 : g_i h w 2 = sz) (s2 : g_i h r 2 = sz) (s3 : g_i h q 2 = ring) (n1 : ¬ w = r) (n2 : ¬ r = w) (n3 : ¬ q = w) (n4 : ¬ w = q) (n5 : ¬ q = r) (n6 : ¬ r = q) : Ok 17 0 [.ref q] [] h 0 0 Q ↔ Q (.inl none) (cW h q w r (seF ring sz (lmF (cT h q w r)))) := by
  simp only [o17_0, o17_1, o17_4, o17_7, o17_8, o17_11, c_X3_loseMark, c_X1_settle (w := w) (r := r) (sz := sz) (ring := ring), mc_pi, mi_pi, mr_pi, mz_pi, mcs_0, Kn_0, mrf_some, true_and, and_true, and_false, not_false_eq_true, if_true, if_false, and_self, Nat.reduceEqDiff, Nat.zero_le, cW_5, q1, q3, q4, w1, v1, q2, w2, v2, s1, s2, s3, n1, n2, n3, n4, n5, n6, cT, lmF, mi_pi, and_true, true_and, and_false, if_true, if_false]
  all_goals (try exact Iff.rfl)

theorem c_X1_clear {q w r : Nat} {sz : Int32} {h : MH} {Q : MR → MH → Prop} (q1 : g_c h q = 5) (q3 : g_r h q 0 = some w) (q4 : g_r h q 1 = some r) (w1 : g_c h w = 4) (v1 : g_c h r = 4) (q2 : g_z h ≤ q) (w2 : g_z h ≤ w) (v2 : g_z h ≤ r) (s1 : g_i h w 2 = sz) (s2 : g_i h r 2 = sz) (n1 : ¬ w = r) (n2 : ¬ r = w) (n3 : ¬ q = w) (n4 : ¬ w = q) (n5 : ¬ q = r) (n6 : ¬ r = q) : Ok 6 0 [.ref q] [] h 0 0 Q ↔ Q (.inl none) (cW h q w r (clF sz)) := by
  (simp only [o6_0, o6_1, o6_4, o6_7, o6_8, o6_11, o6_14, o6_15, o6_18, o6_19, o6_22, o6_23, o6_24, o6_27, c_X3_clear, c_X3_setLimit, mc_pi, mi_pi, mr_pi, mz_pi, mcs_0, Kn_0, mrf_some, true_and, and_true, and_false, if_true, if_false, and_self, Nat.reduceEqDiff, Nat.zero_le, kz0, Int32.reduceLT, q1, q3, q4, w1, v1, q2, w2, v2, s1, s2, n2]; refine Iff.of_eq (congrArg (Q _) ?_); first | rfl | (refine cW_of (h := h) n1 n3 n5 n2 n4 n6 ?_ ?_ <;> simp only [cW_0, cW_1, cW_2, cW_3, cW_4, cW_5, cW_6, cT, mi_pi, n1, n2, n3, n4, n5, n6, and_true, and_false, if_true, if_false, Nat.reduceEqDiff, clF]))

theorem c_X1_lyingAt {q w r rw cs n : Nat} {x : Int32} {h : MH} {Q : MR → MH → Prop} (q1 : g_c h q = 5) (q3 : g_r h q 0 = some w) (q4 : g_r h q 1 = some r) (w1 : g_c h w = 4) (v1 : g_c h r = 4) (r3 : g_c h cs = 102) (r4 : g_n h cs = n) (r1 : g_c h rw = 3) (r2 : g_r h rw 0 = some cs) (w3 : g_r h r 0 = some rw) (i1 : ¬ ceF (cT h q w r) x < 0) (i2 : ceF (cT h q w r) x < g_i h r 2) (hj : rdy n (g_i h r 1 + ceF (cT h q w r) x)) : Ok 18 0 [.ref q, .int x] [] h 0 0 Q ↔ Q (.inl (some (.long (g_l h cs (g_i h r 1 + ceF (cT h q w r) x).toNatClampNeg)))) h := by
  simp only [o18_0, o18_1, o18_4, o18_5, o18_6, o18_9, o18_12, c_X1_cellAt (w := w) (r := r), c_X3_readAt (rw := rw) (cs := cs) (n := n), mcs_0, mcs_r, Kn_v, mrf_some, true_and, not_false_eq_true, Nat.reduceLeDiff, Nat.reduceAdd, Nat.zero_le, q1, q3, q4, w1, v1, r3, r4, r1, r2, w3, i1, i2, hj]

theorem c_X1_replace {q w r rw cs n : Nat} {x : Int32} {v : Int64} {h : MH} {Q : MR → MH → Prop} (q1 : g_c h q = 5) (q3 : g_r h q 0 = some w) (q4 : g_r h q 1 = some r) (w1 : g_c h w = 4) (v1 : g_c h r = 4) (r3 : g_c h cs = 102) (r4 : g_n h cs = n) (r1 : g_c h rw = 3) (r2 : g_r h rw 0 = some cs) (r5 : g_z h ≤ cs) (s0 : g_i h w 3 = 0) (w3 : g_r h w 0 = some rw) (i1 : ¬ ceF (cT h q w r) x < 0) (i2 : ceF (cT h q w r) x < g_i h w 2) (hj : rdy n (g_i h w 1 + ceF (cT h q w r) x)) : Ok 19 0 [.ref q, .int x, .long v, mk0] [] h 0 0 Q ↔ Q (.inl (some (.int (if g_l h cs (g_i h w 1 + ceF (cT h q w r) x).toNatClampNeg = v then 0 else 1)))) (p_l h cs (g_i h w 1 + ceF (cT h q w r) x).toNatClampNeg v) := by
  simp only [o19_0, o19_1, o19_4, o19_5, o19_6, o19_9, o19_10, o19_13, c_X1_cellAt (w := w) (r := r), c_X3_writeAt (rw := rw) (cs := cs) (n := n), mcs_0, mcs_r, Kn_v, mrf_some, true_and, not_false_eq_true, Nat.reduceLeDiff, Nat.reduceAdd, Nat.zero_le, q1, q3, q4, w1, v1, r3, r4, r1, r2, r5, s0, w3, i1, i2, hj, kzi2]
end

section
/-! CONTRACTS, the reference: panes, queues -/
theorem vb1 : vp_nar .boolean 1 = 1 := by decide
theorem vb0 : vp_nar .boolean 0 = 0 := by decide
theorem c_X7_rests {w : Nat} {h : MH} {Q : MR → MH → Prop} (w1 : g_c h w = 8) : Ok 151 0 [.ref w] [] h 0 0 Q ↔ Q (.inl (some (.int ((g_i h w 4) - (g_i h w 3))))) h := by
  simp only [o151_0, o151_1, o151_4, o151_5, o151_8, o151_9, true_and, w1]

theorem c_X7_rewound {w : Nat} {h : MH} {Q : MR → MH → Prop} (w1 : g_c h w = 8) (w2 : g_z h ≤ w) : Ok 154 0 [.ref w] [] h 0 0 Q ↔ Q (.inl none) (p_i (p_i h w 3 0) w 5 (-1)) := by
  simp only [o154_0, o154_1, o154_2, o154_5, o154_6, o154_7, o154_10, mc_pi, mz_pi, kok_0, true_and, and_self, w1, w2]

theorem c_X7_flipped {w : Nat} {h : MH} {Q : MR → MH → Prop} (w1 : g_c h w = 8) (w2 : g_z h ≤ w) : Ok 155 0 [.ref w] [] h 0 0 Q ↔ Q (.inl none) (p_i (p_i (p_i h w 4 (g_i h w 3)) w 3 0) w 5 (-1)) := by
  simp only [o155_0, o155_1, o155_2, o155_5, o155_8, o155_9, o155_12, c_X7_rewound, mc_pi, mz_pi, mcs_0, Kn_0, kok_0, true_and, and_self, Nat.zero_le, w1, w2]

theorem c_X7_cleared {w : Nat} {h : MH} {Q : MR → MH → Prop} (w1 : g_c h w = 8) (w2 : g_z h ≤ w) : Ok 156 0 [.ref w] [] h 0 0 Q ↔ Q (.inl none) (p_i (p_i (p_i h w 4 (g_i h w 1)) w 3 0) w 5 (-1)) := by
  simp only [o156_0, o156_1, o156_2, o156_5, o156_8, o156_9, o156_12, c_X7_rewound, mc_pi, mz_pi, mcs_0, Kn_0, kok_0, true_and, and_self, Nat.zero_le, w1, w2]

theorem c_X7_toPlace {w : Nat} {x : Int32} {h : MH} {Q : MR → MH → Prop} (w1 : g_c h w = 8) (w2 : g_z h ≤ w) : Ok 152 0 [.ref w, .int x] [] h 0 0 Q ↔ Q (.inl none) (p_i (p_i h w 3 x) w 5 (liM (g_i h w 5) x)) := by
  have e := p_i_self (p_i h w 3 x) w 5
  simp only [mi_pi, Nat.reduceEqDiff, and_false, if_false] at e
  by_cases b0 : x < g_i h w 5 <;> simp only [o152_0, o152_1, o152_2, o152_5, o152_6, o152_9, o152_10, o152_13, o152_14, o152_15, o152_18, mc_pi, mi_pi, mz_pi, kok_0, true_and, and_true, and_false, not_true_eq_false, not_false_eq_true, false_implies, forall_const, if_true, if_false, and_self, Nat.reduceEqDiff, lt_le, w1, w2, b0, e, lt_le, liM]

theorem c_X7_toLimit {w : Nat} {x : Int32} {h : MH} {Q : MR → MH → Prop} (w1 : g_c h w = 8) (w2 : g_z h ≤ w) : Ok 153 0 [.ref w, .int x] [] h 0 0 Q ↔ Q (.inl none) (p_i (p_i (p_i h w 4 x) w 3 (liP (g_i h w 3) x)) w 5 (liM (g_i h w 5) x)) := by
  have e := p_i_self (p_i h w 4 x) w 3
  have e2 := p_i_self (p_i (p_i h w 4 x) w 3 x) w 5
  have e3 := p_i_self (p_i h w 4 x) w 5
  simp only [mi_pi, Nat.reduceEqDiff, and_false, if_false] at e e2 e3
  by_cases b0 : x < g_i h w 3 <;> by_cases b1 : x < g_i h w 5 <;> simp only [o153_0, o153_1, o153_2, o153_5, o153_6, o153_9, o153_10, o153_13, o153_14, o153_15, o153_18, o153_19, o153_22, o153_23, o153_26, o153_27, o153_28, o153_31, mc_pi, mi_pi, mz_pi, kok_0, true_and, and_true, and_false, not_true_eq_false, not_false_eq_true, false_implies, forall_const, if_true, if_false, and_self, Nat.reduceEqDiff, lt_le, w1, w2, b0, b1, e, e2, e3, lt_le, liM, liP]

theorem c_X7_isRight {w : Nat} {h : MH} {Q : MR → MH → Prop} (w1 : g_c h w = 8) : Ok 157 0 [.ref w] [] h 0 0 Q ↔ Q (.inl (some (.int (if -1 ≤ (g_i h w 5) ∧ (g_i h w 5) ≤ (g_i h w 3) ∧ (g_i h w 3) ≤ (g_i h w 4) ∧ (g_i h w 4) ≤ (g_i h w 1) then 1 else 0)))) h := by
  by_cases b0 : g_i h w 5 < -1 <;> by_cases b1 : g_i h w 3 < g_i h w 5 <;> by_cases b2 : g_i h w 4 < g_i h w 3 <;> by_cases b3 : g_i h w 1 < g_i h w 4 <;> simp only [o157_0, o157_1, o157_4, o157_5, o157_8, o157_9, o157_12, o157_13, o157_16, o157_19, o157_20, o157_23, o157_24, o157_27, o157_30, o157_31, o157_34, o157_35, o157_38, o157_41, o157_42, o157_45, o157_46, true_and, and_true, and_false, not_true_eq_false, not_false_eq_true, false_implies, forall_const, if_true, if_false, and_self, kz0, kz1, lt_le, w1, b0, b1, b2, b3, lt_le]

theorem c_X7_init {w : Nat} {f n s l : Int32} {h : MH} {Q : MR → MH → Prop} (w1 : g_c h w = 8) (w2 : g_z h ≤ w) (s0 : kok 3 s) : Ok 150 0 [.ref w, .int f, .int n, .int s, .int l] [] h 0 0 Q ↔ Q (.inl none) (p_i (p_i (p_i (p_i (p_i h w 5 (-1)) w 0 f) w 1 n) w 2 s) w 4 l) := by
  simp only [o150_0, o150_1, o150_4, o150_5, o150_6, o150_9, o150_10, o150_11, o150_14, o150_15, o150_16, o150_19, o150_20, o150_21, o150_24, o150_25, o150_27, o150_30, mc_pi, mz_pi, mcs_0, kok_0, true_and, and_self, Nat.zero_le, w1, w2, s0, w1, w2]

def mT (h : MH) (a k w r : Nat) : QT := (g_i h w 3, g_i h w 4, g_i h w 5, g_i h r 3, g_i h r 4, g_i h r 5, g_i h a k)
def mW (h : MH) (a k w r : Nat) (t : QT) : MH := p_i (p_i (p_i (p_i (p_i (p_i (p_i h w 3 t.1) w 4 t.2.1) w 5 t.2.2.1) r 3 t.2.2.2.1) r 4 t.2.2.2.2.1) r 5 t.2.2.2.2.2.1) a k t.2.2.2.2.2.2
theorem mW_mT {h : MH} {a k w r : Nat} (n1 : ¬ w = r) (n3 : ¬ a = w) (n5 : ¬ a = r) (n2 : ¬ r = w) (n4 : ¬ w = a) (n6 : ¬ r = a) (t : QT) : mT (mW h a k w r t) a k w r = t := by
  obtain ⟨a1, a2, a3, a4, a5, a6, a7⟩ := t
  simp only [mT, mW, mi_pi, n1, n2, n3, n4, n5, n6, and_true, and_false, false_and, if_true, if_false, Nat.reduceEqDiff]
theorem mW_self {h : MH} {a k w r : Nat} : mW h a k w r (mT h a k w r) = h := by
  refine mh_ext (fun b j => ?_) rfl
  simp only [mT, mW, mi_pi]
  exact ite_s gi_of fun _ => ite_s gi_of fun _ => ite_s gi_of fun _ => ite_s gi_of fun _ => ite_s gi_of fun _ => ite_s gi_of fun _ => ite_s gi_of fun _ => rfl
theorem mW_of {h h' : MH} {a k w r : Nat} {t : QT} (n1 : ¬ w = r) (n3 : ¬ a = w) (n5 : ¬ a = r) (n2 : ¬ r = w) (n4 : ¬ w = a) (n6 : ¬ r = a) (e : mT h' a k w r = t) (e1 : mW h' a k w r t = mW h a k w r t) : h' = mW h a k w r t := by
  rw [← e1, ← e, mW_self]
section
variable {h : MH} {a k w r : Nat} {t : QT} (b j : Nat)
theorem c_mW : g_c (mW h a k w r t) b = g_c h b := id rfl
theorem n_mW : g_n (mW h a k w r t) b = g_n h b := id rfl
theorem r_mW : g_r (mW h a k w r t) b j = g_r h b j := id rfl
theorem l_mW : g_l (mW h a k w r t) b j = g_l h b j := id rfl
theorem z_mW : g_z (mW h a k w r t) = g_z h := id rfl
end
theorem mW_0 {h : MH} {a k w r : Nat} {t : QT} {v : Int32} : mW (p_i h w 3 v) a k w r t = mW h a k w r t := by
  refine mh_ext (fun b j => ?_) rfl
  simp only [mW, mi_pi]
  exact ite_r fun n0 => ite_r fun n1 => ite_r fun n2 => ite_r fun n3 => ite_r fun n4 => ite_r fun n5 => ite_r fun n6 => if_neg n6
theorem mW_1 {h : MH} {a k w r : Nat} {t : QT} {v : Int32} : mW (p_i h w 4 v) a k w r t = mW h a k w r t := by
  refine mh_ext (fun b j => ?_) rfl
  simp only [mW, mi_pi]
  exact ite_r fun n0 => ite_r fun n1 => ite_r fun n2 => ite_r fun n3 => ite_r fun n4 => ite_r fun n5 => ite_r fun n6 => if_neg n5
theorem mW_2 {h : MH} {a k w r : Nat} {t : QT} {v : Int32} : mW (p_i h w 5 v) a k w r t = mW h a k w r t := by
  refine mh_ext (fun b j => ?_) rfl
  simp only [mW, mi_pi]
  exact ite_r fun n0 => ite_r fun n1 => ite_r fun n2 => ite_r fun n3 => ite_r fun n4 => ite_r fun n5 => ite_r fun n6 => if_neg n4
theorem mW_3 {h : MH} {a k w r : Nat} {t : QT} {v : Int32} : mW (p_i h r 3 v) a k w r t = mW h a k w r t := by
  refine mh_ext (fun b j => ?_) rfl
  simp only [mW, mi_pi]
  exact ite_r fun n0 => ite_r fun n1 => ite_r fun n2 => ite_r fun n3 => ite_r fun n4 => ite_r fun n5 => ite_r fun n6 => if_neg n3
theorem mW_4 {h : MH} {a k w r : Nat} {t : QT} {v : Int32} : mW (p_i h r 4 v) a k w r t = mW h a k w r t := by
  refine mh_ext (fun b j => ?_) rfl
  simp only [mW, mi_pi]
  exact ite_r fun n0 => ite_r fun n1 => ite_r fun n2 => ite_r fun n3 => ite_r fun n4 => ite_r fun n5 => ite_r fun n6 => if_neg n2
theorem mW_5 {h : MH} {a k w r : Nat} {t : QT} {v : Int32} : mW (p_i h r 5 v) a k w r t = mW h a k w r t := by
  refine mh_ext (fun b j => ?_) rfl
  simp only [mW, mi_pi]
  exact ite_r fun n0 => ite_r fun n1 => ite_r fun n2 => ite_r fun n3 => ite_r fun n4 => ite_r fun n5 => ite_r fun n6 => if_neg n1
theorem mW_6 {h : MH} {a k w r : Nat} {t : QT} {v : Int32} : mW (p_i h a k v) a k w r t = mW h a k w r t := by
  refine mh_ext (fun b j => ?_) rfl
  simp only [mW, mi_pi]
  exact ite_r fun n0 => ite_r fun n1 => ite_r fun n2 => ite_r fun n3 => ite_r fun n4 => ite_r fun n5 => ite_r fun n6 => if_neg n0
theorem mW_mW {h : MH} {a k w r : Nat} (t u : QT) : mW (mW h a k w r t) a k w r u = mW h a k w r u := by
  rw [show mW h a k w r t = p_i (p_i (p_i (p_i (p_i (p_i (p_i h w 3 t.1) w 4 t.2.1) w 5 t.2.2.1) r 3 t.2.2.2.1) r 4 t.2.2.2.2.1) r 5 t.2.2.2.2.2.1) a k t.2.2.2.2.2.2 from rfl, mW_6, mW_5, mW_4, mW_3, mW_2, mW_1, mW_0]
section
variable {h : MH} {a k w r : Nat} {t : QT} (n4 : ¬ w = a) (n6 : ¬ r = a)
theorem i_mW_w0 (n0 : ¬ w = a) : g_i (mW h a k w r t) w 0 = g_i h w 0 := by simp only [mW, mi_pi, n0, Nat.reduceEqDiff, and_false, false_and, if_false]
theorem i_mW_w1 (n0 : ¬ w = a) : g_i (mW h a k w r t) w 1 = g_i h w 1 := by simp only [mW, mi_pi, n0, Nat.reduceEqDiff, and_false, false_and, if_false]
theorem i_mW_r0 (n0 : ¬ r = a) : g_i (mW h a k w r t) r 0 = g_i h r 0 := by simp only [mW, mi_pi, n0, Nat.reduceEqDiff, and_false, false_and, if_false]
theorem i_mW_r1 (n0 : ¬ r = a) : g_i (mW h a k w r t) r 1 = g_i h r 1 := by simp only [mW, mi_pi, n0, Nat.reduceEqDiff, and_false, false_and, if_false]
end
end

section
/-- the third queue never goes around -/
def arok (i x : Int32) : Prop := ¬ i < 2 → x = 0
theorem c_X8_oldest {m x2 x3 a w r : Nat} {i : Int32} {h : MH} {Q : MR → MH → Prop} (m1 : g_c h m = 9) (a1 : g_r h m 2 = some x2) (a2 : g_c h x2 = 106) (a3 : g_n h x2 = 3) (a4 : g_r h m 3 = some x3) (a5 : g_c h x3 = 106) (a6 : g_n h x3 = 3) (a7 : g_r h m 4 = some a) (a8 : g_c h a = 105) (a9 : g_n h a = 3) (hv : vp_in i 3) (e1 : g_r h x2 i.toNatClampNeg = some w) (e2 : g_r h x3 i.toNatClampNeg = some r) (w1 : g_c h w = 8) (v1 : g_c h r = 8) : Ok 181 0 [.ref m, .int i] [] h 0 0 Q ↔ Q (.inl (some (.int (olF (mT h a i.toNatClampNeg w r))))) h := by
  by_cases b0 : g_i h r 5 < 0 <;> simp only [o181_0, o181_1, o181_4, o181_5, o181_6, o181_9, o181_12, o181_13, o181_16, o181_17, o181_18, o181_21, o181_24, o181_25, o181_28, o181_29, o181_30, o181_33, mrf_some, true_and, and_true, not_true_eq_false, not_false_eq_true, false_implies, forall_const, if_true, if_false, and_self, m1, a4, a5, a6, hv, e2, v1, b0, olF, mT]

theorem c_X8_liesOf {m x2 x3 a w r : Nat} {i : Int32} {h : MH} {Q : MR → MH → Prop} (m1 : g_c h m = 9) (a1 : g_r h m 2 = some x2) (a2 : g_c h x2 = 106) (a3 : g_n h x2 = 3) (a4 : g_r h m 3 = some x3) (a5 : g_c h x3 = 106) (a6 : g_n h x3 = 3) (a7 : g_r h m 4 = some a) (a8 : g_c h a = 105) (a9 : g_n h a = 3) (hv : vp_in i 3) (e1 : g_r h x2 i.toNatClampNeg = some w) (e2 : g_r h x3 i.toNatClampNeg = some r) (w1 : g_c h w = 8) (v1 : g_c h r = 8) : Ok 185 0 [.ref m, .int i] [] h 0 0 Q ↔ Q (.inl (some (.int (lyF (mT h a i.toNatClampNeg w r))))) h := by
  by_cases b0 : g_i h a i.toNatClampNeg = 0 <;> simp only [o185_0, o185_1, o185_4, o185_5, o185_6, o185_9, o185_10, o185_13, o185_14, o185_15, o185_18, o185_19, o185_22, o185_23, o185_24, o185_27, o185_30, o185_31, o185_32, c_X7_rests, mcs_0, Kn_v, mrf_some, true_and, and_true, or_true, not_true_eq_false, not_false_eq_true, false_implies, forall_const, if_true, if_false, and_self, Nat.reduceEqDiff, Nat.zero_le, m1, a1, a2, a3, a4, a5, a6, a7, a8, a9, hv, e1, e2, w1, v1, b0, lyF, mT, or_true]

theorem c_X8_cellOf {m x2 x3 a w r : Nat} {i x : Int32} {h : MH} {Q : MR → MH → Prop} (m1 : g_c h m = 9) (a1 : g_r h m 2 = some x2) (a2 : g_c h x2 = 106) (a3 : g_n h x2 = 3) (a4 : g_r h m 3 = some x3) (a5 : g_c h x3 = 106) (a6 : g_n h x3 = 3) (a7 : g_r h m 4 = some a) (a8 : g_c h a = 105) (a9 : g_n h a = 3) (hv : vp_in i 3) (e1 : g_r h x2 i.toNatClampNeg = some w) (e2 : g_r h x3 i.toNatClampNeg = some r) (w1 : g_c h w = 8) (v1 : g_c h r = 8) : Ok 186 0 [.ref m, .int i, .int x, mk0] [] h 0 0 Q ↔ Q (.inl (some (.int (g_i h r 0 + ceF (mT h a i.toNatClampNeg w r) x)))) h := by
  by_cases b0 : x < g_i h r 4 - g_i h r 3 <;> simp only [o186_0, o186_1, o186_4, o186_5, o186_6, o186_7, o186_8, o186_11, o186_12, o186_13, o186_16, o186_19, o186_20, o186_23, o186_24, o186_25, o186_28, o186_29, o186_30, o186_33, o186_34, o186_35, c_X7_rests, mcs_0, mcs_i, Kn_v, mrf_some, true_and, and_true, not_true_eq_false, not_false_eq_true, false_implies, forall_const, if_true, if_false, and_self, Nat.reduceLeDiff, Nat.reduceAdd, lt_le, m1, a4, a5, a6, hv, e2, v1, b0, ceF, mT]

theorem c_X8_roomOf {m x2 x3 a w r : Nat} {i : Int32} {h : MH} {Q : MR → MH → Prop} (m1 : g_c h m = 9) (a1 : g_r h m 2 = some x2) (a2 : g_c h x2 = 106) (a3 : g_n h x2 = 3) (a4 : g_r h m 3 = some x3) (a5 : g_c h x3 = 106) (a6 : g_n h x3 = 3) (a7 : g_r h m 4 = some a) (a8 : g_c h a = 105) (a9 : g_n h a = 3) (hv : vp_in i 3) (e1 : g_r h x2 i.toNatClampNeg = some w) (e2 : g_r h x3 i.toNatClampNeg = some r) (w1 : g_c h w = 8) (v1 : g_c h r = 8) : Ok 199 0 [.ref m, .int i] [] h 0 0 Q ↔ Q (.inl (some (.int (frF (if i < 2 then 1 else 0) (mT h a i.toNatClampNeg w r))))) h := by
  by_cases b0 : i < 2 <;> by_cases b1 : g_i h a i.toNatClampNeg = 0 <;> simp only [o199_0, o199_1, o199_4, o199_5, o199_6, o199_9, o199_10, o199_11, o199_14, o199_15, o199_18, o199_19, o199_20, o199_23, o199_24, o199_25, o199_28, o199_31, o199_32, o199_33, c_X7_rests, c_X8_oldest (x2 := x2) (x3 := x3) (a := a) (w := w) (r := r), mcs_0, mcs_i, Kn_v, mrf_some, true_and, and_true, or_true, not_true_eq_false, not_false_eq_true, false_implies, forall_const, if_true, if_false, and_self, Nat.reduceEqDiff, Nat.reduceLeDiff, Nat.reduceAdd, Nat.zero_le, i10, lt_le, m1, a1, a2, a3, a4, a5, a6, a7, a8, a9, hv, e1, e2, w1, v1, b0, b1, frF, olF, mT, i10, or_true]

theorem c_msettle_tail {m x2 x3 a w r : Nat} {i sz : Int32} {h : MH} {Q : MR → MH → Prop} (m1 : g_c h m = 9) (a1 : g_r h m 2 = some x2) (a2 : g_c h x2 = 106) (a3 : g_n h x2 = 3) (a4 : g_r h m 3 = some x3) (a5 : g_c h x3 = 106) (a6 : g_n h x3 = 3) (a7 : g_r h m 4 = some a) (a8 : g_c h a = 105) (a9 : g_n h a = 3) (hv : vp_in i 3) (e1 : g_r h x2 i.toNatClampNeg = some w) (e2 : g_r h x3 i.toNatClampNeg = some r) (w1 : g_c h w = 8) (v1 : g_c h r = 8) (az : g_z h ≤ a) (wz : g_z h ≤ w) (vz : g_z h ≤ r) (s1 : g_i h w 1 = sz) (s2 : g_i h r 1 = sz) (n1 : ¬ w = r) (n2 : ¬ r = w) (n3 : ¬ a = w) (n4 : ¬ w = a) (n5 : ¬ a = r) (n6 : ¬ r = a) : Ok 182 75 [.ref m, .int i, .ref w, .ref r] [] h 0 0 Q ↔ Q (.inl none) (mW h a i.toNatClampNeg w r (enF sz (mT h a i.toNatClampNeg w r))) := by
  by_cases b0 : g_i h a i.toNatClampNeg = 0 <;> (simp only [o182_75, o182_76, o182_77, o182_80, o182_81, o182_82, o182_85, o182_86, o182_89, o182_92, o182_93, o182_96, o182_99, o182_100, o182_101, o182_104, o182_105, o182_106, o182_109, o182_110, o182_111, o182_114, o182_117, o182_118, o182_121, o182_124, c_X7_toLimit, c_X8_oldest (x2 := x2) (x3 := x3) (a := a) (w := w) (r := r), mc_pi, mn_pi, mi_pi, mr_pi, mz_pi, mcs_0, mcs_r, Kn_v, Kn_0, mrf_some, true_and, and_true, false_and, and_false, or_true, not_true_eq_false, not_false_eq_true, false_implies, forall_const, if_true, if_false, and_self, Nat.reduceEqDiff, Nat.reduceLeDiff, Nat.reduceAdd, Nat.zero_le, m1, a1, a2, a3, a4, a5, a6, a7, a8, a9, hv, e1, e2, w1, v1, wz, vz, s1, s2, n1, n5, b0, olF, mT, or_true]; refine Iff.of_eq (congrArg (Q _) ?_); refine mW_of (h := h) n1 n3 n5 n2 n4 n6 ?_ ?_ <;> simp only [mW_0, mW_1, mW_2, mW_3, mW_4, mW_5, mT, mi_pi, and_true, and_false, false_and, if_true, if_false, Nat.reduceEqDiff, n1, n2, n3, n5, b0, enF, liP, liM] <;> (try rfl))

theorem c_X8_settle {m x2 x3 a w r : Nat} {i sz : Int32} {h : MH} {Q : MR → MH → Prop} (m1 : g_c h m = 9) (a1 : g_r h m 2 = some x2) (a2 : g_c h x2 = 106) (a3 : g_n h x2 = 3) (a4 : g_r h m 3 = some x3) (a5 : g_c h x3 = 106) (a6 : g_n h x3 = 3) (a7 : g_r h m 4 = some a) (a8 : g_c h a = 105) (a9 : g_n h a = 3) (hv : vp_in i 3) (e1 : g_r h x2 i.toNatClampNeg = some w) (e2 : g_r h x3 i.toNatClampNeg = some r) (w1 : g_c h w = 8) (v1 : g_c h r = 8) (az : g_z h ≤ a) (wz : g_z h ≤ w) (vz : g_z h ≤ r) (s1 : g_i h w 1 = sz) (s2 : g_i h r 1 = sz) (n1 : ¬ w = r) (n2 : ¬ r = w) (n3 : ¬ a = w) (n4 : ¬ w = a) (n5 : ¬ a = r) (n6 : ¬ r = a) (ha : arok i (g_i h a i.toNatClampNeg)) : Ok 182 0 [.ref m, .int i, mk0, mk0] [] h 0 0 Q ↔ Q (.inl none) (mW h a i.toNatClampNeg w r (seF (if i < 2 then 1 else 0) sz (mT h a i.toNatClampNeg w r))) := by
  by_cases b0 : ¬ i < 2
  · have b1 := ha b0
    have b2 : True := trivial
    have b3 : True := trivial
    simp only [o182_0, o182_1, o182_4, o182_5, o182_6, o182_7, o182_8, o182_11, o182_12, o182_13, o182_14, o182_15, o182_16, o182_19, o182_20, o182_23, o182_24, o182_27, o182_30, o182_31, o182_34, o182_35, o182_38, o182_39, o182_40, o182_41, o182_44, o182_45, o182_48, o182_49, o182_50, o182_53, o182_54, o182_57, o182_58, o182_61, o182_64, o182_65, o182_68, o182_69, o182_72, o182_73, o182_74, c_X7_rewound, c_msettle_tail (x2 := x2) (x3 := x3) (a := a) (w := w) (r := r) (sz := sz), mc_pi, mn_pi, mi_pi, mr_pi, mz_pi, mcs_0, Kn_0, mrf_some, true_and, and_true, false_and, and_false, or_true, not_true_eq_false, not_false_eq_true, false_implies, forall_const, if_false, and_self, Nat.reduceEqDiff, Nat.zero_le, lt_le, vb0, vb1, m1, a1, a2, a3, a4, a5, a6, a7, a8, a9, hv, e1, e2, w1, v1, az, wz, vz, s1, s2, n1, n2, n3, n4, n5, n6, b0, b1, or_true]
    simp only [seF, if_true]
  · replace b0 := Classical.not_not.mp b0
    by_cases b1 : g_i h w 3 = sz <;> by_cases b2 : g_i h a i.toNatClampNeg = 0 <;> by_cases b3 : g_i h r 3 = sz <;> (simp only [o182_0, o182_1, o182_4, o182_5, o182_6, o182_7, o182_8, o182_11, o182_12, o182_13, o182_14, o182_15, o182_16, o182_19, o182_20, o182_23, o182_24, o182_27, o182_30, o182_31, o182_34, o182_35, o182_38, o182_39, o182_40, o182_41, o182_44, o182_45, o182_48, o182_49, o182_50, o182_53, o182_54, o182_57, o182_58, o182_61, o182_64, o182_65, o182_68, o182_69, o182_72, o182_73, o182_74, c_X7_rewound, c_msettle_tail (x2 := x2) (x3 := x3) (a := a) (w := w) (r := r) (sz := sz), mc_pi, mn_pi, mi_pi, mr_pi, mz_pi, mcs_0, Kn_0, mrf_some, true_and, and_true, false_and, and_false, or_true, not_true_eq_false, not_false_eq_true, false_implies, forall_const, if_true, if_false, and_self, Nat.reduceEqDiff, Nat.zero_le, lt_le, vb0, vb1, m1, a1, a2, a3, a4, a5, a6, a7, a8, a9, hv, e1, e2, w1, v1, az, wz, vz, s1, s2, n1, n2, n3, n4, n5, n6, b0, b1, b2, b3, or_true]; refine Iff.of_eq (congrArg (Q _) ?_); simp only [seF, arF, mT, mi_pi, i10, and_true, and_false, false_and, if_true, if_false, Nat.reduceEqDiff, n1, n2, n3, n4, n5, n6, b1, b2, b3, mW_0, mW_2, mW_3, mW_5, mW_6])

theorem c_X8_comeIn {m x2 x3 a w r lr : Nat} {i sz : Int32} {v : Int64} {h : MH} {Q : MR → MH → Prop} (m1 : g_c h m = 9) (a1 : g_r h m 2 = some x2) (a2 : g_c h x2 = 106) (a3 : g_n h x2 = 3) (a4 : g_r h m 3 = some x3) (a5 : g_c h x3 = 106) (a6 : g_n h x3 = 3) (a7 : g_r h m 4 = some a) (a8 : g_c h a = 105) (a9 : g_n h a = 3) (hv : vp_in i 3) (e1 : g_r h x2 i.toNatClampNeg = some w) (e2 : g_r h x3 i.toNatClampNeg = some r) (w1 : g_c h w = 8) (v1 : g_c h r = 8) (az : g_z h ≤ a) (wz : g_z h ≤ w) (vz : g_z h ≤ r) (s1 : g_i h w 1 = sz) (s2 : g_i h r 1 = sz) (n1 : ¬ w = r) (n2 : ¬ r = w) (n3 : ¬ a = w) (n4 : ¬ w = a) (n5 : ¬ a = r) (n6 : ¬ r = a) (g1 : g_r h m 0 = some lr) (g2 : g_c h lr = 102) (g3 : g_n h lr = 16) (g4 : g_z h ≤ lr) (hj : vp_in (g_i h w 0 + g_i h w 3) 16) (ha : arok i (g_i h a i.toNatClampNeg)) : Ok 183 0 [.ref m, .int i, .long v, mk0] [] h 0 0 Q ↔ Q (.inl none) (mW (p_l h lr (g_i h w 0 + g_i h w 3).toNatClampNeg v) a i.toNatClampNeg w r (seF (if i < 2 then 1 else 0) sz (ciF (mT h a i.toNatClampNeg w r)))) := by
  simp only [o183_0, o183_1, o183_4, o183_5, o183_8, o183_9, o183_10, o183_13, o183_14, o183_17, o183_18, o183_19, o183_22, o183_23, o183_24, o183_25, o183_26, o183_29, o183_30, o183_31, o183_32, o183_35, o183_36, o183_37, o183_40, o183_41, o183_42, o183_45, c_X8_settle (x2 := x2) (x3 := x3) (a := a) (w := w) (r := r) (sz := sz), mc_pi, mc_pl, mn_pi, mn_pl, mi_pi, mi_pl, mr_pi, mr_pl, mz_pi, mz_pl, mcs_0, Kn_0, mrf_some, kok_0, true_and, and_true, false_and, and_false, not_false_eq_true, if_true, if_false, and_self, Nat.reduceEqDiff, Nat.zero_le, m1, a1, a2, a3, a4, a5, a6, a7, a8, a9, hv, e1, e2, w1, v1, az, wz, vz, s1, s2, n1, n2, n3, n4, n5, n6, g1, g2, g3, g4, hj, ha, mT, ciF, mi_pi, mi_pl, mW_0]

theorem c_X8_goOut {m x2 x3 a w r lr : Nat} {i sz : Int32} {h : MH} {Q : MR → MH → Prop} (m1 : g_c h m = 9) (a1 : g_r h m 2 = some x2) (a2 : g_c h x2 = 106) (a3 : g_n h x2 = 3) (a4 : g_r h m 3 = some x3) (a5 : g_c h x3 = 106) (a6 : g_n h x3 = 3) (a7 : g_r h m 4 = some a) (a8 : g_c h a = 105) (a9 : g_n h a = 3) (hv : vp_in i 3) (e1 : g_r h x2 i.toNatClampNeg = some w) (e2 : g_r h x3 i.toNatClampNeg = some r) (w1 : g_c h w = 8) (v1 : g_c h r = 8) (az : g_z h ≤ a) (wz : g_z h ≤ w) (vz : g_z h ≤ r) (s1 : g_i h w 1 = sz) (s2 : g_i h r 1 = sz) (n1 : ¬ w = r) (n2 : ¬ r = w) (n3 : ¬ a = w) (n4 : ¬ w = a) (n5 : ¬ a = r) (n6 : ¬ r = a) (g1 : g_r h m 0 = some lr) (g2 : g_c h lr = 102) (g3 : g_n h lr = 16) (hj : vp_in (g_i h r 0 + g_i h r 3) 16) (ha : arok i (g_i h a i.toNatClampNeg)) : Ok 184 0 [.ref m, .int i, mk0, mk0] [] h 0 0 Q ↔ Q (.inl (some (.long (g_l h lr (g_i h r 0 + g_i h r 3).toNatClampNeg)))) (mW h a i.toNatClampNeg w r (seF (if i < 2 then 1 else 0) sz (goF (mT h a i.toNatClampNeg w r)))) := by
  simp only [o184_0, o184_1, o184_4, o184_5, o184_8, o184_9, o184_10, o184_13, o184_14, o184_17, o184_18, o184_19, o184_22, o184_23, o184_24, o184_25, o184_26, o184_29, o184_30, o184_31, o184_32, o184_35, o184_36, o184_37, o184_40, o184_41, o184_42, o184_45, o184_46, c_X8_settle (x2 := x2) (x3 := x3) (a := a) (w := w) (r := r) (sz := sz), mc_pi, mn_pi, mi_pi, mr_pi, mz_pi, mcs_0, Kn_0, mrf_some, kok_0, true_and, and_true, false_and, and_false, not_false_eq_true, if_true, if_false, and_self, Nat.reduceEqDiff, Nat.zero_le, m1, a1, a2, a3, a4, a5, a6, a7, a8, a9, hv, e1, e2, w1, v1, az, wz, vz, s1, s2, n1, n2, n3, n4, n5, n6, g1, g2, g3, hj, ha, mT, goF, mi_pi, mW_3]

theorem c_X8_isThrown {m : Nat} {x y z : Int32} {h : MH} {Q : MR → MH → Prop} (m1 : g_c h m = 9) (m2 : g_z h ≤ m) : Ok 161 0 [.ref m, .int x, .int y, .int z] [] h 0 0 Q ↔ Q (.inl (some (.int (if x = 0 ∧ y = 0 ∧ z = 0 then 0 else 1)))) (p_i h m 9 (if x = 0 then (if y = 0 then (if z = 0 then 0 else 3) else 2) else 1)) := by
  by_cases b0 : x = 0 <;> by_cases b1 : y = 0 <;> by_cases b2 : z = 0 <;> simp only [o161_0, o161_1, o161_2, o161_5, o161_6, o161_9, o161_10, o161_13, o161_14, o161_17, o161_18, o161_21, o161_22, o161_25, o161_26, o161_29, o161_30, o161_33, o161_36, o161_37, o161_40, o161_41, mc_pi, mi_pi, kok_0, true_and, and_true, and_false, not_true_eq_false, not_false_eq_true, false_implies, forall_const, if_true, if_false, and_self, kz0, kz1, lt_le, Int32.reduceLT, m1, m2, b0, b1, b2]

theorem c_X8_isThrown_ {m : Nat} {x y : Int32} {h : MH} {Q : MR → MH → Prop} (m1 : g_c h m = 9) (m2 : g_z h ≤ m) : Ok 162 0 [.ref m, .int x, .int y] [] h 0 0 Q ↔ Q (.inl (some (.int (if x = 0 ∧ y = 0 then 0 else 1)))) (p_i h m 9 (if x = 0 then (if y = 0 then 0 else 2) else 1)) := by
  simp only [o162_0, o162_1, o162_2, o162_3, o162_4, o162_7, c_X8_isThrown, mcs_0, Kn_v, true_and, and_true, if_true, Nat.zero_le, m1, m2, kzi2]

theorem c_X8_isThrown__ {m : Nat} {x : Int32} {h : MH} {Q : MR → MH → Prop} (m1 : g_c h m = 9) (m2 : g_z h ≤ m) : Ok 163 0 [.ref m, .int x] [] h 0 0 Q ↔ Q (.inl (some (.int (if x = 0 then 0 else 1)))) (p_i h m 9 (if x = 0 then 0 else 1)) := by
  simp only [o163_0, o163_1, o163_2, o163_3, o163_4, o163_7, c_X8_isThrown, mcs_0, Kn_v, true_and, and_true, if_true, and_self, Nat.zero_le, m1, m2, kzi2]

theorem c_X8_isSlot {x : Int32} {h : MH} {Q : MR → MH → Prop}  : Ok 166 0 [.int x] [] h 0 0 Q ↔ Q (.inl (some (.int (if (¬ x < 0 ∧ x < 6) then 1 else 0)))) h := by
  by_cases b0 : x < 0 <;> by_cases b1 : x < 6 <;> simp only [o166_0, o166_1, o166_4, o166_5, o166_7, o166_10, o166_11, o166_14, o166_15, true_and, and_true, and_false, not_true_eq_false, not_false_eq_true, false_implies, forall_const, if_true, if_false, and_self, kz0, kz1, lt_le, b0, b1]

theorem c_X8_isFourth {x : Int32} {h : MH} {Q : MR → MH → Prop}  : Ok 167 0 [.int x] [] h 0 0 Q ↔ Q (.inl (some (.int (if (¬ x < 0 ∧ x < 4) then 1 else 0)))) h := by
  by_cases b0 : x < 0 <;> by_cases b1 : x < 4 <;> simp only [o167_0, o167_1, o167_4, o167_5, o167_6, o167_9, o167_10, o167_13, o167_14, true_and, and_true, and_false, not_true_eq_false, not_false_eq_true, false_implies, forall_const, if_true, if_false, and_self, kz0, kz1, lt_le, b0, b1]

theorem c_X8_isQueue {x : Int32} {h : MH} {Q : MR → MH → Prop}  : Ok 169 0 [.int x] [] h 0 0 Q ↔ Q (.inl (some (.int (if (¬ x < 0 ∧ x < 3) then 1 else 0)))) h := by
  by_cases b0 : x < 0 <;> by_cases b1 : x < 3 <;> simp only [o169_0, o169_1, o169_4, o169_5, o169_6, o169_9, o169_10, o169_13, o169_14, true_and, and_true, and_false, not_true_eq_false, not_false_eq_true, false_implies, forall_const, if_true, if_false, and_self, kz0, kz1, lt_le, b0, b1]

theorem c_X8_isShort {x : Int32} {h : MH} {Q : MR → MH → Prop}  : Ok 168 0 [.int x] [] h 0 0 Q ↔ Q (.inl (some (.int (if (¬ x < -32768 ∧ x < 32768) then 1 else 0)))) h := by
  by_cases b0 : x < -32768 <;> by_cases b1 : x < 32768 <;> simp only [o168_0, o168_1, o168_4, o168_7, o168_8, o168_10, o168_13, o168_14, o168_17, o168_18, true_and, and_true, and_false, not_true_eq_false, not_false_eq_true, false_implies, forall_const, if_true, if_false, and_self, kz0, kz1, lt_le, b0, b1]

theorem c_X8_isLens {x : Int32} {h : MH} {Q : MR → MH → Prop}  : Ok 170 0 [.int x] [] h 0 0 Q ↔ Q (.inl (some (.int (if x = 0 ∨ x = 1 then 1 else 0)))) h := by
  by_cases b0 : x = 0 <;> by_cases b1 : x = 1 <;> simp only [o170_0, o170_1, o170_4, o170_5, o170_6, o170_9, o170_10, o170_13, o170_14, true_and, and_true, or_true, or_false, not_true_eq_false, not_false_eq_true, false_implies, forall_const, if_true, if_false, i10, i01, kz0, kz1, b0, b1]

theorem c_X8_done {m cs : Nat} {x : Int32} {h : MH} {Q : MR → MH → Prop} (m1 : g_c h m = 9) (k1 : g_r h m 8 = some cs) (k2 : g_c h cs = 101) (k3 : g_z h ≤ cs) (k4 : g_n h cs = 8) : Ok 164 0 [.ref m, .int x] [] h 0 0 Q ↔ Q (.inl (some (.int x))) (p_i h cs 0 (g_i h cs 0 + 1)) := by
  simp only [o164_0, o164_1, o164_4, o164_5, o164_6, o164_7, o164_8, o164_9, o164_10, o164_11, mrf_some, true_and, and_self, cl0, m1, k1, k2, k3, k4, v08]

theorem c_X8_no {m cs : Nat} {x : Int32} {h : MH} {Q : MR → MH → Prop} (m1 : g_c h m = 9) (k1 : g_r h m 8 = some cs) (k2 : g_c h cs = 101) (k3 : g_z h ≤ cs) (k4 : g_n h cs = 8) (x3 : vp_in x 8) : Ok 165 0 [.ref m, .int x] [] h 0 0 Q ↔ Q (.inl (some (.int (-70000 - x)))) (p_i h cs x.toNatClampNeg (g_i h cs x.toNatClampNeg + 1)) := by
  simp only [o165_0, o165_1, o165_4, o165_5, o165_6, o165_7, o165_8, o165_9, o165_10, o165_12, o165_13, o165_14, mrf_some, true_and, and_self, m1, k1, k2, k3, k4, x3]

theorem c_X8_writeShort {m sr : Nat} {x v : Int32} {h : MH} {Q : MR → MH → Prop} (m1 : g_c h m = 9) (g1 : g_r h m 1 = some sr) (g2 : g_c h sr = 101) (g3 : g_n h sr = 36) (g4 : g_z h ≤ sr) (hv : vp_in x 36) : Ok 173 0 [.ref m, .int x, .int v, mk0] [] h 0 0 Q ↔ Q (.inl (some (.int (if g_i h sr x.toNatClampNeg = v then 0 else 1)))) (p_i h sr x.toNatClampNeg v) := by
  by_cases b0 : g_i h sr x.toNatClampNeg = v <;> simp only [o173_0, o173_1, o173_4, o173_5, o173_6, o173_7, o173_8, o173_11, o173_12, o173_13, o173_14, o173_15, o173_16, o173_19, o173_20, o173_23, o173_24, mrf_some, true_and, and_true, not_true_eq_false, not_false_eq_true, false_implies, forall_const, if_true, if_false, and_self, m1, g1, g2, g3, g4, hv, b0]

theorem c_X8_isBeyond {w : Nat} {x : Int32} {h : MH} {Q : MR → MH → Prop} (w1 : g_c h w = 8) : Ok 231 0 [.ref w, .int x] [] h 0 0 Q ↔ Q (.inl (some (.int (if x < 0 ∨ ¬ x < g_i h w 4 then 1 else 0)))) h := by
  by_cases b0 : x < 0 <;> by_cases b1 : x < g_i h w 4 <;> simp only [o231_0, o231_1, o231_4, o231_5, o231_6, o231_9, o231_12, o231_13, o231_16, o231_17, true_and, and_true, or_true, or_false, not_true_eq_false, not_false_eq_true, false_implies, forall_const, if_true, if_false, kz0, kz1, w1, b0, b1]

theorem c_X8_next {m w : Nat} {h : MH} {Q : MR → MH → Prop} (w1 : g_c h w = 8) (w2 : g_z h ≤ w) : Ok 229 0 [.ref m, .ref w] [] h 0 0 Q ↔ Q (.inl (some (.int (g_i h w 0 + (g_i h w 3 + 1) - 1)))) (p_i h w 3 (g_i h w 3 + 1)) := by
  simp only [o229_0, o229_1, o229_2, o229_5, o229_6, o229_7, o229_10, o229_11, o229_14, o229_15, o229_18, o229_19, o229_20, o229_21, mc_pi, mi_pi, kok_0, true_and, and_false, if_true, if_false, and_self, Nat.reduceEqDiff, w1, w2]
end

section
/-! CONTRACTS: checks, the shelf -/
theorem c_X5_checkSlot {x : Int32} {h : MH} {Q : MR → MH → Prop}  : Ok 108 0 [.int x] [] h 1 6 Q ↔ ((x < 0 ∨ ¬ x < 6) → ∀ t : Nat, g_t h ≤ t → Q (.inr 1) (p_T h t)) ∧ (¬ (x < 0 ∨ ¬ x < 6) → Q (.inl none) h) := by
  by_cases b0 : x < 0 <;> by_cases b1 : x < 6 <;> simp only [o108_0, o108_1, o108_4, o108_5, o108_7, o108_10, o108_21, true_and, and_true, or_true, or_false, not_true_eq_false, not_false_eq_true, false_implies, forall_const, Nat.le_refl, b0, b1]

theorem c_X5_checkQueue {x : Int32} {h : MH} {Q : MR → MH → Prop}  : Ok 109 0 [.int x] [] h 1 6 Q ↔ ((x < 0 ∨ ¬ x < 3) → ∀ t : Nat, g_t h ≤ t → Q (.inr 1) (p_T h t)) ∧ (¬ (x < 0 ∨ ¬ x < 3) → Q (.inl none) h) := by
  by_cases b0 : x < 0 <;> by_cases b1 : x < 3 <;> simp only [o109_0, o109_1, o109_4, o109_5, o109_6, o109_9, o109_20, true_and, and_true, or_true, or_false, not_true_eq_false, not_false_eq_true, false_implies, forall_const, Nat.le_refl, b0, b1]

theorem c_X5_checkLens {x : Int32} {h : MH} {Q : MR → MH → Prop}  : Ok 110 0 [.int x] [] h 1 6 Q ↔ ((x < 0 ∨ ¬ x < 2) → ∀ t : Nat, g_t h ≤ t → Q (.inr 1) (p_T h t)) ∧ (¬ (x < 0 ∨ ¬ x < 2) → Q (.inl none) h) := by
  by_cases b0 : x < 0 <;> by_cases b1 : x < 2 <;> simp only [o110_0, o110_1, o110_4, o110_5, o110_6, o110_9, o110_20, true_and, and_true, or_true, or_false, not_true_eq_false, not_false_eq_true, false_implies, forall_const, Nat.le_refl, b0, b1]

theorem c_X5_checkFourth {x : Int32} {h : MH} {Q : MR → MH → Prop}  : Ok 111 0 [.int x] [] h 1 6 Q ↔ ((x < 0 ∨ ¬ x < 4) → ∀ t : Nat, g_t h ≤ t → Q (.inr 2) (p_T h t)) ∧ (¬ (x < 0 ∨ ¬ x < 4) → Q (.inl none) h) := by
  by_cases b0 : x < 0 <;> by_cases b1 : x < 4 <;> simp only [o111_0, o111_1, o111_4, o111_5, o111_6, o111_9, o111_20, true_and, and_true, or_true, or_false, not_true_eq_false, not_false_eq_true, false_implies, forall_const, Nat.le_refl, b0, b1]

theorem c_X5_checkValue {x : Int32} {h : MH} {Q : MR → MH → Prop}  : Ok 112 0 [.int x] [] h 1 6 Q ↔ ((x < -32768 ∨ 32767 < x) → ∀ t : Nat, g_t h ≤ t → Q (.inr 2) (p_T h t)) ∧ (¬ (x < -32768 ∨ 32767 < x) → Q (.inl none) h) := by
  by_cases b0 : x < -32768 <;> by_cases b1 : 32767 < x <;> simp only [o112_0, o112_1, o112_4, o112_7, o112_8, o112_11, o112_14, o112_25, true_and, and_true, or_true, or_false, not_true_eq_false, not_false_eq_true, false_implies, forall_const, Nat.le_refl, lt_le, b0, b1]

theorem c_X5_checkAhead {x : Int32} {h : MH} {Q : MR → MH → Prop}  : Ok 113 0 [.int x] [] h 1 6 Q ↔ ((x < 0 ∨ 9 < x) → ∀ t : Nat, g_t h ≤ t → Q (.inr 2) (p_T h t)) ∧ (¬ (x < 0 ∨ 9 < x) → Q (.inl none) h) := by
  by_cases b0 : x < 0 <;> by_cases b1 : 9 < x <;> simp only [o113_0, o113_1, o113_4, o113_5, o113_7, o113_10, o113_21, true_and, and_true, or_true, or_false, not_true_eq_false, not_false_eq_true, false_implies, forall_const, Nat.le_refl, lt_le, b0, b1]

theorem c_X5_checkChoice {x y : Int32} {h : MH} {Q : MR → MH → Prop}  : Ok 114 0 [.int x, .int y] [] h 1 6 Q ↔ ((x < 0 ∨ y < x) → ∀ t : Nat, g_t h ≤ t → Q (.inr 2) (p_T h t)) ∧ (¬ (x < 0 ∨ y < x) → Q (.inl none) h) := by
  by_cases b0 : x < 0 <;> by_cases b1 : y < x <;> simp only [o114_0, o114_1, o114_4, o114_5, o114_6, o114_9, o114_20, true_and, and_true, or_true, or_false, not_true_eq_false, not_false_eq_true, false_implies, forall_const, Nat.le_refl, lt_le, b0, b1]

theorem c_X5_checkFilling {x : Nat} {h : MH} {Q : MR → MH → Prop} (x1 : g_c h x = 7) : Ok 115 0 [.ref x] [] h 1 6 Q ↔ (¬ g_i h x 6 = 0 → ∀ t : Nat, g_t h ≤ t → Q (.inr 3) (p_T h t)) ∧ (g_i h x 6 = 0 → Q (.inl none) h) := by
  by_cases b0 : g_i h x 6 = 0 <;> simp only [o115_0, o115_1, o115_4, o115_7, o115_18, true_and, and_true, not_true_eq_false, not_false_eq_true, false_implies, forall_const, Nat.le_refl, x1, b0]

theorem c_X5_checkDraining {x : Nat} {h : MH} {Q : MR → MH → Prop} (x1 : g_c h x = 7) : Ok 116 0 [.ref x] [] h 1 6 Q ↔ (g_i h x 6 = 0 → ∀ t : Nat, g_t h ≤ t → Q (.inr 3) (p_T h t)) ∧ (¬ g_i h x 6 = 0 → Q (.inl none) h) := by
  by_cases b0 : g_i h x 6 = 0 <;> simp only [o116_0, o116_1, o116_4, o116_7, o116_18, true_and, and_true, not_true_eq_false, not_false_eq_true, false_implies, forall_const, Nat.le_refl, x1, b0]

theorem q3c : ((0 : Int32) < 0 ∨ ¬ (0 : Int32) < 3) = False ∧ ((1 : Int32) < 0 ∨ ¬ (1 : Int32) < 3) = False ∧ ((2 : Int32) < 0 ∨ ¬ (2 : Int32) < 3) = False ∧ ((0 : Int32) < 0 ∨ ¬ (0 : Int32) < 2) = False ∧ ((1 : Int32) < 0 ∨ ¬ (1 : Int32) < 2) = False ∧ ((2 : Int32) = 0) = False ∧ ((2 : Int32) = 1) = False := by decide
theorem c_queueOf_0 {x q : Nat} {h : MH} {Q : MR → MH → Prop} (x1 : g_c h x = 7) (x2 : g_r h x 2 = some q) : Ok 117 0 [.ref x, .int 0] [] h 1 6 Q ↔ Q (.inl (some (.ref q))) h := by
  simp only [o117_0, o117_1, o117_4, o117_5, o117_32, o117_33, o117_36, o117_37, o117_38, o117_42, o117_43, c_X5_checkQueue, mcs_0, Kn_0, Kn_x, mrf_some, true_and, and_true, or_false, not_true_eq_false, not_false_eq_true, false_implies, implies_true, forall_const, and_self, Nat.reduceSub, Nat.zero_le, Nat.le_refl, i01, Int32.reduceLT, x1, x2]

theorem c_queueOf_1 {x q : Nat} {h : MH} {Q : MR → MH → Prop} (x1 : g_c h x = 7) (x2 : g_r h x 3 = some q) : Ok 117 0 [.ref x, .int 1] [] h 1 6 Q ↔ Q (.inl (some (.ref q))) h := by
  simp only [o117_0, o117_1, o117_4, o117_5, o117_32, o117_33, o117_37, o117_38, o117_41, o117_42, o117_43, c_X5_checkQueue, mcs_0, Kn_0, Kn_x, mrf_some, true_and, and_true, or_false, not_true_eq_false, not_false_eq_true, false_implies, implies_true, forall_const, Nat.reduceSub, Nat.zero_le, Nat.le_refl, i10, Int32.reduceLT, x1, x2]

theorem c_queueOf_2 {x q : Nat} {h : MH} {Q : MR → MH → Prop} (x1 : g_c h x = 7) (x2 : g_r h x 4 = some q) : Ok 117 0 [.ref x, .int 2] [] h 1 6 Q ↔ Q (.inl (some (.ref q))) h := by
  simp only [o117_0, o117_1, o117_4, o117_5, o117_32, o117_33, o117_37, o117_38, o117_42, o117_43, o117_46, c_X5_checkQueue, mcs_0, Kn_0, Kn_x, mrf_some, true_and, or_false, not_true_eq_false, not_false_eq_true, false_implies, implies_true, forall_const, Nat.reduceSub, Nat.zero_le, Nat.le_refl, Int32.reduceLT, x1, x2, q3c]

theorem c_queueOf_bad {x : Nat} {i : Int32} {h : MH} {Q : MR → MH → Prop} (hb : i < 0 ∨ ¬ i < 3) : Ok 117 0 [.ref x, .int i] [] h 1 6 Q ↔ ∀ t : Nat, g_t h ≤ t → Q (.inr 1) (p_T h t) := by
  simp only [o117_0, o117_1, o117_4, o117_5, o117_32, o117_33, o117_37, o117_38, o117_42, o117_43, c_X5_checkQueue, mcs_0, Kn_0, Kn_x, true_and, and_true, not_true_eq_false, false_implies, forall_const, Nat.reduceSub, Nat.zero_le, Nat.le_refl, hb]

theorem c_lensOf_0 {x q : Nat} {h : MH} {Q : MR → MH → Prop} (x1 : g_c h x = 7) (x2 : g_r h x 7 = some q) : Ok 118 0 [.ref x, .int 0] [] h 1 6 Q ↔ Q (.inl (some (.ref q))) h := by
  simp only [o118_0, o118_1, o118_4, o118_5, o118_8, o118_9, o118_12, o118_15, o118_16, o118_19, c_X5_checkLens, mcs_0, Kn_0, Kn_x, mrf_some, true_and, or_false, not_true_eq_false, not_false_eq_true, false_implies, forall_const, Nat.reduceSub, Nat.zero_le, Nat.le_refl, Int32.reduceLT, x1, x2]

theorem c_lensOf_1 {x q : Nat} {h : MH} {Q : MR → MH → Prop} (x1 : g_c h x = 7) (x2 : g_r h x 8 = some q) : Ok 118 0 [.ref x, .int 1] [] h 1 6 Q ↔ Q (.inl (some (.ref q))) h := by
  simp only [o118_0, o118_1, o118_4, o118_5, o118_8, o118_9, o118_12, o118_15, o118_16, o118_19, c_X5_checkLens, mcs_0, Kn_0, Kn_x, mrf_some, true_and, and_true, or_false, not_true_eq_false, not_false_eq_true, false_implies, forall_const, Nat.reduceSub, Nat.zero_le, Nat.le_refl, i10, Int32.reduceLT, x1, x2]

theorem c_lensOf_bad {x : Nat} {i : Int32} {h : MH} {Q : MR → MH → Prop} (hb : i < 0 ∨ ¬ i < 2) : Ok 118 0 [.ref x, .int i] [] h 1 6 Q ↔ ∀ t : Nat, g_t h ≤ t → Q (.inr 1) (p_T h t) := by
  simp only [o118_0, o118_1, o118_4, o118_5, o118_8, o118_9, o118_12, o118_15, o118_16, c_X5_checkLens, mcs_0, Kn_0, Kn_x, true_and, and_true, not_true_eq_false, false_implies, forall_const, Nat.reduceSub, Nat.zero_le, Nat.le_refl, hb]

theorem c_X5_joined {a b : Int32} {h : MH} {Q : MR → MH → Prop}  : Ok 119 0 [.int a, .int b] [] h 0 0 Q ↔ Q (.inl (some (.long (a.toInt64 <<< ((32 : Int32).toInt64 &&& 63) ||| (b.toInt64 &&& 4294967295))))) h := by
  simp only [o119_0, o119_1, o119_2, o119_4, o119_5, o119_6, o119_7, o119_10, o119_11, o119_12]

theorem c_X5_upperOf {a : Int64} {h : MH} {Q : MR → MH → Prop}  : Ok 120 0 [.long a, mk0] [] h 0 0 Q ↔ Q (.inl (some (.int (a >>> ((32 : Int32).toInt64 &&& 63)).toInt32))) h := by
  simp only [o120_0, o120_1, o120_3, o120_4, o120_5]

theorem c_X5_lowerOf {a : Int64} {h : MH} {Q : MR → MH → Prop}  : Ok 121 0 [.long a, mk0] [] h 0 0 Q ↔ Q (.inl (some (.int a.toInt32))) h := by
  simp only [o121_0, o121_1, o121_2]

def foC (a : Int64) (k : Int32) : Int32 := (a >>> ((16 * (3 - k)).toInt64 &&& 63)).toInt32.toInt16.toInt32
theorem i16_short (x : Int32) : kok 6 x.toInt16.toInt32 = True := by
  have h := x.toInt16.toInt_lt
  have h2 := x.toInt16.le_toInt
  simp only [kok, eq_iff_iff, iff_true]
  refine ⟨fun z => absurd z (by decide), fun z => absurd z (by decide), fun z => absurd z (by decide), fun _ => ⟨?_, ?_⟩⟩
  · rw [Int32.le_iff_toInt_le, Int16.toInt_toInt32]
    exact h2
  · rw [Int32.le_iff_toInt_le, Int16.toInt_toInt32]
    have : (32767 : Int32).toInt = 32767 := rfl
    omega
theorem c_X5_fourthOf {a : Int64} {k : Int32} {h : MH} {Q : MR → MH → Prop}  : Ok 122 0 [.long a, mk0, .int k] [] h 0 0 Q ↔ Q (.inl (some (.int (foC a k)))) h := by
  simp only [o122_0, o122_1, o122_3, o122_4, o122_5, o122_6, o122_7, o122_8, o122_9, o122_10, true_and, foC, i16_short]

theorem c_X5_cellOf {s k : Int32} {h : MH} {Q : MR → MH → Prop}  : Ok 123 0 [.int s, .int k] [] h 0 0 Q ↔ Q (.inl (some (.int (11 + 4 * s + k)))) h := by
  simp only [o123_0, o123_2, o123_3, o123_4, o123_5, o123_6, o123_7, o123_8]

theorem c_X5_fourthIn {x rw cs : Nat} {s k : Int32} {h : MH} {Q : MR → MH → Prop} (x1 : g_c h x = 7) (x2 : g_r h x 1 = some rw) (r1 : g_c h rw = 3) (r2 : g_r h rw 0 = some cs) (r3 : g_c h cs = 102) (r4 : g_n h cs = 36) (hj : rdy 36 (11 + 4 * s + k)) : Ok 124 0 [.ref x, .int s, .int k] [] h 0 0 Q ↔ Q (.inl (some (.int (g_l h cs (11 + 4 * s + k).toNatClampNeg).toInt32))) h := by
  simp only [o124_0, o124_1, o124_4, o124_5, o124_6, o124_9, o124_12, o124_13, c_X5_cellOf, c_X2_read (cs := cs) (n := 36), mcs_0, mcs_r, Kn_v, mrf_some, true_and, Nat.reduceLeDiff, Nat.reduceAdd, Nat.zero_le, x1, x2, r1, r2, r3, r4, hj]

theorem c_X5_changeFourth {x rw cs : Nat} {s k : Int32} {v : Int64} {h : MH} {Q : MR → MH → Prop} (x1 : g_c h x = 7) (x2 : g_r h x 1 = some rw) (r1 : g_c h rw = 3) (r2 : g_r h rw 0 = some cs) (r3 : g_c h cs = 102) (r4 : g_n h cs = 36) (r5 : g_z h ≤ cs) (hj : rdy 36 (11 + 4 * s + k)) : Ok 126 0 [.ref x, .int s, .int k, .long v, mk0] [] h 0 0 Q ↔ Q (.inl (some (.int (if g_l h cs (11 + 4 * s + k).toNatClampNeg = v then 0 else 1)))) (p_l h cs (11 + 4 * s + k).toNatClampNeg v) := by
  simp only [o126_0, o126_1, o126_4, o126_5, o126_6, o126_9, o126_10, o126_13, c_X5_cellOf, c_X2_write (cs := cs) (n := 36), mcs_0, mcs_r, Kn_v, mrf_some, true_and, Nat.reduceLeDiff, Nat.reduceAdd, Nat.zero_le, x1, x2, r1, r2, r3, r4, r5, hj, kzi2]

theorem s_cases {s : Int32} (h1 : ¬ s < 0) (h2 : s < 6) : s = 0 ∨ s = 1 ∨ s = 2 ∨ s = 3 ∨ s = 4 ∨ s = 5 := by
  have e1 : 0 ≤ s.toInt := by
    have := Int32.not_lt.mp h1
    exact Int32.le_iff_toInt_le.mp this
  have e2 : s.toInt < 6 := Int32.lt_iff_toInt_lt.mp h2
  have h : s.toInt = 0 ∨ s.toInt = 1 ∨ s.toInt = 2 ∨ s.toInt = 3 ∨ s.toInt = 4 ∨ s.toInt = 5 := by omega
  rcases h with h | h | h | h | h | h
  · exact Or.inl (Int32.toInt_inj.mp h)
  · exact Or.inr (Or.inl (Int32.toInt_inj.mp h))
  · exact Or.inr (Or.inr (Or.inl (Int32.toInt_inj.mp h)))
  · exact Or.inr (Or.inr (Or.inr (Or.inl (Int32.toInt_inj.mp h))))
  · exact Or.inr (Or.inr (Or.inr (Or.inr (Or.inl (Int32.toInt_inj.mp h)))))
  · exact Or.inr (Or.inr (Or.inr (Or.inr (Or.inr (Int32.toInt_inj.mp h)))))
/-- the four cells of a slot: they lie in the row, and are four -/
def ixOk (s : Int32) : Prop := (rdy 36 (11 + 4 * s + 0) ∧ rdy 36 (11 + 4 * s + 1) ∧ rdy 36 (11 + 4 * s + 2) ∧ rdy 36 (11 + 4 * s + 3)) ∧
  (¬ (11 + 4 * s + 0).toNatClampNeg = (11 + 4 * s + 1).toNatClampNeg ∧ ¬ (11 + 4 * s + 0).toNatClampNeg = (11 + 4 * s + 2).toNatClampNeg ∧ ¬ (11 + 4 * s + 0).toNatClampNeg = (11 + 4 * s + 3).toNatClampNeg ∧
   ¬ (11 + 4 * s + 1).toNatClampNeg = (11 + 4 * s + 0).toNatClampNeg ∧ ¬ (11 + 4 * s + 1).toNatClampNeg = (11 + 4 * s + 2).toNatClampNeg ∧ ¬ (11 + 4 * s + 1).toNatClampNeg = (11 + 4 * s + 3).toNatClampNeg ∧
   ¬ (11 + 4 * s + 2).toNatClampNeg = (11 + 4 * s + 0).toNatClampNeg ∧ ¬ (11 + 4 * s + 2).toNatClampNeg = (11 + 4 * s + 1).toNatClampNeg ∧ ¬ (11 + 4 * s + 2).toNatClampNeg = (11 + 4 * s + 3).toNatClampNeg ∧
   ¬ (11 + 4 * s + 3).toNatClampNeg = (11 + 4 * s + 0).toNatClampNeg ∧ ¬ (11 + 4 * s + 3).toNatClampNeg = (11 + 4 * s + 1).toNatClampNeg ∧ ¬ (11 + 4 * s + 3).toNatClampNeg = (11 + 4 * s + 2).toNatClampNeg)
theorem ix_ok {s : Int32} (h1 : ¬ s < 0) (h2 : s < 6) : ixOk s := by
  rcases s_cases h1 h2 with rfl | rfl | rfl | rfl | rfl | rfl <;> (unfold ixOk rdy vp_in; decide)
def nmC (a b c d : Int32) : Int64 := ((((0 <<< ((16 : Int32).toInt64 &&& 63) ||| (a &&& 65535).toInt64) <<< ((16 : Int32).toInt64 &&& 63) ||| (b &&& 65535).toInt64) <<< ((16 : Int32).toInt64 &&& 63) ||| (c &&& 65535).toInt64) <<< ((16 : Int32).toInt64 &&& 63) ||| (d &&& 65535).toInt64)
def nmM (a b c d : Int32) : Int64 := (((0 * 65536 + (a &&& 65535).toInt64) * 65536 + (b &&& 65535).toInt64) * 65536 + (c &&& 65535).toInt64) * 65536 + (d &&& 65535).toInt64
theorem lk : ((0 : Int32) < 4) = True ∧ ((1 : Int32) < 4) = True ∧ ((2 : Int32) < 4) = True ∧ ((3 : Int32) < 4) = True ∧ ((4 : Int32) < 4) = False ∧ (0 : Int32) + 1 = 1 ∧ (1 : Int32) + 1 = 2 ∧ (2 : Int32) + 1 = 3 ∧ (3 : Int32) + 1 = 4 := by decide
theorem c_nIn_step {x rw cs : Nat} {s k : Int32} {v : Int64} {h : MH} {Q : MR → MH → Prop} (x1 : g_c h x = 7) (x2 : g_r h x 1 = some rw) (r1 : g_c h rw = 3) (r2 : g_r h rw 0 = some cs) (r3 : g_c h cs = 102) (r4 : g_n h cs = 36) (hk : k < 4) (hj : rdy 36 (11 + 4 * s + k)) : Ok 125 5 [.ref x, .int s, .long v, mk0, .int k] [] h 0 0 Q ↔ Ok 125 5 [.ref x, .int s, .long (v <<< ((16 : Int32).toInt64 &&& 63) ||| ((g_l h cs (11 + 4 * s + k).toNatClampNeg).toInt32 &&& 65535).toInt64), mk0, .int (k + 1)] [] h 0 0 Q := by
  rw [o125_5]
  simp only [o125_7, o125_8, o125_11, o125_12, o125_14, o125_15, o125_16, o125_17, o125_19, o125_22, o125_25, o125_26, o125_27, o125_28, o125_29, o125_32, c_X5_fourthIn (rw := rw) (cs := cs), mcs_0, mcs_l, Kn_v, true_and, not_true_eq_false, not_false_eq_true, false_implies, forall_const, Nat.reduceLeDiff, Nat.reduceAdd, lt_le, x1, x2, r1, r2, r3, r4, hk, hj]

theorem c_X5_numberIn {x rw cs : Nat} {s : Int32} {h : MH} {Q : MR → MH → Prop} (x1 : g_c h x = 7) (x2 : g_r h x 1 = some rw) (r1 : g_c h rw = 3) (r2 : g_r h rw 0 = some cs) (r3 : g_c h cs = 102) (r4 : g_n h cs = 36) (hs : ixOk s) : Ok 125 0 [.ref x, .int s, mk0, mk0, mk0] [] h 0 0 Q ↔ Q (.inl (some (.long (nmC (g_l h cs (11 + 4 * s + 0).toNatClampNeg).toInt32 (g_l h cs (11 + 4 * s + 1).toNatClampNeg).toInt32 (g_l h cs (11 + 4 * s + 2).toNatClampNeg).toInt32 (g_l h cs (11 + 4 * s + 3).toNatClampNeg).toInt32)))) h := by
  obtain ⟨⟨j0, j1, j2, j3⟩, -⟩ := hs
  obtain ⟨k0, k1, k2, k3, k4, a0, a1, a2, a3⟩ := lk
  have n0 : (0 : Int32) < 4 := by decide
  have n1 : (1 : Int32) < 4 := by decide
  have n2 : (2 : Int32) < 4 := by decide
  have n3 : (3 : Int32) < 4 := by decide
  have st := fun {v : Int64} {k : Int32} (hk : k < 4) (hj : rdy 36 (11 + 4 * s + k)) => c_nIn_step (v := v) (Q := Q) x1 x2 r1 r2 r3 r4 hk hj
  simp only [o125_0, o125_1, o125_2, o125_3, st n0 j0, a0, st n1 j1, a1, st n2 j2, a2, st n3 j3, a3]
  simp only [o125_5, o125_7, o125_8, o125_11, o125_12, o125_14, o125_15, o125_16, o125_17, o125_19, o125_35, o125_36, mcs_0, mcs_l, true_and, and_true, not_true_eq_false, not_false_eq_true, false_implies, forall_const, Nat.reduceLeDiff, Nat.reduceAdd, lt_le, k4, nmC]

theorem c_lay_step {x rw cs : Nat} {s o k : Int32} {v : Int64} {h : MH} {Q : MR → MH → Prop} (x1 : g_c h x = 7) (x2 : g_r h x 1 = some rw) (r1 : g_c h rw = 3) (r2 : g_r h rw 0 = some cs) (r3 : g_c h cs = 102) (r4 : g_n h cs = 36) (r5 : g_z h ≤ cs) (hk : k < 4) (hj : rdy 36 (11 + 4 * s + k)) : Ok 127 6 [.ref x, .int s, .long v, mk0, .int o, .int k] [] h 0 0 Q ↔ Ok 127 6 [.ref x, .int s, .long v, mk0, .int (o + (if g_l h cs (11 + 4 * s + k).toNatClampNeg = (foC v k).toInt64 then 0 else 1)), .int (k + 1)] [] (p_l h cs (11 + 4 * s + k).toNatClampNeg (foC v k).toInt64) 0 0 Q := by
  rw [o127_6]
  by_cases b : g_l h cs (11 + 4 * s + k).toNatClampNeg = (foC v k).toInt64 <;> simp only [o127_8, o127_9, o127_12, o127_14, o127_15, o127_16, o127_18, o127_19, o127_21, o127_24, o127_25, o127_28, o127_31, o127_32, o127_35, o127_36, o127_37, o127_39, o127_42, c_X5_fourthOf, c_X5_changeFourth (rw := rw) (cs := cs), mcs_0, mcs_i, mcs_r, Kn_v, true_and, and_true, not_true_eq_false, not_false_eq_true, false_implies, forall_const, if_true, if_false, Nat.reduceLeDiff, Nat.reduceAdd, i10, lt_le, x1, x2, r1, r2, r3, r4, r5, hk, hj, b]

theorem c_X5_layNumber {x rw cs : Nat} {s : Int32} {v : Int64} {h : MH} {Q : MR → MH → Prop} (x1 : g_c h x = 7) (x2 : g_r h x 1 = some rw) (r1 : g_c h rw = 3) (r2 : g_r h rw 0 = some cs) (r3 : g_c h cs = 102) (r4 : g_n h cs = 36) (r5 : g_z h ≤ cs) (hs : ixOk s) : Ok 127 0 [.ref x, .int s, .long v, mk0, mk0, mk0] [] h 0 0 Q ↔ Q (.inl (some (.int ((((0 + (if g_l h cs (11 + 4 * s + 0).toNatClampNeg = (foC v 0).toInt64 then 0 else 1)) + (if g_l h cs (11 + 4 * s + 1).toNatClampNeg = (foC v 1).toInt64 then 0 else 1)) + (if g_l h cs (11 + 4 * s + 2).toNatClampNeg = (foC v 2).toInt64 then 0 else 1)) + (if g_l h cs (11 + 4 * s + 3).toNatClampNeg = (foC v 3).toInt64 then 0 else 1))))) (p_l (p_l (p_l (p_l h cs (11 + 4 * s + 0).toNatClampNeg (foC v 0).toInt64) cs (11 + 4 * s + 1).toNatClampNeg (foC v 1).toInt64) cs (11 + 4 * s + 2).toNatClampNeg (foC v 2).toInt64) cs (11 + 4 * s + 3).toNatClampNeg (foC v 3).toInt64) := by
  obtain ⟨⟨j0, j1, j2, j3⟩, d01, d02, d03, d10, d12, d13, d20, d21, d23, d30, d31, d32⟩ := hs
  obtain ⟨k0, k1, k2, k3, k4, a0, a1, a2, a3⟩ := lk
  have n0 : (0 : Int32) < 4 := by decide
  have n1 : (1 : Int32) < 4 := by decide
  have n2 : (2 : Int32) < 4 := by decide
  have n3 : (3 : Int32) < 4 := by decide
  have st := fun {h : MH} {o k : Int32} (x1 : g_c h x = 7) (x2 : g_r h x 1 = some rw) (r1 : g_c h rw = 3) (r2 : g_r h rw 0 = some cs) (r3 : g_c h cs = 102) (r4 : g_n h cs = 36) (r5 : g_z h ≤ cs) (hk : k < 4) (hj : rdy 36 (11 + 4 * s + k)) => c_lay_step (s := s) (v := v) (o := o) (Q := Q) x1 x2 r1 r2 r3 r4 r5 hk hj
  simp only [o127_0, o127_1, o127_3, o127_4]
  rw [st x1 x2 r1 r2 r3 r4 r5 n0 j0, a0, st (by exact x1) (by exact x2) (by exact r1) (by exact r2) (by exact r3) (by exact r4) (by exact r5) n1 j1, a1, st (by exact x1) (by exact x2) (by exact r1) (by exact r2) (by exact r3) (by exact r4) (by exact r5) n2 j2, a2, st (by exact x1) (by exact x2) (by exact r1) (by exact r2) (by exact r3) (by exact r4) (by exact r5) n3 j3, a3]
  simp only [o127_6, o127_8, o127_9, o127_12, o127_14, o127_15, o127_16, o127_18, o127_19, o127_21, o127_45, o127_47, ml_pl, mcs_0, mcs_i, mcs_r, true_and, and_true, and_false, not_true_eq_false, not_false_eq_true, false_implies, forall_const, if_false, Nat.reduceLeDiff, Nat.reduceAdd, lt_le, k4, d10, d20, d21, d30, d31, d32]

def foM (a : Int64) (k : Int32) : Int32 := if 32767 < ((a >>> ((48 - 16 * k).toInt64 &&& 63)) &&& 65535).toInt32 then ((a >>> ((48 - 16 * k).toInt64 &&& 63)) &&& 65535).toInt32 - 65536 else ((a >>> ((48 - 16 * k).toInt64 &&& 63)) &&& 65535).toInt32
theorem c_X8_fourthOf {a : Int64} {k : Int32} {h : MH} {Q : MR → MH → Prop}  : Ok 171 0 [.long a, mk0, .int k, mk0] [] h 0 0 Q ↔ Q (.inl (some (.int (foM a k)))) h := by
  by_cases b0 : 32767 < ((a >>> ((48 - 16 * k).toInt64 &&& 63)) &&& 65535).toInt32 <;> simp only [o171_0, o171_1, o171_3, o171_5, o171_6, o171_7, o171_8, o171_9, o171_12, o171_13, o171_14, o171_15, o171_16, o171_19, o171_22, o171_23, o171_25, o171_26, o171_29, o171_30, true_and, and_true, not_true_eq_false, not_false_eq_true, false_implies, forall_const, if_true, if_false, lt_le, b0, foM]

theorem c_nOf_step {m sr : Nat} {s k : Int32} {v : Int64} {h : MH} {Q : MR → MH → Prop} (m1 : g_c h m = 9) (g1 : g_r h m 1 = some sr) (g2 : g_c h sr = 101) (g3 : g_n h sr = 36) (hk : k < 4) (hj : vp_in (11 + 4 * s + k) 36) : Ok 172 5 [.ref m, .int s, .long v, mk0, .int k] [] h 0 0 Q ↔ Ok 172 5 [.ref m, .int s, .long (v * 65536 + (g_i h sr (11 + 4 * s + k).toNatClampNeg &&& 65535).toInt64), mk0, .int (k + 1)] [] h 0 0 Q := by
  rw [o172_5]
  simp only [o172_7, o172_8, o172_11, o172_12, o172_15, o172_16, o172_17, o172_20, o172_22, o172_23, o172_24, o172_25, o172_26, o172_28, o172_29, o172_30, o172_32, o172_33, o172_34, o172_35, o172_36, o172_39, mrf_some, true_and, not_true_eq_false, not_false_eq_true, false_implies, forall_const, and_self, lt_le, m1, g1, g2, g3, hk, hj]

theorem c_X8_numberOf {m sr : Nat} {s : Int32} {h : MH} {Q : MR → MH → Prop} (m1 : g_c h m = 9) (g1 : g_r h m 1 = some sr) (g2 : g_c h sr = 101) (g3 : g_n h sr = 36) (hs : ixOk s) : Ok 172 0 [.ref m, .int s, mk0, mk0, mk0] [] h 0 0 Q ↔ Q (.inl (some (.long (nmM (g_i h sr (11 + 4 * s + 0).toNatClampNeg) (g_i h sr (11 + 4 * s + 1).toNatClampNeg) (g_i h sr (11 + 4 * s + 2).toNatClampNeg) (g_i h sr (11 + 4 * s + 3).toNatClampNeg))))) h := by
  obtain ⟨⟨j0, j1, j2, j3⟩, -⟩ := hs
  obtain ⟨k0, k1, k2, k3, k4, a0, a1, a2, a3⟩ := lk
  have n0 : (0 : Int32) < 4 := by decide
  have n1 : (1 : Int32) < 4 := by decide
  have n2 : (2 : Int32) < 4 := by decide
  have n3 : (3 : Int32) < 4 := by decide
  have st := fun {v : Int64} {k : Int32} (hk : k < 4) (hj : vp_in (11 + 4 * s + k) 36) => c_nOf_step (v := v) (Q := Q) m1 g1 g2 g3 hk hj
  simp only [o172_0, o172_1, o172_2, o172_3, st n0 j0.2.2, a0, st n1 j1.2.2, a1, st n2 j2.2.2, a2, st n3 j3.2.2, a3]
  simp only [o172_5, o172_7, o172_8, o172_11, o172_12, o172_15, o172_16, o172_17, o172_20, o172_22, o172_23, o172_24, o172_25, o172_26, o172_28, o172_42, o172_43, and_true, not_true_eq_false, not_false_eq_true, false_implies, forall_const, lt_le, k4, nmM]

theorem c_laid_step {m sr : Nat} {s o k : Int32} {v : Int64} {h : MH} {Q : MR → MH → Prop} (m1 : g_c h m = 9) (g1 : g_r h m 1 = some sr) (g2 : g_c h sr = 101) (g3 : g_n h sr = 36) (g4 : g_z h ≤ sr) (hk : k < 4) (hj : vp_in (11 + 4 * s + k) 36) : Ok 174 6 [.ref m, .int s, .long v, mk0, .int o, .int k] [] h 0 0 Q ↔ Ok 174 6 [.ref m, .int s, .long v, mk0, .int (o + (if g_i h sr (11 + 4 * s + k).toNatClampNeg = foM v k then 0 else 1)), .int (k + 1)] [] (p_i h sr (11 + 4 * s + k).toNatClampNeg (foM v k)) 0 0 Q := by
  rw [o174_6]
  simp only [o174_8, o174_9, o174_12, o174_14, o174_15, o174_17, o174_18, o174_19, o174_20, o174_21, o174_23, o174_24, o174_25, o174_27, o174_30, o174_33, o174_34, o174_36, o174_39, c_X8_fourthOf, c_X8_writeShort (sr := sr), mcs_0, mcs_i, mcs_r, Kn_v, true_and, not_true_eq_false, not_false_eq_true, false_implies, forall_const, Nat.reduceLeDiff, Nat.reduceAdd, lt_le, m1, g1, g2, g3, g4, hk, hj]

theorem c_X8_laid {m sr : Nat} {s : Int32} {v : Int64} {h : MH} {Q : MR → MH → Prop} (m1 : g_c h m = 9) (g1 : g_r h m 1 = some sr) (g2 : g_c h sr = 101) (g3 : g_n h sr = 36) (g4 : g_z h ≤ sr) (hs : ixOk s) : Ok 174 0 [.ref m, .int s, .long v, mk0, mk0, mk0] [] h 0 0 Q ↔ Q (.inl (some (.int ((((0 + (if g_i h sr (11 + 4 * s + 0).toNatClampNeg = foM v 0 then 0 else 1)) + (if g_i h sr (11 + 4 * s + 1).toNatClampNeg = foM v 1 then 0 else 1)) + (if g_i h sr (11 + 4 * s + 2).toNatClampNeg = foM v 2 then 0 else 1)) + (if g_i h sr (11 + 4 * s + 3).toNatClampNeg = foM v 3 then 0 else 1))))) (p_i (p_i (p_i (p_i h sr (11 + 4 * s + 0).toNatClampNeg (foM v 0)) sr (11 + 4 * s + 1).toNatClampNeg (foM v 1)) sr (11 + 4 * s + 2).toNatClampNeg (foM v 2)) sr (11 + 4 * s + 3).toNatClampNeg (foM v 3)) := by
  obtain ⟨⟨j0, j1, j2, j3⟩, d01, d02, d03, d10, d12, d13, d20, d21, d23, d30, d31, d32⟩ := hs
  obtain ⟨k0, k1, k2, k3, k4, a0, a1, a2, a3⟩ := lk
  have n0 : (0 : Int32) < 4 := by decide
  have n1 : (1 : Int32) < 4 := by decide
  have n2 : (2 : Int32) < 4 := by decide
  have n3 : (3 : Int32) < 4 := by decide
  have st := fun {h : MH} {o k : Int32} (m1 : g_c h m = 9) (g1 : g_r h m 1 = some sr) (g2 : g_c h sr = 101) (g3 : g_n h sr = 36) (g4 : g_z h ≤ sr) (hk : k < 4) (hj : vp_in (11 + 4 * s + k) 36) => c_laid_step (s := s) (v := v) (o := o) (Q := Q) m1 g1 g2 g3 g4 hk hj
  simp only [o174_0, o174_1, o174_3, o174_4]
  rw [st m1 g1 g2 g3 g4 n0 j0.2.2, a0, st (by exact m1) (by exact g1) (by exact g2) (by exact g3) (by exact g4) n1 j1.2.2, a1, st (by exact m1) (by exact g1) (by exact g2) (by exact g3) (by exact g4) n2 j2.2.2, a2, st (by exact m1) (by exact g1) (by exact g2) (by exact g3) (by exact g4) n3 j3.2.2, a3]
  simp only [o174_6, o174_8, o174_9, o174_12, o174_14, o174_15, o174_17, o174_18, o174_19, o174_20, o174_21, o174_23, o174_24, o174_25, o174_27, o174_42, o174_44, mi_pi, mcs_0, mcs_i, mcs_r, true_and, and_true, and_false, not_true_eq_false, not_false_eq_true, false_implies, forall_const, if_false, Nat.reduceLeDiff, Nat.reduceAdd, lt_le, k4, d10, d20, d21, d30, d31, d32]
end

section
/-! THE RELATION of the class's memory and the reference's, by the addresses A -/
def QSl (sz : Nat) (ring : Bool) : List QT :=
  ((List.range (if ring then sz else sz + 1)).flatMap fun wp => (List.range (wp + 1)).flatMap fun rp => ((-1 : Int32) :: (List.range (rp + 1)).map Int32.ofNat).map fun rm => ((Int32.ofNat wp, Int32.ofNat sz, -1, Int32.ofNat rp, Int32.ofNat wp, rm, 0) : QT)) ++
  (if ring then (List.range sz).flatMap fun rp => ((-1 : Int32) :: (List.range (rp + 1)).map Int32.ofNat).flatMap fun rm => (List.range ((if rm < 0 then rp else rm.toNatClampNeg) + 1)).map fun wp => ((Int32.ofNat wp, (if rm < 0 then Int32.ofNat rp else rm), -1, Int32.ofNat rp, Int32.ofNat sz, rm, 1) : QT) else [])
def QS0 : List QT := QSl 5 true
def QS1 : List QT := QSl 3 true
def QS2 : List QT := QSl 6 false
/-- the pipe: place, limit, mark, draining -/
def PS : List (Int32 × Int32 × Int32 × Int32) :=
  ((List.range 11).flatMap fun p => ((-1 : Int32) :: (List.range (p + 1)).map Int32.ofNat).map fun m => (Int32.ofNat p, (10 : Int32), m, (0 : Int32))) ++
  ((List.range 11).flatMap fun li => (List.range (li + 1)).flatMap fun p => ((-1 : Int32) :: (List.range (p + 1)).map Int32.ofNat).map fun m => (Int32.ofNat p, Int32.ofNat li, m, (1 : Int32)))
def inj40 (A : Nat → Nat) : Prop := ∀ i j, i < 40 → j < 40 → (A i = A j ↔ i = j)
def Kc1 (A : Nat → Nat) (h : MH) : Prop := g_c h (A 0) = 7 ∧ g_c h (A 1) = 3 ∧ g_c h (A 2) = 3 ∧ g_c h (A 3) = 102 ∧ g_c h (A 4) = 102 ∧ g_c h (A 5) = 5 ∧ g_c h (A 6) = 5 ∧ g_c h (A 7) = 5 ∧ g_c h (A 8) = 4 ∧ g_c h (A 9) = 4 ∧ g_c h (A 10) = 4 ∧ g_c h (A 11) = 4 ∧ g_c h (A 12) = 4 ∧ g_c h (A 13) = 4 ∧ g_c h (A 14) = 4 ∧ g_c h (A 15) = 4 ∧ g_c h (A 16) = 4 ∧ g_c h (A 17) = 2 ∧ g_c h (A 18) = 101 ∧ g_c h (A 19) = 6 ∧ g_c h (A 20) = 10 ∧ g_c h (A 21) = 104 ∧ g_c h (A 22) = 9 ∧ g_c h (A 23) = 102 ∧ g_c h (A 24) = 101 ∧ g_c h (A 25) = 106 ∧ g_c h (A 26) = 106 ∧ g_c h (A 27) = 105 ∧ g_c h (A 28) = 8 ∧ g_c h (A 29) = 106 ∧ g_c h (A 30) = 101 ∧ g_c h (A 31) = 8 ∧ g_c h (A 32) = 8 ∧ g_c h (A 33) = 8 ∧ g_c h (A 34) = 8 ∧ g_c h (A 35) = 8 ∧ g_c h (A 36) = 8 ∧ g_c h (A 37) = 8 ∧ g_c h (A 38) = 8 ∧ g_c h (A 39) = 1
def Kz1 (A : Nat → Nat) (h : MH) : Prop := (∀ i, i < 40 → g_z h ≤ A i) ∧ ∀ i, i < 40 → A i < g_t h
def Kn1 (A : Nat → Nat) (h : MH) : Prop := g_n h (A 3) = 16 ∧ g_n h (A 4) = 36 ∧ g_n h (A 18) = 8 ∧ g_n h (A 21) = 19 ∧ g_n h (A 23) = 16 ∧ g_n h (A 24) = 36 ∧ g_n h (A 25) = 3 ∧ g_n h (A 26) = 3 ∧ g_n h (A 27) = 3 ∧ g_n h (A 29) = 2 ∧ g_n h (A 30) = 8
def Kr1 (A : Nat → Nat) (h : MH) : Prop := g_r h (A 0) 0 = some (A 1) ∧ g_r h (A 0) 1 = some (A 2) ∧ g_r h (A 0) 2 = some (A 5) ∧ g_r h (A 0) 3 = some (A 6) ∧ g_r h (A 0) 4 = some (A 7) ∧ g_r h (A 0) 5 = some (A 14) ∧ g_r h (A 0) 7 = some (A 15) ∧ g_r h (A 0) 8 = some (A 16) ∧ g_r h (A 0) 9 = some (A 17) ∧ g_r h (A 0) 10 = some (A 19) ∧ g_r h (A 1) 0 = some (A 3) ∧ g_r h (A 2) 0 = some (A 4) ∧ g_r h (A 5) 0 = some (A 8) ∧ g_r h (A 5) 1 = some (A 9) ∧ g_r h (A 6) 0 = some (A 10) ∧ g_r h (A 6) 1 = some (A 11) ∧ g_r h (A 7) 0 = some (A 12) ∧ g_r h (A 7) 1 = some (A 13) ∧ g_r h (A 8) 0 = some (A 1) ∧ g_r h (A 9) 0 = some (A 1) ∧ g_r h (A 10) 0 = some (A 1) ∧ g_r h (A 11) 0 = some (A 1) ∧ g_r h (A 12) 0 = some (A 1) ∧ g_r h (A 13) 0 = some (A 1) ∧ g_r h (A 14) 0 = some (A 2) ∧ g_r h (A 15) 0 = some (A 1) ∧ g_r h (A 16) 0 = some (A 2) ∧ g_r h (A 17) 0 = some (A 18) ∧ g_r h (A 19) 0 = some (A 20) ∧ g_r h (A 19) 1 = some (A 21) ∧ g_r h (A 22) 0 = some (A 23) ∧ g_r h (A 22) 1 = some (A 24) ∧ g_r h (A 22) 2 = some (A 25) ∧ g_r h (A 22) 3 = some (A 26) ∧ g_r h (A 22) 4 = some (A 27) ∧ g_r h (A 22) 5 = some (A 28) ∧ g_r h (A 22) 7 = some (A 29) ∧ g_r h (A 22) 8 = some (A 30) ∧ g_r h (A 25) 0 = some (A 31) ∧ g_r h (A 25) 1 = some (A 32) ∧ g_r h (A 25) 2 = some (A 33) ∧ g_r h (A 26) 0 = some (A 34) ∧ g_r h (A 26) 1 = some (A 35) ∧ g_r h (A 26) 2 = some (A 36) ∧ g_r h (A 29) 0 = some (A 37) ∧ g_r h (A 29) 1 = some (A 38)
def Cn (A : Nat → Nat) (h : MH) : Prop := g_i h (A 5) 2 = 1 ∧ g_i h (A 6) 2 = 1 ∧ g_i h (A 7) 2 = 0 ∧ g_i h (A 8) 1 = 1 ∧ g_i h (A 8) 2 = 5 ∧ g_i h (A 8) 3 = 0 ∧ g_i h (A 9) 1 = 1 ∧ g_i h (A 9) 2 = 5 ∧ g_i h (A 9) 3 = 1 ∧ g_i h (A 10) 1 = 6 ∧ g_i h (A 10) 2 = 3 ∧ g_i h (A 10) 3 = 0 ∧ g_i h (A 11) 1 = 6 ∧ g_i h (A 11) 2 = 3 ∧ g_i h (A 11) 3 = 1 ∧ g_i h (A 12) 1 = 9 ∧ g_i h (A 12) 2 = 6 ∧ g_i h (A 12) 3 = 0 ∧ g_i h (A 13) 1 = 9 ∧ g_i h (A 13) 2 = 6 ∧ g_i h (A 13) 3 = 1 ∧ g_i h (A 14) 1 = 1 ∧ g_i h (A 14) 2 = 10 ∧ g_i h (A 14) 3 = 0 ∧ g_i h (A 28) 0 = 1 ∧ g_i h (A 28) 1 = 10 ∧ g_i h (A 31) 0 = 1 ∧ g_i h (A 31) 1 = 5 ∧ g_i h (A 32) 0 = 6 ∧ g_i h (A 32) 1 = 3 ∧ g_i h (A 33) 0 = 9 ∧ g_i h (A 33) 1 = 6 ∧ g_i h (A 34) 0 = 1 ∧ g_i h (A 34) 1 = 5 ∧ g_i h (A 35) 0 = 6 ∧ g_i h (A 35) 1 = 3 ∧ g_i h (A 36) 0 = 9 ∧ g_i h (A 36) 1 = 6
def K (A : Nat → Nat) (h : MH) : Prop := inj40 A ∧ Kc1 A h ∧ Kz1 A h ∧ Kn1 A h ∧ Kr1 A h
def Vq0 (A : Nat → Nat) (h : MH) : Prop := cT h (A 5) (A 8) (A 9) = mT h (A 27) 0 (A 31) (A 34) ∧ cT h (A 5) (A 8) (A 9) ∈ QS0
def Vq1 (A : Nat → Nat) (h : MH) : Prop := cT h (A 6) (A 10) (A 11) = mT h (A 27) 1 (A 32) (A 35) ∧ cT h (A 6) (A 10) (A 11) ∈ QS1
def Vq2 (A : Nat → Nat) (h : MH) : Prop := cT h (A 7) (A 12) (A 13) = mT h (A 27) 2 (A 33) (A 36) ∧ cT h (A 7) (A 12) (A 13) ∈ QS2
def Vp (A : Nat → Nat) (h : MH) : Prop := (g_i h (A 14) 4 = g_i h (A 28) 3 ∧ g_i h (A 14) 5 = g_i h (A 28) 4 ∧ g_i h (A 14) 6 = g_i h (A 28) 5 ∧ g_i h (A 0) 6 = g_i h (A 22) 6) ∧ (g_i h (A 28) 3, g_i h (A 28) 4, g_i h (A 28) 5, g_i h (A 22) 6) ∈ PS
/-- a lens: it lies in its part of the row, its places in order -/
def lnOk (lo hi : Int) (x : Nat) (f n s p l m : Int32) : Prop := lo ≤ f.toInt ∧ 0 ≤ n.toInt ∧ f.toInt + n.toInt ≤ hi ∧ (s = 0 ∨ s = 1) ∧ (x = 0 → s = 1) ∧ 0 ≤ p.toInt ∧ p.toInt ≤ l.toInt ∧ l.toInt ≤ n.toInt ∧ -1 ≤ m.toInt ∧ m.toInt ≤ p.toInt
def Vl0 (A : Nat → Nat) (h : MH) : Prop := (g_i h (A 15) 1 = g_i h (A 37) 0 ∧ g_i h (A 15) 2 = g_i h (A 37) 1 ∧ g_i h (A 15) 3 = g_i h (A 37) 2 ∧ g_i h (A 15) 4 = g_i h (A 37) 3 ∧ g_i h (A 15) 5 = g_i h (A 37) 4 ∧ g_i h (A 15) 6 = g_i h (A 37) 5) ∧ lnOk 0 16 0 (g_i h (A 37) 0) (g_i h (A 37) 1) (g_i h (A 37) 2) (g_i h (A 37) 3) (g_i h (A 37) 4) (g_i h (A 37) 5)
def Vl1 (A : Nat → Nat) (h : MH) : Prop := (g_i h (A 16) 1 = g_i h (A 38) 0 ∧ g_i h (A 16) 2 = g_i h (A 38) 1 ∧ g_i h (A 16) 3 = g_i h (A 38) 2 ∧ g_i h (A 16) 4 = g_i h (A 38) 3 ∧ g_i h (A 16) 5 = g_i h (A 38) 4 ∧ g_i h (A 16) 6 = g_i h (A 38) 5) ∧ lnOk 11 35 1 (g_i h (A 38) 0) (g_i h (A 38) 1) (g_i h (A 38) 2) (g_i h (A 38) 3) (g_i h (A 38) 4) (g_i h (A 38) 5)
def Vlr (A : Nat → Nat) (h : MH) : Prop := ∀ k, k < 16 → g_l h (A 3) k = g_l h (A 23) k
def Vsr (A : Nat → Nat) (h : MH) : Prop := ∀ k, k < 36 → g_l h (A 4) k = (g_i h (A 24) k).toInt64 ∧ (g_i h (A 24) k).toInt16.toInt32 = g_i h (A 24) k
def Vc (A : Nat → Nat) (h : MH) : Prop := ∀ k, k < 8 → g_i h (A 18) k = g_i h (A 30) k
/-- how long a row of bytes a builder may have -/
def capOk (n : Nat) : Prop := n = 16 ∨ (34 ≤ n ∧ n ≤ 36) ∨ (70 ≤ n ∧ n ≤ 74) ∨ (142 ≤ n ∧ n ≤ 150)
/-- the builder of the class's texts: Latin-1, its row of bytes apart -/
def Tx (A : Nat → Nat) (h : MH) : Prop := ∃ v, g_r h (A 20) 0 = some v ∧ g_c h v = 103 ∧ g_z h ≤ v ∧ v < g_t h ∧ capOk (g_n h v) ∧ 1 ≤ g_n h v ∧ g_i h (A 20) 1 = 0 ∧ ¬ g_i h (A 20) 3 < 0 ∧ (g_i h (A 20) 3).toNatClampNeg ≤ g_n h v
def Rl (A : Nat → Nat) (h : MH) : Prop := K A h ∧ Cn A h ∧ Vq0 A h ∧ Vq1 A h ∧ Vq2 A h ∧ Vp A h ∧ Vl0 A h ∧ Vl1 A h ∧ Vlr A h ∧ Vsr A h ∧ Vc A h ∧ Tx A h
section
variable {A : Nat → Nat} {h : MH}
theorem K_pi {a k : Nat} {v : Int32} : K A (p_i h a k v) = K A h := id rfl
theorem K_pl {a k : Nat} {v : Int64} : K A (p_l h a k v) = K A h := id rfl
theorem K_pT {t : Nat} (ht : g_t h ≤ t) (k : K A h) : K A (p_T h t) := ⟨k.1, k.2.1, ⟨k.2.2.1.1, fun i hi => Nat.lt_of_lt_of_le (k.2.2.1.2 i hi) ht⟩, k.2.2.2⟩
theorem K_cW {q w r : Nat} {t : QT} : K A (cW h q w r t) = K A h := id rfl
theorem K_mW {a k w r : Nat} {t : QT} : K A (mW h a k w r t) = K A h := id rfl
theorem Vq0_pi (hA : inj40 A) {j k : Nat} {v : Int32} (hj : [0, 1, 2, 3, 4, 6, 7, 10, 11, 12, 13, 14, 15, 16, 17, 18, 19, 20, 21, 22, 23, 24, 25, 26, 28, 29, 30, 32, 33, 35, 36, 37, 38, 39].contains j = true) : Vq0 A (p_i h (A j) k v) = Vq0 A h := by
  have hj40 : j < 40 := by
    simp only [List.contains_eq_mem, decide_eq_true_eq] at hj
    have : ∀ x ∈ [0, 1, 2, 3, 4, 6, 7, 10, 11, 12, 13, 14, 15, 16, 17, 18, 19, 20, 21, 22, 23, 24, 25, 26, 28, 29, 30, 32, 33, 35, 36, 37, 38, 39], x < 40 := by decide
    exact this j hj
  have d5 : ¬ A 5 = A j := fun z => by have := (hA 5 j (by decide) (hj40)).mp z; subst this; simp at hj
  have d8 : ¬ A 8 = A j := fun z => by have := (hA 8 j (by decide) (hj40)).mp z; subst this; simp at hj
  have d9 : ¬ A 9 = A j := fun z => by have := (hA 9 j (by decide) (hj40)).mp z; subst this; simp at hj
  have d27 : ¬ A 27 = A j := fun z => by have := (hA 27 j (by decide) (hj40)).mp z; subst this; simp at hj
  have d31 : ¬ A 31 = A j := fun z => by have := (hA 31 j (by decide) (hj40)).mp z; subst this; simp at hj
  have d34 : ¬ A 34 = A j := fun z => by have := (hA 34 j (by decide) (hj40)).mp z; subst this; simp at hj
  simp only [Vq0, cT, mT, mi_pi, d5, d8, d9, d27, d31, d34, false_and, if_false]
theorem Vq0_pl {a k : Nat} {v : Int64} : Vq0 A (p_l h a k v) = Vq0 A h := id rfl
theorem Vq0_pT {t : Nat} : Vq0 A (p_T h t) = Vq0 A h := id rfl
theorem Vq0_pr {a k : Nat} {v : Option Nat} : Vq0 A (p_r h a k v) = Vq0 A h := id rfl
theorem Vq1_pi (hA : inj40 A) {j k : Nat} {v : Int32} (hj : [0, 1, 2, 3, 4, 5, 7, 8, 9, 12, 13, 14, 15, 16, 17, 18, 19, 20, 21, 22, 23, 24, 25, 26, 28, 29, 30, 31, 33, 34, 36, 37, 38, 39].contains j = true) : Vq1 A (p_i h (A j) k v) = Vq1 A h := by
  have hj40 : j < 40 := by
    simp only [List.contains_eq_mem, decide_eq_true_eq] at hj
    have : ∀ x ∈ [0, 1, 2, 3, 4, 5, 7, 8, 9, 12, 13, 14, 15, 16, 17, 18, 19, 20, 21, 22, 23, 24, 25, 26, 28, 29, 30, 31, 33, 34, 36, 37, 38, 39], x < 40 := by decide
    exact this j hj
  have d6 : ¬ A 6 = A j := fun z => by have := (hA 6 j (by decide) (hj40)).mp z; subst this; simp at hj
  have d10 : ¬ A 10 = A j := fun z => by have := (hA 10 j (by decide) (hj40)).mp z; subst this; simp at hj
  have d11 : ¬ A 11 = A j := fun z => by have := (hA 11 j (by decide) (hj40)).mp z; subst this; simp at hj
  have d27 : ¬ A 27 = A j := fun z => by have := (hA 27 j (by decide) (hj40)).mp z; subst this; simp at hj
  have d32 : ¬ A 32 = A j := fun z => by have := (hA 32 j (by decide) (hj40)).mp z; subst this; simp at hj
  have d35 : ¬ A 35 = A j := fun z => by have := (hA 35 j (by decide) (hj40)).mp z; subst this; simp at hj
  simp only [Vq1, cT, mT, mi_pi, d6, d10, d11, d27, d32, d35, false_and, if_false]
theorem Vq1_pl {a k : Nat} {v : Int64} : Vq1 A (p_l h a k v) = Vq1 A h := id rfl
theorem Vq1_pT {t : Nat} : Vq1 A (p_T h t) = Vq1 A h := id rfl
theorem Vq1_pr {a k : Nat} {v : Option Nat} : Vq1 A (p_r h a k v) = Vq1 A h := id rfl
theorem Vq2_pi (hA : inj40 A) {j k : Nat} {v : Int32} (hj : [0, 1, 2, 3, 4, 5, 6, 8, 9, 10, 11, 14, 15, 16, 17, 18, 19, 20, 21, 22, 23, 24, 25, 26, 28, 29, 30, 31, 32, 34, 35, 37, 38, 39].contains j = true) : Vq2 A (p_i h (A j) k v) = Vq2 A h := by
  have hj40 : j < 40 := by
    simp only [List.contains_eq_mem, decide_eq_true_eq] at hj
    have : ∀ x ∈ [0, 1, 2, 3, 4, 5, 6, 8, 9, 10, 11, 14, 15, 16, 17, 18, 19, 20, 21, 22, 23, 24, 25, 26, 28, 29, 30, 31, 32, 34, 35, 37, 38, 39], x < 40 := by decide
    exact this j hj
  have d7 : ¬ A 7 = A j := fun z => by have := (hA 7 j (by decide) (hj40)).mp z; subst this; simp at hj
  have d12 : ¬ A 12 = A j := fun z => by have := (hA 12 j (by decide) (hj40)).mp z; subst this; simp at hj
  have d13 : ¬ A 13 = A j := fun z => by have := (hA 13 j (by decide) (hj40)).mp z; subst this; simp at hj
  have d27 : ¬ A 27 = A j := fun z => by have := (hA 27 j (by decide) (hj40)).mp z; subst this; simp at hj
  have d33 : ¬ A 33 = A j := fun z => by have := (hA 33 j (by decide) (hj40)).mp z; subst this; simp at hj
  have d36 : ¬ A 36 = A j := fun z => by have := (hA 36 j (by decide) (hj40)).mp z; subst this; simp at hj
  simp only [Vq2, cT, mT, mi_pi, d7, d12, d13, d27, d33, d36, false_and, if_false]
theorem Vq2_pl {a k : Nat} {v : Int64} : Vq2 A (p_l h a k v) = Vq2 A h := id rfl
theorem Vq2_pT {t : Nat} : Vq2 A (p_T h t) = Vq2 A h := id rfl
theorem Vq2_pr {a k : Nat} {v : Option Nat} : Vq2 A (p_r h a k v) = Vq2 A h := id rfl
theorem Vp_pi (hA : inj40 A) {j k : Nat} {v : Int32} (hj : [1, 2, 3, 4, 5, 6, 7, 8, 9, 10, 11, 12, 13, 15, 16, 17, 18, 19, 20, 21, 23, 24, 25, 26, 27, 29, 30, 31, 32, 33, 34, 35, 36, 37, 38, 39].contains j = true) : Vp A (p_i h (A j) k v) = Vp A h := by
  have hj40 : j < 40 := by
    simp only [List.contains_eq_mem, decide_eq_true_eq] at hj
    have : ∀ x ∈ [1, 2, 3, 4, 5, 6, 7, 8, 9, 10, 11, 12, 13, 15, 16, 17, 18, 19, 20, 21, 23, 24, 25, 26, 27, 29, 30, 31, 32, 33, 34, 35, 36, 37, 38, 39], x < 40 := by decide
    exact this j hj
  have d14 : ¬ A 14 = A j := fun z => by have := (hA 14 j (by decide) (hj40)).mp z; subst this; simp at hj
  have d28 : ¬ A 28 = A j := fun z => by have := (hA 28 j (by decide) (hj40)).mp z; subst this; simp at hj
  have d0 : ¬ A 0 = A j := fun z => by have := (hA 0 j (by decide) (hj40)).mp z; subst this; simp at hj
  have d22 : ¬ A 22 = A j := fun z => by have := (hA 22 j (by decide) (hj40)).mp z; subst this; simp at hj
  simp only [Vp, mi_pi, d14, d28, d0, d22, false_and, if_false]
theorem Vp_pl {a k : Nat} {v : Int64} : Vp A (p_l h a k v) = Vp A h := id rfl
theorem Vp_pT {t : Nat} : Vp A (p_T h t) = Vp A h := id rfl
theorem Vp_pr {a k : Nat} {v : Option Nat} : Vp A (p_r h a k v) = Vp A h := id rfl
theorem Vl0_pi (hA : inj40 A) {j k : Nat} {v : Int32} (hj : [0, 1, 2, 3, 4, 5, 6, 7, 8, 9, 10, 11, 12, 13, 14, 16, 17, 18, 19, 20, 21, 22, 23, 24, 25, 26, 27, 28, 29, 30, 31, 32, 33, 34, 35, 36, 38, 39].contains j = true) : Vl0 A (p_i h (A j) k v) = Vl0 A h := by
  have hj40 : j < 40 := by
    simp only [List.contains_eq_mem, decide_eq_true_eq] at hj
    have : ∀ x ∈ [0, 1, 2, 3, 4, 5, 6, 7, 8, 9, 10, 11, 12, 13, 14, 16, 17, 18, 19, 20, 21, 22, 23, 24, 25, 26, 27, 28, 29, 30, 31, 32, 33, 34, 35, 36, 38, 39], x < 40 := by decide
    exact this j hj
  have d15 : ¬ A 15 = A j := fun z => by have := (hA 15 j (by decide) (hj40)).mp z; subst this; simp at hj
  have d37 : ¬ A 37 = A j := fun z => by have := (hA 37 j (by decide) (hj40)).mp z; subst this; simp at hj
  simp only [Vl0, mi_pi, d15, d37, false_and, if_false]
theorem Vl0_pl {a k : Nat} {v : Int64} : Vl0 A (p_l h a k v) = Vl0 A h := id rfl
theorem Vl0_pT {t : Nat} : Vl0 A (p_T h t) = Vl0 A h := id rfl
theorem Vl0_pr {a k : Nat} {v : Option Nat} : Vl0 A (p_r h a k v) = Vl0 A h := id rfl
theorem Vl1_pi (hA : inj40 A) {j k : Nat} {v : Int32} (hj : [0, 1, 2, 3, 4, 5, 6, 7, 8, 9, 10, 11, 12, 13, 14, 15, 17, 18, 19, 20, 21, 22, 23, 24, 25, 26, 27, 28, 29, 30, 31, 32, 33, 34, 35, 36, 37, 39].contains j = true) : Vl1 A (p_i h (A j) k v) = Vl1 A h := by
  have hj40 : j < 40 := by
    simp only [List.contains_eq_mem, decide_eq_true_eq] at hj
    have : ∀ x ∈ [0, 1, 2, 3, 4, 5, 6, 7, 8, 9, 10, 11, 12, 13, 14, 15, 17, 18, 19, 20, 21, 22, 23, 24, 25, 26, 27, 28, 29, 30, 31, 32, 33, 34, 35, 36, 37, 39], x < 40 := by decide
    exact this j hj
  have d16 : ¬ A 16 = A j := fun z => by have := (hA 16 j (by decide) (hj40)).mp z; subst this; simp at hj
  have d38 : ¬ A 38 = A j := fun z => by have := (hA 38 j (by decide) (hj40)).mp z; subst this; simp at hj
  simp only [Vl1, mi_pi, d16, d38, false_and, if_false]
theorem Vl1_pl {a k : Nat} {v : Int64} : Vl1 A (p_l h a k v) = Vl1 A h := id rfl
theorem Vl1_pT {t : Nat} : Vl1 A (p_T h t) = Vl1 A h := id rfl
theorem Vl1_pr {a k : Nat} {v : Option Nat} : Vl1 A (p_r h a k v) = Vl1 A h := id rfl
theorem Vlr_pi (hA : inj40 A) {j k : Nat} {v : Int32} (hj : [0, 1, 2, 3, 4, 5, 6, 7, 8, 9, 10, 11, 12, 13, 14, 15, 16, 17, 18, 19, 20, 21, 22, 23, 24, 25, 26, 27, 28, 29, 30, 31, 32, 33, 34, 35, 36, 37, 38, 39].contains j = true) : Vlr A (p_i h (A j) k v) = Vlr A h := by
  have hj40 : j < 40 := by
    simp only [List.contains_eq_mem, decide_eq_true_eq] at hj
    have : ∀ x ∈ [0, 1, 2, 3, 4, 5, 6, 7, 8, 9, 10, 11, 12, 13, 14, 15, 16, 17, 18, 19, 20, 21, 22, 23, 24, 25, 26, 27, 28, 29, 30, 31, 32, 33, 34, 35, 36, 37, 38, 39], x < 40 := by decide
    exact this j hj

  simp only [Vlr, ml_pi]
theorem Vlr_pl (hA : inj40 A) {j k : Nat} {v : Int64} (hj : [0, 1, 2, 4, 5, 6, 7, 8, 9, 10, 11, 12, 13, 14, 15, 16, 17, 18, 19, 20, 21, 22, 24, 25, 26, 27, 28, 29, 30, 31, 32, 33, 34, 35, 36, 37, 38, 39].contains j = true) : Vlr A (p_l h (A j) k v) = Vlr A h := by
  have hj40 : j < 40 := by
    simp only [List.contains_eq_mem, decide_eq_true_eq] at hj
    have : ∀ x ∈ [0, 1, 2, 4, 5, 6, 7, 8, 9, 10, 11, 12, 13, 14, 15, 16, 17, 18, 19, 20, 21, 22, 24, 25, 26, 27, 28, 29, 30, 31, 32, 33, 34, 35, 36, 37, 38, 39], x < 40 := by decide
    exact this j hj
  have d3 : ¬ A 3 = A j := fun z => by have := (hA 3 j (by decide) hj40).mp z; subst this; simp at hj
  have d23 : ¬ A 23 = A j := fun z => by have := (hA 23 j (by decide) hj40).mp z; subst this; simp at hj
  simp only [Vlr, ml_pl, d3, d23, false_and, if_false]
theorem Vlr_pT {t : Nat} : Vlr A (p_T h t) = Vlr A h := id rfl
theorem Vlr_pr {a k : Nat} {v : Option Nat} : Vlr A (p_r h a k v) = Vlr A h := id rfl
theorem Vsr_pi (hA : inj40 A) {j k : Nat} {v : Int32} (hj : [0, 1, 2, 3, 4, 5, 6, 7, 8, 9, 10, 11, 12, 13, 14, 15, 16, 17, 18, 19, 20, 21, 22, 23, 25, 26, 27, 28, 29, 30, 31, 32, 33, 34, 35, 36, 37, 38, 39].contains j = true) : Vsr A (p_i h (A j) k v) = Vsr A h := by
  have hj40 : j < 40 := by
    simp only [List.contains_eq_mem, decide_eq_true_eq] at hj
    have : ∀ x ∈ [0, 1, 2, 3, 4, 5, 6, 7, 8, 9, 10, 11, 12, 13, 14, 15, 16, 17, 18, 19, 20, 21, 22, 23, 25, 26, 27, 28, 29, 30, 31, 32, 33, 34, 35, 36, 37, 38, 39], x < 40 := by decide
    exact this j hj
  have d24 : ¬ A 24 = A j := fun z => by have := (hA 24 j (by decide) (hj40)).mp z; subst this; simp at hj
  simp only [Vsr, mi_pi, ml_pi, d24, false_and, if_false]
theorem Vsr_pl (hA : inj40 A) {j k : Nat} {v : Int64} (hj : [0, 1, 2, 3, 5, 6, 7, 8, 9, 10, 11, 12, 13, 14, 15, 16, 17, 18, 19, 20, 21, 22, 23, 24, 25, 26, 27, 28, 29, 30, 31, 32, 33, 34, 35, 36, 37, 38, 39].contains j = true) : Vsr A (p_l h (A j) k v) = Vsr A h := by
  have hj40 : j < 40 := by
    simp only [List.contains_eq_mem, decide_eq_true_eq] at hj
    have : ∀ x ∈ [0, 1, 2, 3, 5, 6, 7, 8, 9, 10, 11, 12, 13, 14, 15, 16, 17, 18, 19, 20, 21, 22, 23, 24, 25, 26, 27, 28, 29, 30, 31, 32, 33, 34, 35, 36, 37, 38, 39], x < 40 := by decide
    exact this j hj
  have d4 : ¬ A 4 = A j := fun z => by have := (hA 4 j (by decide) hj40).mp z; subst this; simp at hj
  simp only [Vsr, mi_pl, ml_pl, d4, false_and, if_false]
theorem Vsr_pT {t : Nat} : Vsr A (p_T h t) = Vsr A h := id rfl
theorem Vsr_pr {a k : Nat} {v : Option Nat} : Vsr A (p_r h a k v) = Vsr A h := id rfl
theorem Vc_pi (hA : inj40 A) {j k : Nat} {v : Int32} (hj : [0, 1, 2, 3, 4, 5, 6, 7, 8, 9, 10, 11, 12, 13, 14, 15, 16, 17, 19, 20, 21, 22, 23, 24, 25, 26, 27, 28, 29, 31, 32, 33, 34, 35, 36, 37, 38, 39].contains j = true) : Vc A (p_i h (A j) k v) = Vc A h := by
  have hj40 : j < 40 := by
    simp only [List.contains_eq_mem, decide_eq_true_eq] at hj
    have : ∀ x ∈ [0, 1, 2, 3, 4, 5, 6, 7, 8, 9, 10, 11, 12, 13, 14, 15, 16, 17, 19, 20, 21, 22, 23, 24, 25, 26, 27, 28, 29, 31, 32, 33, 34, 35, 36, 37, 38, 39], x < 40 := by decide
    exact this j hj
  have d18 : ¬ A 18 = A j := fun z => by have := (hA 18 j (by decide) (hj40)).mp z; subst this; simp at hj
  have d30 : ¬ A 30 = A j := fun z => by have := (hA 30 j (by decide) (hj40)).mp z; subst this; simp at hj
  simp only [Vc, mi_pi, d18, d30, false_and, if_false]
theorem Vc_pl {a k : Nat} {v : Int64} : Vc A (p_l h a k v) = Vc A h := id rfl
theorem Vc_pT {t : Nat} : Vc A (p_T h t) = Vc A h := id rfl
theorem Cn_pi (hA : inj40 A) {j k : Nat} {v : Int32} (hj : [0, 1, 2, 3, 4, 15, 16, 17, 18, 19, 20, 21, 22, 23, 24, 25, 26, 27, 29, 30, 37, 38, 39].contains j = true) : Cn A (p_i h (A j) k v) = Cn A h := by
  have hj40 : j < 40 := by
    simp only [List.contains_eq_mem, decide_eq_true_eq] at hj
    have : ∀ x ∈ [0, 1, 2, 3, 4, 15, 16, 17, 18, 19, 20, 21, 22, 23, 24, 25, 26, 27, 29, 30, 37, 38, 39], x < 40 := by decide
    exact this j hj
  have d5 : ¬ A 5 = A j := fun z => by have := (hA 5 j (by decide) (hj40)).mp z; subst this; simp at hj
  have d6 : ¬ A 6 = A j := fun z => by have := (hA 6 j (by decide) (hj40)).mp z; subst this; simp at hj
  have d7 : ¬ A 7 = A j := fun z => by have := (hA 7 j (by decide) (hj40)).mp z; subst this; simp at hj
  have d8 : ¬ A 8 = A j := fun z => by have := (hA 8 j (by decide) (hj40)).mp z; subst this; simp at hj
  have d9 : ¬ A 9 = A j := fun z => by have := (hA 9 j (by decide) (hj40)).mp z; subst this; simp at hj
  have d10 : ¬ A 10 = A j := fun z => by have := (hA 10 j (by decide) (hj40)).mp z; subst this; simp at hj
  have d11 : ¬ A 11 = A j := fun z => by have := (hA 11 j (by decide) (hj40)).mp z; subst this; simp at hj
  have d12 : ¬ A 12 = A j := fun z => by have := (hA 12 j (by decide) (hj40)).mp z; subst this; simp at hj
  have d13 : ¬ A 13 = A j := fun z => by have := (hA 13 j (by decide) (hj40)).mp z; subst this; simp at hj
  have d14 : ¬ A 14 = A j := fun z => by have := (hA 14 j (by decide) (hj40)).mp z; subst this; simp at hj
  have d28 : ¬ A 28 = A j := fun z => by have := (hA 28 j (by decide) (hj40)).mp z; subst this; simp at hj
  have d31 : ¬ A 31 = A j := fun z => by have := (hA 31 j (by decide) (hj40)).mp z; subst this; simp at hj
  have d32 : ¬ A 32 = A j := fun z => by have := (hA 32 j (by decide) (hj40)).mp z; subst this; simp at hj
  have d33 : ¬ A 33 = A j := fun z => by have := (hA 33 j (by decide) (hj40)).mp z; subst this; simp at hj
  have d34 : ¬ A 34 = A j := fun z => by have := (hA 34 j (by decide) (hj40)).mp z; subst this; simp at hj
  have d35 : ¬ A 35 = A j := fun z => by have := (hA 35 j (by decide) (hj40)).mp z; subst this; simp at hj
  have d36 : ¬ A 36 = A j := fun z => by have := (hA 36 j (by decide) (hj40)).mp z; subst this; simp at hj
  simp only [Cn, mi_pi, d5, d6, d7, d8, d9, d10, d11, d12, d13, d14, d28, d31, d32, d33, d34, d35, d36, false_and, if_false]
theorem Cn_pl {a k : Nat} {v : Int64} : Cn A (p_l h a k v) = Cn A h := id rfl
theorem Cn_pT {t : Nat} : Cn A (p_T h t) = Cn A h := id rfl
theorem Tx_pi (hA : inj40 A) {j k : Nat} {v : Int32} (hj : [0, 1, 2, 3, 4, 5, 6, 7, 8, 9, 10, 11, 12, 13, 14, 15, 16, 17, 18, 19, 21, 22, 23, 24, 25, 26, 27, 28, 29, 30, 31, 32, 33, 34, 35, 36, 37, 38, 39].contains j = true) : Tx A (p_i h (A j) k v) = Tx A h := by
  have hj40 : j < 40 := by
    simp only [List.contains_eq_mem, decide_eq_true_eq] at hj
    have : ∀ x ∈ [0, 1, 2, 3, 4, 5, 6, 7, 8, 9, 10, 11, 12, 13, 14, 15, 16, 17, 18, 19, 21, 22, 23, 24, 25, 26, 27, 28, 29, 30, 31, 32, 33, 34, 35, 36, 37, 38, 39], x < 40 := by decide
    exact this j hj
  have d20 : ¬ A 20 = A j := fun z => by have := (hA 20 j (by decide) (hj40)).mp z; subst this; simp at hj
  simp only [Tx, mi_pi, mr_pi, mc_pi, mz_pi, mt_pi, mn_pi, d20, false_and, if_false]
theorem Tx_pl {a k : Nat} {v : Int64} : Tx A (p_l h a k v) = Tx A h := id rfl
theorem Tx_pT {t : Nat} (ht : g_t h ≤ t) (k : Tx A h) : Tx A (p_T h t) := by
  obtain ⟨v, a1, a2, a3, a4, a5⟩ := k
  exact ⟨v, a1, a2, a3, Nat.lt_of_lt_of_le a4 ht, a5⟩
theorem Vp_thr (hA : inj40 A) {v : Int32} : Vp A (p_i h (A 22) 9 v) = Vp A h := by
  have d14 : ¬ A 14 = A 22 := fun z => absurd ((hA 14 22 (by decide) (by decide)).mp z) (by decide)
  have d28 : ¬ A 28 = A 22 := fun z => absurd ((hA 28 22 (by decide) (by decide)).mp z) (by decide)
  have d0 : ¬ A 0 = A 22 := fun z => absurd ((hA 0 22 (by decide) (by decide)).mp z) (by decide)
  simp only [Vp, mi_pi, d14, d28, d0, if_false, Nat.reduceEqDiff, and_false]
theorem Vq1_cW0 (hA : inj40 A) {t : QT} : Vq1 A (cW h (A 5) (A 8) (A 9) t) = Vq1 A h := by simp only [cW]; repeat rw [Vq1_pi hA (by decide)]
theorem Vq1_mW0 (hA : inj40 A) {t : QT} : Vq1 A (mW h (A 27) 0 (A 31) (A 34) t) = Vq1 A h := by
  simp only [mW, Vq1, cT, mT, mi_pi, (hA 6 27 (by decide) (by decide)), (hA 6 31 (by decide) (by decide)), (hA 6 34 (by decide) (by decide)), (hA 10 27 (by decide) (by decide)), (hA 10 31 (by decide) (by decide)), (hA 10 34 (by decide) (by decide)), (hA 11 27 (by decide) (by decide)), (hA 11 31 (by decide) (by decide)), (hA 11 34 (by decide) (by decide)), (hA 27 31 (by decide) (by decide)), (hA 27 34 (by decide) (by decide)), (hA 32 27 (by decide) (by decide)), (hA 32 31 (by decide) (by decide)), (hA 32 34 (by decide) (by decide)), (hA 35 27 (by decide) (by decide)), (hA 35 31 (by decide) (by decide)), (hA 35 34 (by decide) (by decide)), Nat.reduceEqDiff, and_false, false_and, if_false]
theorem Vq2_cW0 (hA : inj40 A) {t : QT} : Vq2 A (cW h (A 5) (A 8) (A 9) t) = Vq2 A h := by simp only [cW]; repeat rw [Vq2_pi hA (by decide)]
theorem Vq2_mW0 (hA : inj40 A) {t : QT} : Vq2 A (mW h (A 27) 0 (A 31) (A 34) t) = Vq2 A h := by
  simp only [mW, Vq2, cT, mT, mi_pi, (hA 7 27 (by decide) (by decide)), (hA 7 31 (by decide) (by decide)), (hA 7 34 (by decide) (by decide)), (hA 12 27 (by decide) (by decide)), (hA 12 31 (by decide) (by decide)), (hA 12 34 (by decide) (by decide)), (hA 13 27 (by decide) (by decide)), (hA 13 31 (by decide) (by decide)), (hA 13 34 (by decide) (by decide)), (hA 27 31 (by decide) (by decide)), (hA 27 34 (by decide) (by decide)), (hA 33 27 (by decide) (by decide)), (hA 33 31 (by decide) (by decide)), (hA 33 34 (by decide) (by decide)), (hA 36 27 (by decide) (by decide)), (hA 36 31 (by decide) (by decide)), (hA 36 34 (by decide) (by decide)), Nat.reduceEqDiff, and_false, false_and, if_false]
theorem Vp_cW0 (hA : inj40 A) {t : QT} : Vp A (cW h (A 5) (A 8) (A 9) t) = Vp A h := by simp only [cW]; repeat rw [Vp_pi hA (by decide)]
theorem Vp_mW0 (hA : inj40 A) {t : QT} : Vp A (mW h (A 27) 0 (A 31) (A 34) t) = Vp A h := by simp only [mW]; repeat rw [Vp_pi hA (by decide)]
theorem Vl0_cW0 (hA : inj40 A) {t : QT} : Vl0 A (cW h (A 5) (A 8) (A 9) t) = Vl0 A h := by simp only [cW]; repeat rw [Vl0_pi hA (by decide)]
theorem Vl0_mW0 (hA : inj40 A) {t : QT} : Vl0 A (mW h (A 27) 0 (A 31) (A 34) t) = Vl0 A h := by simp only [mW]; repeat rw [Vl0_pi hA (by decide)]
theorem Vl1_cW0 (hA : inj40 A) {t : QT} : Vl1 A (cW h (A 5) (A 8) (A 9) t) = Vl1 A h := by simp only [cW]; repeat rw [Vl1_pi hA (by decide)]
theorem Vl1_mW0 (hA : inj40 A) {t : QT} : Vl1 A (mW h (A 27) 0 (A 31) (A 34) t) = Vl1 A h := by simp only [mW]; repeat rw [Vl1_pi hA (by decide)]
theorem Vlr_cW0 (hA : inj40 A) {t : QT} : Vlr A (cW h (A 5) (A 8) (A 9) t) = Vlr A h := by simp only [cW]; repeat rw [Vlr_pi hA (by decide)]
theorem Vlr_mW0 (hA : inj40 A) {t : QT} : Vlr A (mW h (A 27) 0 (A 31) (A 34) t) = Vlr A h := by simp only [mW]; repeat rw [Vlr_pi hA (by decide)]
theorem Vsr_cW0 (hA : inj40 A) {t : QT} : Vsr A (cW h (A 5) (A 8) (A 9) t) = Vsr A h := by simp only [cW]; repeat rw [Vsr_pi hA (by decide)]
theorem Vsr_mW0 (hA : inj40 A) {t : QT} : Vsr A (mW h (A 27) 0 (A 31) (A 34) t) = Vsr A h := by simp only [mW]; repeat rw [Vsr_pi hA (by decide)]
theorem Cn_cW0 (hA : inj40 A) {t : QT} : Cn A (cW h (A 5) (A 8) (A 9) t) = Cn A h := by
  simp only [Cn, cW, mi_pi, Nat.reduceEqDiff, and_false, if_false, false_and, (hA 5 8 (by decide) (by decide)), (hA 5 9 (by decide) (by decide)), (hA 6 5 (by decide) (by decide)), (hA 6 8 (by decide) (by decide)), (hA 6 9 (by decide) (by decide)), (hA 7 5 (by decide) (by decide)), (hA 7 8 (by decide) (by decide)), (hA 7 9 (by decide) (by decide)), (hA 8 5 (by decide) (by decide)), (hA 8 9 (by decide) (by decide)), (hA 9 5 (by decide) (by decide)), (hA 9 8 (by decide) (by decide)), (hA 10 5 (by decide) (by decide)), (hA 10 8 (by decide) (by decide)), (hA 10 9 (by decide) (by decide)), (hA 11 5 (by decide) (by decide)), (hA 11 8 (by decide) (by decide)), (hA 11 9 (by decide) (by decide)), (hA 12 5 (by decide) (by decide)), (hA 12 8 (by decide) (by decide)), (hA 12 9 (by decide) (by decide)), (hA 13 5 (by decide) (by decide)), (hA 13 8 (by decide) (by decide)), (hA 13 9 (by decide) (by decide)), (hA 14 5 (by decide) (by decide)), (hA 14 8 (by decide) (by decide)), (hA 14 9 (by decide) (by decide)), (hA 28 5 (by decide) (by decide)), (hA 28 8 (by decide) (by decide)), (hA 28 9 (by decide) (by decide)), (hA 31 5 (by decide) (by decide)), (hA 31 8 (by decide) (by decide)), (hA 31 9 (by decide) (by decide)), (hA 32 5 (by decide) (by decide)), (hA 32 8 (by decide) (by decide)), (hA 32 9 (by decide) (by decide)), (hA 33 5 (by decide) (by decide)), (hA 33 8 (by decide) (by decide)), (hA 33 9 (by decide) (by decide)), (hA 34 5 (by decide) (by decide)), (hA 34 8 (by decide) (by decide)), (hA 34 9 (by decide) (by decide)), (hA 35 5 (by decide) (by decide)), (hA 35 8 (by decide) (by decide)), (hA 35 9 (by decide) (by decide)), (hA 36 5 (by decide) (by decide)), (hA 36 8 (by decide) (by decide)), (hA 36 9 (by decide) (by decide))]
theorem Cn_mW0 (hA : inj40 A) {t : QT} : Cn A (mW h (A 27) 0 (A 31) (A 34) t) = Cn A h := by
  simp only [Cn, mW, mi_pi, Nat.reduceEqDiff, and_false, if_false, false_and, (hA 5 27 (by decide) (by decide)), (hA 5 31 (by decide) (by decide)), (hA 5 34 (by decide) (by decide)), (hA 6 27 (by decide) (by decide)), (hA 6 31 (by decide) (by decide)), (hA 6 34 (by decide) (by decide)), (hA 7 27 (by decide) (by decide)), (hA 7 31 (by decide) (by decide)), (hA 7 34 (by decide) (by decide)), (hA 8 27 (by decide) (by decide)), (hA 8 31 (by decide) (by decide)), (hA 8 34 (by decide) (by decide)), (hA 9 27 (by decide) (by decide)), (hA 9 31 (by decide) (by decide)), (hA 9 34 (by decide) (by decide)), (hA 10 27 (by decide) (by decide)), (hA 10 31 (by decide) (by decide)), (hA 10 34 (by decide) (by decide)), (hA 11 27 (by decide) (by decide)), (hA 11 31 (by decide) (by decide)), (hA 11 34 (by decide) (by decide)), (hA 12 27 (by decide) (by decide)), (hA 12 31 (by decide) (by decide)), (hA 12 34 (by decide) (by decide)), (hA 13 27 (by decide) (by decide)), (hA 13 31 (by decide) (by decide)), (hA 13 34 (by decide) (by decide)), (hA 14 27 (by decide) (by decide)), (hA 14 31 (by decide) (by decide)), (hA 14 34 (by decide) (by decide)), (hA 28 27 (by decide) (by decide)), (hA 28 31 (by decide) (by decide)), (hA 28 34 (by decide) (by decide)), (hA 31 27 (by decide) (by decide)), (hA 31 34 (by decide) (by decide)), (hA 32 27 (by decide) (by decide)), (hA 32 31 (by decide) (by decide)), (hA 32 34 (by decide) (by decide)), (hA 33 27 (by decide) (by decide)), (hA 33 31 (by decide) (by decide)), (hA 33 34 (by decide) (by decide)), (hA 34 27 (by decide) (by decide)), (hA 34 31 (by decide) (by decide)), (hA 35 27 (by decide) (by decide)), (hA 35 31 (by decide) (by decide)), (hA 35 34 (by decide) (by decide)), (hA 36 27 (by decide) (by decide)), (hA 36 31 (by decide) (by decide)), (hA 36 34 (by decide) (by decide))]
theorem Tx_cW0 (hA : inj40 A) {t : QT} : Tx A (cW h (A 5) (A 8) (A 9) t) = Tx A h := by simp only [cW]; repeat rw [Tx_pi hA (by decide)]
theorem Tx_mW0 (hA : inj40 A) {t : QT} : Tx A (mW h (A 27) 0 (A 31) (A 34) t) = Tx A h := by simp only [mW]; repeat rw [Tx_pi hA (by decide)]
theorem cT0_pi (hA : inj40 A) {j k : Nat} {v : Int32} (hj : [0, 1, 2, 3, 4, 6, 7, 10, 11, 12, 13, 14, 15, 16, 17, 18, 19, 20, 21, 22, 23, 24, 25, 26, 27, 28, 29, 30, 31, 32, 33, 34, 35, 36, 37, 38, 39].contains j = true) : cT (p_i h (A j) k v) (A 5) (A 8) (A 9) = cT h (A 5) (A 8) (A 9) := by
  have hj40 : j < 40 := by
    simp only [List.contains_eq_mem, decide_eq_true_eq] at hj
    have : ∀ x ∈ [0, 1, 2, 3, 4, 6, 7, 10, 11, 12, 13, 14, 15, 16, 17, 18, 19, 20, 21, 22, 23, 24, 25, 26, 27, 28, 29, 30, 31, 32, 33, 34, 35, 36, 37, 38, 39], x < 40 := by decide
    exact this j hj
  have d5 : ¬ A 5 = A j := fun z => by have := (hA 5 j (by decide) hj40).mp z; subst this; simp at hj
  have d8 : ¬ A 8 = A j := fun z => by have := (hA 8 j (by decide) hj40).mp z; subst this; simp at hj
  have d9 : ¬ A 9 = A j := fun z => by have := (hA 9 j (by decide) hj40).mp z; subst this; simp at hj
  simp only [cT, mi_pi, d5, d8, d9, false_and, if_false]
theorem cT0_pl {a k : Nat} {v : Int64} : cT (p_l h a k v) (A 5) (A 8) (A 9) = cT h (A 5) (A 8) (A 9) := id rfl
theorem cT0_cW (hA : inj40 A) {t : QT} : cT (cW h (A 5) (A 8) (A 9) t) (A 5) (A 8) (A 9) = t := cW_cT (fun z => absurd ((hA 8 9 (by decide) (by decide)).mp z) (by decide)) (fun z => absurd ((hA 5 8 (by decide) (by decide)).mp z) (by decide)) (fun z => absurd ((hA 5 9 (by decide) (by decide)).mp z) (by decide)) (fun z => absurd ((hA 9 8 (by decide) (by decide)).mp z) (by decide)) (fun z => absurd ((hA 8 5 (by decide) (by decide)).mp z) (by decide)) (fun z => absurd ((hA 9 5 (by decide) (by decide)).mp z) (by decide)) t
theorem mT0_mW (hA : inj40 A) {t : QT} : mT (mW h (A 27) 0 (A 31) (A 34) t) (A 27) 0 (A 31) (A 34) = t := mW_mT (fun z => absurd ((hA 31 34 (by decide) (by decide)).mp z) (by decide)) (fun z => absurd ((hA 27 31 (by decide) (by decide)).mp z) (by decide)) (fun z => absurd ((hA 27 34 (by decide) (by decide)).mp z) (by decide)) (fun z => absurd ((hA 34 31 (by decide) (by decide)).mp z) (by decide)) (fun z => absurd ((hA 31 27 (by decide) (by decide)).mp z) (by decide)) (fun z => absurd ((hA 34 27 (by decide) (by decide)).mp z) (by decide)) t
theorem cT0_mW (hA : inj40 A) {t : QT} : cT (mW h (A 27) 0 (A 31) (A 34) t) (A 5) (A 8) (A 9) = cT h (A 5) (A 8) (A 9) := by
  simp only [mW]; repeat rw [cT0_pi hA (by decide)]
theorem Vq0_mW (hA : inj40 A) {t : QT} : Vq0 A (mW h (A 27) 0 (A 31) (A 34) t) = (cT h (A 5) (A 8) (A 9) = t ∧ cT h (A 5) (A 8) (A 9) ∈ QS0) := by
  simp only [Vq0, cT0_mW hA, mT0_mW hA]
theorem mT0_pi (hA : inj40 A) {j k : Nat} {v : Int32} (hj : [0, 1, 2, 3, 4, 5, 6, 7, 8, 9, 10, 11, 12, 13, 14, 15, 16, 17, 18, 19, 20, 21, 22, 23, 24, 25, 26, 28, 29, 30, 32, 33, 35, 36, 37, 38, 39].contains j = true) : mT (p_i h (A j) k v) (A 27) 0 (A 31) (A 34) = mT h (A 27) 0 (A 31) (A 34) := by
  have hj40 : j < 40 := by
    simp only [List.contains_eq_mem, decide_eq_true_eq] at hj
    have : ∀ x ∈ [0, 1, 2, 3, 4, 5, 6, 7, 8, 9, 10, 11, 12, 13, 14, 15, 16, 17, 18, 19, 20, 21, 22, 23, 24, 25, 26, 28, 29, 30, 32, 33, 35, 36, 37, 38, 39], x < 40 := by decide
    exact this j hj
  have d27 : ¬ A 27 = A j := fun z => by have := (hA 27 j (by decide) hj40).mp z; subst this; simp at hj
  have d31 : ¬ A 31 = A j := fun z => by have := (hA 31 j (by decide) hj40).mp z; subst this; simp at hj
  have d34 : ¬ A 34 = A j := fun z => by have := (hA 34 j (by decide) hj40).mp z; subst this; simp at hj
  simp only [mT, mi_pi, d27, d31, d34, false_and, if_false]
theorem mT0_pl {a k : Nat} {v : Int64} : mT (p_l h a k v) (A 27) 0 (A 31) (A 34) = mT h (A 27) 0 (A 31) (A 34) := id rfl
theorem mT0_pT {t : Nat} : mT (p_T h t) (A 27) 0 (A 31) (A 34) = mT h (A 27) 0 (A 31) (A 34) := id rfl
theorem mT0_cW (hA : inj40 A) {t : QT} : mT (cW h (A 5) (A 8) (A 9) t) (A 27) 0 (A 31) (A 34) = mT h (A 27) 0 (A 31) (A 34) := by
  simp only [cW]; repeat rw [mT0_pi hA (by decide)]
theorem Vq0_cW1 (hA : inj40 A) {t : QT} : Vq0 A (cW h (A 6) (A 10) (A 11) t) = Vq0 A h := by simp only [cW]; repeat rw [Vq0_pi hA (by decide)]
theorem Vq0_mW1 (hA : inj40 A) {t : QT} : Vq0 A (mW h (A 27) 1 (A 32) (A 35) t) = Vq0 A h := by
  simp only [mW, Vq0, cT, mT, mi_pi, (hA 5 27 (by decide) (by decide)), (hA 5 32 (by decide) (by decide)), (hA 5 35 (by decide) (by decide)), (hA 8 27 (by decide) (by decide)), (hA 8 32 (by decide) (by decide)), (hA 8 35 (by decide) (by decide)), (hA 9 27 (by decide) (by decide)), (hA 9 32 (by decide) (by decide)), (hA 9 35 (by decide) (by decide)), (hA 27 32 (by decide) (by decide)), (hA 27 35 (by decide) (by decide)), (hA 31 27 (by decide) (by decide)), (hA 31 32 (by decide) (by decide)), (hA 31 35 (by decide) (by decide)), (hA 34 27 (by decide) (by decide)), (hA 34 32 (by decide) (by decide)), (hA 34 35 (by decide) (by decide)), Nat.reduceEqDiff, and_false, false_and, if_false]
theorem Vq2_cW1 (hA : inj40 A) {t : QT} : Vq2 A (cW h (A 6) (A 10) (A 11) t) = Vq2 A h := by simp only [cW]; repeat rw [Vq2_pi hA (by decide)]
theorem Vq2_mW1 (hA : inj40 A) {t : QT} : Vq2 A (mW h (A 27) 1 (A 32) (A 35) t) = Vq2 A h := by
  simp only [mW, Vq2, cT, mT, mi_pi, (hA 7 27 (by decide) (by decide)), (hA 7 32 (by decide) (by decide)), (hA 7 35 (by decide) (by decide)), (hA 12 27 (by decide) (by decide)), (hA 12 32 (by decide) (by decide)), (hA 12 35 (by decide) (by decide)), (hA 13 27 (by decide) (by decide)), (hA 13 32 (by decide) (by decide)), (hA 13 35 (by decide) (by decide)), (hA 27 32 (by decide) (by decide)), (hA 27 35 (by decide) (by decide)), (hA 33 27 (by decide) (by decide)), (hA 33 32 (by decide) (by decide)), (hA 33 35 (by decide) (by decide)), (hA 36 27 (by decide) (by decide)), (hA 36 32 (by decide) (by decide)), (hA 36 35 (by decide) (by decide)), Nat.reduceEqDiff, and_false, false_and, if_false]
theorem Vp_cW1 (hA : inj40 A) {t : QT} : Vp A (cW h (A 6) (A 10) (A 11) t) = Vp A h := by simp only [cW]; repeat rw [Vp_pi hA (by decide)]
theorem Vp_mW1 (hA : inj40 A) {t : QT} : Vp A (mW h (A 27) 1 (A 32) (A 35) t) = Vp A h := by simp only [mW]; repeat rw [Vp_pi hA (by decide)]
theorem Vl0_cW1 (hA : inj40 A) {t : QT} : Vl0 A (cW h (A 6) (A 10) (A 11) t) = Vl0 A h := by simp only [cW]; repeat rw [Vl0_pi hA (by decide)]
theorem Vl0_mW1 (hA : inj40 A) {t : QT} : Vl0 A (mW h (A 27) 1 (A 32) (A 35) t) = Vl0 A h := by simp only [mW]; repeat rw [Vl0_pi hA (by decide)]
theorem Vl1_cW1 (hA : inj40 A) {t : QT} : Vl1 A (cW h (A 6) (A 10) (A 11) t) = Vl1 A h := by simp only [cW]; repeat rw [Vl1_pi hA (by decide)]
theorem Vl1_mW1 (hA : inj40 A) {t : QT} : Vl1 A (mW h (A 27) 1 (A 32) (A 35) t) = Vl1 A h := by simp only [mW]; repeat rw [Vl1_pi hA (by decide)]
theorem Vlr_cW1 (hA : inj40 A) {t : QT} : Vlr A (cW h (A 6) (A 10) (A 11) t) = Vlr A h := by simp only [cW]; repeat rw [Vlr_pi hA (by decide)]
theorem Vlr_mW1 (hA : inj40 A) {t : QT} : Vlr A (mW h (A 27) 1 (A 32) (A 35) t) = Vlr A h := by simp only [mW]; repeat rw [Vlr_pi hA (by decide)]
theorem Vsr_cW1 (hA : inj40 A) {t : QT} : Vsr A (cW h (A 6) (A 10) (A 11) t) = Vsr A h := by simp only [cW]; repeat rw [Vsr_pi hA (by decide)]
theorem Vsr_mW1 (hA : inj40 A) {t : QT} : Vsr A (mW h (A 27) 1 (A 32) (A 35) t) = Vsr A h := by simp only [mW]; repeat rw [Vsr_pi hA (by decide)]
theorem Cn_cW1 (hA : inj40 A) {t : QT} : Cn A (cW h (A 6) (A 10) (A 11) t) = Cn A h := by
  simp only [Cn, cW, mi_pi, Nat.reduceEqDiff, and_false, if_false, false_and, (hA 5 6 (by decide) (by decide)), (hA 5 10 (by decide) (by decide)), (hA 5 11 (by decide) (by decide)), (hA 6 10 (by decide) (by decide)), (hA 6 11 (by decide) (by decide)), (hA 7 6 (by decide) (by decide)), (hA 7 10 (by decide) (by decide)), (hA 7 11 (by decide) (by decide)), (hA 8 6 (by decide) (by decide)), (hA 8 10 (by decide) (by decide)), (hA 8 11 (by decide) (by decide)), (hA 9 6 (by decide) (by decide)), (hA 9 10 (by decide) (by decide)), (hA 9 11 (by decide) (by decide)), (hA 10 6 (by decide) (by decide)), (hA 10 11 (by decide) (by decide)), (hA 11 6 (by decide) (by decide)), (hA 11 10 (by decide) (by decide)), (hA 12 6 (by decide) (by decide)), (hA 12 10 (by decide) (by decide)), (hA 12 11 (by decide) (by decide)), (hA 13 6 (by decide) (by decide)), (hA 13 10 (by decide) (by decide)), (hA 13 11 (by decide) (by decide)), (hA 14 6 (by decide) (by decide)), (hA 14 10 (by decide) (by decide)), (hA 14 11 (by decide) (by decide)), (hA 28 6 (by decide) (by decide)), (hA 28 10 (by decide) (by decide)), (hA 28 11 (by decide) (by decide)), (hA 31 6 (by decide) (by decide)), (hA 31 10 (by decide) (by decide)), (hA 31 11 (by decide) (by decide)), (hA 32 6 (by decide) (by decide)), (hA 32 10 (by decide) (by decide)), (hA 32 11 (by decide) (by decide)), (hA 33 6 (by decide) (by decide)), (hA 33 10 (by decide) (by decide)), (hA 33 11 (by decide) (by decide)), (hA 34 6 (by decide) (by decide)), (hA 34 10 (by decide) (by decide)), (hA 34 11 (by decide) (by decide)), (hA 35 6 (by decide) (by decide)), (hA 35 10 (by decide) (by decide)), (hA 35 11 (by decide) (by decide)), (hA 36 6 (by decide) (by decide)), (hA 36 10 (by decide) (by decide)), (hA 36 11 (by decide) (by decide))]
theorem Cn_mW1 (hA : inj40 A) {t : QT} : Cn A (mW h (A 27) 1 (A 32) (A 35) t) = Cn A h := by
  simp only [Cn, mW, mi_pi, Nat.reduceEqDiff, and_false, if_false, false_and, (hA 5 27 (by decide) (by decide)), (hA 5 32 (by decide) (by decide)), (hA 5 35 (by decide) (by decide)), (hA 6 27 (by decide) (by decide)), (hA 6 32 (by decide) (by decide)), (hA 6 35 (by decide) (by decide)), (hA 7 27 (by decide) (by decide)), (hA 7 32 (by decide) (by decide)), (hA 7 35 (by decide) (by decide)), (hA 8 27 (by decide) (by decide)), (hA 8 32 (by decide) (by decide)), (hA 8 35 (by decide) (by decide)), (hA 9 27 (by decide) (by decide)), (hA 9 32 (by decide) (by decide)), (hA 9 35 (by decide) (by decide)), (hA 10 27 (by decide) (by decide)), (hA 10 32 (by decide) (by decide)), (hA 10 35 (by decide) (by decide)), (hA 11 27 (by decide) (by decide)), (hA 11 32 (by decide) (by decide)), (hA 11 35 (by decide) (by decide)), (hA 12 27 (by decide) (by decide)), (hA 12 32 (by decide) (by decide)), (hA 12 35 (by decide) (by decide)), (hA 13 27 (by decide) (by decide)), (hA 13 32 (by decide) (by decide)), (hA 13 35 (by decide) (by decide)), (hA 14 27 (by decide) (by decide)), (hA 14 32 (by decide) (by decide)), (hA 14 35 (by decide) (by decide)), (hA 28 27 (by decide) (by decide)), (hA 28 32 (by decide) (by decide)), (hA 28 35 (by decide) (by decide)), (hA 31 27 (by decide) (by decide)), (hA 31 32 (by decide) (by decide)), (hA 31 35 (by decide) (by decide)), (hA 32 27 (by decide) (by decide)), (hA 32 35 (by decide) (by decide)), (hA 33 27 (by decide) (by decide)), (hA 33 32 (by decide) (by decide)), (hA 33 35 (by decide) (by decide)), (hA 34 27 (by decide) (by decide)), (hA 34 32 (by decide) (by decide)), (hA 34 35 (by decide) (by decide)), (hA 35 27 (by decide) (by decide)), (hA 35 32 (by decide) (by decide)), (hA 36 27 (by decide) (by decide)), (hA 36 32 (by decide) (by decide)), (hA 36 35 (by decide) (by decide))]
theorem Tx_cW1 (hA : inj40 A) {t : QT} : Tx A (cW h (A 6) (A 10) (A 11) t) = Tx A h := by simp only [cW]; repeat rw [Tx_pi hA (by decide)]
theorem Tx_mW1 (hA : inj40 A) {t : QT} : Tx A (mW h (A 27) 1 (A 32) (A 35) t) = Tx A h := by simp only [mW]; repeat rw [Tx_pi hA (by decide)]
theorem cT1_pi (hA : inj40 A) {j k : Nat} {v : Int32} (hj : [0, 1, 2, 3, 4, 5, 7, 8, 9, 12, 13, 14, 15, 16, 17, 18, 19, 20, 21, 22, 23, 24, 25, 26, 27, 28, 29, 30, 31, 32, 33, 34, 35, 36, 37, 38, 39].contains j = true) : cT (p_i h (A j) k v) (A 6) (A 10) (A 11) = cT h (A 6) (A 10) (A 11) := by
  have hj40 : j < 40 := by
    simp only [List.contains_eq_mem, decide_eq_true_eq] at hj
    have : ∀ x ∈ [0, 1, 2, 3, 4, 5, 7, 8, 9, 12, 13, 14, 15, 16, 17, 18, 19, 20, 21, 22, 23, 24, 25, 26, 27, 28, 29, 30, 31, 32, 33, 34, 35, 36, 37, 38, 39], x < 40 := by decide
    exact this j hj
  have d6 : ¬ A 6 = A j := fun z => by have := (hA 6 j (by decide) hj40).mp z; subst this; simp at hj
  have d10 : ¬ A 10 = A j := fun z => by have := (hA 10 j (by decide) hj40).mp z; subst this; simp at hj
  have d11 : ¬ A 11 = A j := fun z => by have := (hA 11 j (by decide) hj40).mp z; subst this; simp at hj
  simp only [cT, mi_pi, d6, d10, d11, false_and, if_false]
theorem cT1_pl {a k : Nat} {v : Int64} : cT (p_l h a k v) (A 6) (A 10) (A 11) = cT h (A 6) (A 10) (A 11) := id rfl
theorem cT1_cW (hA : inj40 A) {t : QT} : cT (cW h (A 6) (A 10) (A 11) t) (A 6) (A 10) (A 11) = t := cW_cT (fun z => absurd ((hA 10 11 (by decide) (by decide)).mp z) (by decide)) (fun z => absurd ((hA 6 10 (by decide) (by decide)).mp z) (by decide)) (fun z => absurd ((hA 6 11 (by decide) (by decide)).mp z) (by decide)) (fun z => absurd ((hA 11 10 (by decide) (by decide)).mp z) (by decide)) (fun z => absurd ((hA 10 6 (by decide) (by decide)).mp z) (by decide)) (fun z => absurd ((hA 11 6 (by decide) (by decide)).mp z) (by decide)) t
theorem mT1_mW (hA : inj40 A) {t : QT} : mT (mW h (A 27) 1 (A 32) (A 35) t) (A 27) 1 (A 32) (A 35) = t := mW_mT (fun z => absurd ((hA 32 35 (by decide) (by decide)).mp z) (by decide)) (fun z => absurd ((hA 27 32 (by decide) (by decide)).mp z) (by decide)) (fun z => absurd ((hA 27 35 (by decide) (by decide)).mp z) (by decide)) (fun z => absurd ((hA 35 32 (by decide) (by decide)).mp z) (by decide)) (fun z => absurd ((hA 32 27 (by decide) (by decide)).mp z) (by decide)) (fun z => absurd ((hA 35 27 (by decide) (by decide)).mp z) (by decide)) t
theorem cT1_mW (hA : inj40 A) {t : QT} : cT (mW h (A 27) 1 (A 32) (A 35) t) (A 6) (A 10) (A 11) = cT h (A 6) (A 10) (A 11) := by
  simp only [mW]; repeat rw [cT1_pi hA (by decide)]
theorem Vq1_mW (hA : inj40 A) {t : QT} : Vq1 A (mW h (A 27) 1 (A 32) (A 35) t) = (cT h (A 6) (A 10) (A 11) = t ∧ cT h (A 6) (A 10) (A 11) ∈ QS1) := by
  simp only [Vq1, cT1_mW hA, mT1_mW hA]
theorem mT1_pi (hA : inj40 A) {j k : Nat} {v : Int32} (hj : [0, 1, 2, 3, 4, 5, 6, 7, 8, 9, 10, 11, 12, 13, 14, 15, 16, 17, 18, 19, 20, 21, 22, 23, 24, 25, 26, 28, 29, 30, 31, 33, 34, 36, 37, 38, 39].contains j = true) : mT (p_i h (A j) k v) (A 27) 1 (A 32) (A 35) = mT h (A 27) 1 (A 32) (A 35) := by
  have hj40 : j < 40 := by
    simp only [List.contains_eq_mem, decide_eq_true_eq] at hj
    have : ∀ x ∈ [0, 1, 2, 3, 4, 5, 6, 7, 8, 9, 10, 11, 12, 13, 14, 15, 16, 17, 18, 19, 20, 21, 22, 23, 24, 25, 26, 28, 29, 30, 31, 33, 34, 36, 37, 38, 39], x < 40 := by decide
    exact this j hj
  have d27 : ¬ A 27 = A j := fun z => by have := (hA 27 j (by decide) hj40).mp z; subst this; simp at hj
  have d32 : ¬ A 32 = A j := fun z => by have := (hA 32 j (by decide) hj40).mp z; subst this; simp at hj
  have d35 : ¬ A 35 = A j := fun z => by have := (hA 35 j (by decide) hj40).mp z; subst this; simp at hj
  simp only [mT, mi_pi, d27, d32, d35, false_and, if_false]
theorem mT1_pl {a k : Nat} {v : Int64} : mT (p_l h a k v) (A 27) 1 (A 32) (A 35) = mT h (A 27) 1 (A 32) (A 35) := id rfl
theorem mT1_pT {t : Nat} : mT (p_T h t) (A 27) 1 (A 32) (A 35) = mT h (A 27) 1 (A 32) (A 35) := id rfl
theorem mT1_cW (hA : inj40 A) {t : QT} : mT (cW h (A 6) (A 10) (A 11) t) (A 27) 1 (A 32) (A 35) = mT h (A 27) 1 (A 32) (A 35) := by
  simp only [cW]; repeat rw [mT1_pi hA (by decide)]
theorem Vq0_cW2 (hA : inj40 A) {t : QT} : Vq0 A (cW h (A 7) (A 12) (A 13) t) = Vq0 A h := by simp only [cW]; repeat rw [Vq0_pi hA (by decide)]
theorem Vq0_mW2 (hA : inj40 A) {t : QT} : Vq0 A (mW h (A 27) 2 (A 33) (A 36) t) = Vq0 A h := by
  simp only [mW, Vq0, cT, mT, mi_pi, (hA 5 27 (by decide) (by decide)), (hA 5 33 (by decide) (by decide)), (hA 5 36 (by decide) (by decide)), (hA 8 27 (by decide) (by decide)), (hA 8 33 (by decide) (by decide)), (hA 8 36 (by decide) (by decide)), (hA 9 27 (by decide) (by decide)), (hA 9 33 (by decide) (by decide)), (hA 9 36 (by decide) (by decide)), (hA 27 33 (by decide) (by decide)), (hA 27 36 (by decide) (by decide)), (hA 31 27 (by decide) (by decide)), (hA 31 33 (by decide) (by decide)), (hA 31 36 (by decide) (by decide)), (hA 34 27 (by decide) (by decide)), (hA 34 33 (by decide) (by decide)), (hA 34 36 (by decide) (by decide)), Nat.reduceEqDiff, and_false, false_and, if_false]
theorem Vq1_cW2 (hA : inj40 A) {t : QT} : Vq1 A (cW h (A 7) (A 12) (A 13) t) = Vq1 A h := by simp only [cW]; repeat rw [Vq1_pi hA (by decide)]
theorem Vq1_mW2 (hA : inj40 A) {t : QT} : Vq1 A (mW h (A 27) 2 (A 33) (A 36) t) = Vq1 A h := by
  simp only [mW, Vq1, cT, mT, mi_pi, (hA 6 27 (by decide) (by decide)), (hA 6 33 (by decide) (by decide)), (hA 6 36 (by decide) (by decide)), (hA 10 27 (by decide) (by decide)), (hA 10 33 (by decide) (by decide)), (hA 10 36 (by decide) (by decide)), (hA 11 27 (by decide) (by decide)), (hA 11 33 (by decide) (by decide)), (hA 11 36 (by decide) (by decide)), (hA 27 33 (by decide) (by decide)), (hA 27 36 (by decide) (by decide)), (hA 32 27 (by decide) (by decide)), (hA 32 33 (by decide) (by decide)), (hA 32 36 (by decide) (by decide)), (hA 35 27 (by decide) (by decide)), (hA 35 33 (by decide) (by decide)), (hA 35 36 (by decide) (by decide)), Nat.reduceEqDiff, and_false, false_and, if_false]
theorem Vp_cW2 (hA : inj40 A) {t : QT} : Vp A (cW h (A 7) (A 12) (A 13) t) = Vp A h := by simp only [cW]; repeat rw [Vp_pi hA (by decide)]
theorem Vp_mW2 (hA : inj40 A) {t : QT} : Vp A (mW h (A 27) 2 (A 33) (A 36) t) = Vp A h := by simp only [mW]; repeat rw [Vp_pi hA (by decide)]
theorem Vl0_cW2 (hA : inj40 A) {t : QT} : Vl0 A (cW h (A 7) (A 12) (A 13) t) = Vl0 A h := by simp only [cW]; repeat rw [Vl0_pi hA (by decide)]
theorem Vl0_mW2 (hA : inj40 A) {t : QT} : Vl0 A (mW h (A 27) 2 (A 33) (A 36) t) = Vl0 A h := by simp only [mW]; repeat rw [Vl0_pi hA (by decide)]
theorem Vl1_cW2 (hA : inj40 A) {t : QT} : Vl1 A (cW h (A 7) (A 12) (A 13) t) = Vl1 A h := by simp only [cW]; repeat rw [Vl1_pi hA (by decide)]
theorem Vl1_mW2 (hA : inj40 A) {t : QT} : Vl1 A (mW h (A 27) 2 (A 33) (A 36) t) = Vl1 A h := by simp only [mW]; repeat rw [Vl1_pi hA (by decide)]
theorem Vlr_cW2 (hA : inj40 A) {t : QT} : Vlr A (cW h (A 7) (A 12) (A 13) t) = Vlr A h := by simp only [cW]; repeat rw [Vlr_pi hA (by decide)]
theorem Vlr_mW2 (hA : inj40 A) {t : QT} : Vlr A (mW h (A 27) 2 (A 33) (A 36) t) = Vlr A h := by simp only [mW]; repeat rw [Vlr_pi hA (by decide)]
theorem Vsr_cW2 (hA : inj40 A) {t : QT} : Vsr A (cW h (A 7) (A 12) (A 13) t) = Vsr A h := by simp only [cW]; repeat rw [Vsr_pi hA (by decide)]
theorem Vsr_mW2 (hA : inj40 A) {t : QT} : Vsr A (mW h (A 27) 2 (A 33) (A 36) t) = Vsr A h := by simp only [mW]; repeat rw [Vsr_pi hA (by decide)]
theorem Cn_cW2 (hA : inj40 A) {t : QT} : Cn A (cW h (A 7) (A 12) (A 13) t) = Cn A h := by
  simp only [Cn, cW, mi_pi, Nat.reduceEqDiff, and_false, if_false, false_and, (hA 5 7 (by decide) (by decide)), (hA 5 12 (by decide) (by decide)), (hA 5 13 (by decide) (by decide)), (hA 6 7 (by decide) (by decide)), (hA 6 12 (by decide) (by decide)), (hA 6 13 (by decide) (by decide)), (hA 7 12 (by decide) (by decide)), (hA 7 13 (by decide) (by decide)), (hA 8 7 (by decide) (by decide)), (hA 8 12 (by decide) (by decide)), (hA 8 13 (by decide) (by decide)), (hA 9 7 (by decide) (by decide)), (hA 9 12 (by decide) (by decide)), (hA 9 13 (by decide) (by decide)), (hA 10 7 (by decide) (by decide)), (hA 10 12 (by decide) (by decide)), (hA 10 13 (by decide) (by decide)), (hA 11 7 (by decide) (by decide)), (hA 11 12 (by decide) (by decide)), (hA 11 13 (by decide) (by decide)), (hA 12 7 (by decide) (by decide)), (hA 12 13 (by decide) (by decide)), (hA 13 7 (by decide) (by decide)), (hA 13 12 (by decide) (by decide)), (hA 14 7 (by decide) (by decide)), (hA 14 12 (by decide) (by decide)), (hA 14 13 (by decide) (by decide)), (hA 28 7 (by decide) (by decide)), (hA 28 12 (by decide) (by decide)), (hA 28 13 (by decide) (by decide)), (hA 31 7 (by decide) (by decide)), (hA 31 12 (by decide) (by decide)), (hA 31 13 (by decide) (by decide)), (hA 32 7 (by decide) (by decide)), (hA 32 12 (by decide) (by decide)), (hA 32 13 (by decide) (by decide)), (hA 33 7 (by decide) (by decide)), (hA 33 12 (by decide) (by decide)), (hA 33 13 (by decide) (by decide)), (hA 34 7 (by decide) (by decide)), (hA 34 12 (by decide) (by decide)), (hA 34 13 (by decide) (by decide)), (hA 35 7 (by decide) (by decide)), (hA 35 12 (by decide) (by decide)), (hA 35 13 (by decide) (by decide)), (hA 36 7 (by decide) (by decide)), (hA 36 12 (by decide) (by decide)), (hA 36 13 (by decide) (by decide))]
theorem Cn_mW2 (hA : inj40 A) {t : QT} : Cn A (mW h (A 27) 2 (A 33) (A 36) t) = Cn A h := by
  simp only [Cn, mW, mi_pi, Nat.reduceEqDiff, and_false, if_false, false_and, (hA 5 27 (by decide) (by decide)), (hA 5 33 (by decide) (by decide)), (hA 5 36 (by decide) (by decide)), (hA 6 27 (by decide) (by decide)), (hA 6 33 (by decide) (by decide)), (hA 6 36 (by decide) (by decide)), (hA 7 27 (by decide) (by decide)), (hA 7 33 (by decide) (by decide)), (hA 7 36 (by decide) (by decide)), (hA 8 27 (by decide) (by decide)), (hA 8 33 (by decide) (by decide)), (hA 8 36 (by decide) (by decide)), (hA 9 27 (by decide) (by decide)), (hA 9 33 (by decide) (by decide)), (hA 9 36 (by decide) (by decide)), (hA 10 27 (by decide) (by decide)), (hA 10 33 (by decide) (by decide)), (hA 10 36 (by decide) (by decide)), (hA 11 27 (by decide) (by decide)), (hA 11 33 (by decide) (by decide)), (hA 11 36 (by decide) (by decide)), (hA 12 27 (by decide) (by decide)), (hA 12 33 (by decide) (by decide)), (hA 12 36 (by decide) (by decide)), (hA 13 27 (by decide) (by decide)), (hA 13 33 (by decide) (by decide)), (hA 13 36 (by decide) (by decide)), (hA 14 27 (by decide) (by decide)), (hA 14 33 (by decide) (by decide)), (hA 14 36 (by decide) (by decide)), (hA 28 27 (by decide) (by decide)), (hA 28 33 (by decide) (by decide)), (hA 28 36 (by decide) (by decide)), (hA 31 27 (by decide) (by decide)), (hA 31 33 (by decide) (by decide)), (hA 31 36 (by decide) (by decide)), (hA 32 27 (by decide) (by decide)), (hA 32 33 (by decide) (by decide)), (hA 32 36 (by decide) (by decide)), (hA 33 27 (by decide) (by decide)), (hA 33 36 (by decide) (by decide)), (hA 34 27 (by decide) (by decide)), (hA 34 33 (by decide) (by decide)), (hA 34 36 (by decide) (by decide)), (hA 35 27 (by decide) (by decide)), (hA 35 33 (by decide) (by decide)), (hA 35 36 (by decide) (by decide)), (hA 36 27 (by decide) (by decide)), (hA 36 33 (by decide) (by decide))]
theorem Tx_cW2 (hA : inj40 A) {t : QT} : Tx A (cW h (A 7) (A 12) (A 13) t) = Tx A h := by simp only [cW]; repeat rw [Tx_pi hA (by decide)]
theorem Tx_mW2 (hA : inj40 A) {t : QT} : Tx A (mW h (A 27) 2 (A 33) (A 36) t) = Tx A h := by simp only [mW]; repeat rw [Tx_pi hA (by decide)]
theorem cT2_pi (hA : inj40 A) {j k : Nat} {v : Int32} (hj : [0, 1, 2, 3, 4, 5, 6, 8, 9, 10, 11, 14, 15, 16, 17, 18, 19, 20, 21, 22, 23, 24, 25, 26, 27, 28, 29, 30, 31, 32, 33, 34, 35, 36, 37, 38, 39].contains j = true) : cT (p_i h (A j) k v) (A 7) (A 12) (A 13) = cT h (A 7) (A 12) (A 13) := by
  have hj40 : j < 40 := by
    simp only [List.contains_eq_mem, decide_eq_true_eq] at hj
    have : ∀ x ∈ [0, 1, 2, 3, 4, 5, 6, 8, 9, 10, 11, 14, 15, 16, 17, 18, 19, 20, 21, 22, 23, 24, 25, 26, 27, 28, 29, 30, 31, 32, 33, 34, 35, 36, 37, 38, 39], x < 40 := by decide
    exact this j hj
  have d7 : ¬ A 7 = A j := fun z => by have := (hA 7 j (by decide) hj40).mp z; subst this; simp at hj
  have d12 : ¬ A 12 = A j := fun z => by have := (hA 12 j (by decide) hj40).mp z; subst this; simp at hj
  have d13 : ¬ A 13 = A j := fun z => by have := (hA 13 j (by decide) hj40).mp z; subst this; simp at hj
  simp only [cT, mi_pi, d7, d12, d13, false_and, if_false]
theorem cT2_pl {a k : Nat} {v : Int64} : cT (p_l h a k v) (A 7) (A 12) (A 13) = cT h (A 7) (A 12) (A 13) := id rfl
theorem cT2_cW (hA : inj40 A) {t : QT} : cT (cW h (A 7) (A 12) (A 13) t) (A 7) (A 12) (A 13) = t := cW_cT (fun z => absurd ((hA 12 13 (by decide) (by decide)).mp z) (by decide)) (fun z => absurd ((hA 7 12 (by decide) (by decide)).mp z) (by decide)) (fun z => absurd ((hA 7 13 (by decide) (by decide)).mp z) (by decide)) (fun z => absurd ((hA 13 12 (by decide) (by decide)).mp z) (by decide)) (fun z => absurd ((hA 12 7 (by decide) (by decide)).mp z) (by decide)) (fun z => absurd ((hA 13 7 (by decide) (by decide)).mp z) (by decide)) t
theorem mT2_mW (hA : inj40 A) {t : QT} : mT (mW h (A 27) 2 (A 33) (A 36) t) (A 27) 2 (A 33) (A 36) = t := mW_mT (fun z => absurd ((hA 33 36 (by decide) (by decide)).mp z) (by decide)) (fun z => absurd ((hA 27 33 (by decide) (by decide)).mp z) (by decide)) (fun z => absurd ((hA 27 36 (by decide) (by decide)).mp z) (by decide)) (fun z => absurd ((hA 36 33 (by decide) (by decide)).mp z) (by decide)) (fun z => absurd ((hA 33 27 (by decide) (by decide)).mp z) (by decide)) (fun z => absurd ((hA 36 27 (by decide) (by decide)).mp z) (by decide)) t
theorem cT2_mW (hA : inj40 A) {t : QT} : cT (mW h (A 27) 2 (A 33) (A 36) t) (A 7) (A 12) (A 13) = cT h (A 7) (A 12) (A 13) := by
  simp only [mW]; repeat rw [cT2_pi hA (by decide)]
theorem Vq2_mW (hA : inj40 A) {t : QT} : Vq2 A (mW h (A 27) 2 (A 33) (A 36) t) = (cT h (A 7) (A 12) (A 13) = t ∧ cT h (A 7) (A 12) (A 13) ∈ QS2) := by
  simp only [Vq2, cT2_mW hA, mT2_mW hA]
theorem mT2_pi (hA : inj40 A) {j k : Nat} {v : Int32} (hj : [0, 1, 2, 3, 4, 5, 6, 7, 8, 9, 10, 11, 12, 13, 14, 15, 16, 17, 18, 19, 20, 21, 22, 23, 24, 25, 26, 28, 29, 30, 31, 32, 34, 35, 37, 38, 39].contains j = true) : mT (p_i h (A j) k v) (A 27) 2 (A 33) (A 36) = mT h (A 27) 2 (A 33) (A 36) := by
  have hj40 : j < 40 := by
    simp only [List.contains_eq_mem, decide_eq_true_eq] at hj
    have : ∀ x ∈ [0, 1, 2, 3, 4, 5, 6, 7, 8, 9, 10, 11, 12, 13, 14, 15, 16, 17, 18, 19, 20, 21, 22, 23, 24, 25, 26, 28, 29, 30, 31, 32, 34, 35, 37, 38, 39], x < 40 := by decide
    exact this j hj
  have d27 : ¬ A 27 = A j := fun z => by have := (hA 27 j (by decide) hj40).mp z; subst this; simp at hj
  have d33 : ¬ A 33 = A j := fun z => by have := (hA 33 j (by decide) hj40).mp z; subst this; simp at hj
  have d36 : ¬ A 36 = A j := fun z => by have := (hA 36 j (by decide) hj40).mp z; subst this; simp at hj
  simp only [mT, mi_pi, d27, d33, d36, false_and, if_false]
theorem mT2_pl {a k : Nat} {v : Int64} : mT (p_l h a k v) (A 27) 2 (A 33) (A 36) = mT h (A 27) 2 (A 33) (A 36) := id rfl
theorem mT2_pT {t : Nat} : mT (p_T h t) (A 27) 2 (A 33) (A 36) = mT h (A 27) 2 (A 33) (A 36) := id rfl
theorem mT2_cW (hA : inj40 A) {t : QT} : mT (cW h (A 7) (A 12) (A 13) t) (A 27) 2 (A 33) (A 36) = mT h (A 27) 2 (A 33) (A 36) := by
  simp only [cW]; repeat rw [mT2_pi hA (by decide)]
end
theorem K_el {A : Nat → Nat} {h : MH} {G : Prop} (k : K A h) (f : (inj40 A) → (g_c h (A 0) = 7) → (g_c h (A 1) = 3) → (g_c h (A 2) = 3) → (g_c h (A 3) = 102) → (g_c h (A 4) = 102) → (g_c h (A 5) = 5) → (g_c h (A 6) = 5) → (g_c h (A 7) = 5) → (g_c h (A 8) = 4) → (g_c h (A 9) = 4) → (g_c h (A 10) = 4) → (g_c h (A 11) = 4) → (g_c h (A 12) = 4) → (g_c h (A 13) = 4) → (g_c h (A 14) = 4) → (g_c h (A 15) = 4) → (g_c h (A 16) = 4) → (g_c h (A 17) = 2) → (g_c h (A 18) = 101) → (g_c h (A 19) = 6) → (g_c h (A 20) = 10) → (g_c h (A 21) = 104) → (g_c h (A 22) = 9) → (g_c h (A 23) = 102) → (g_c h (A 24) = 101) → (g_c h (A 25) = 106) → (g_c h (A 26) = 106) → (g_c h (A 27) = 105) → (g_c h (A 28) = 8) → (g_c h (A 29) = 106) → (g_c h (A 30) = 101) → (g_c h (A 31) = 8) → (g_c h (A 32) = 8) → (g_c h (A 33) = 8) → (g_c h (A 34) = 8) → (g_c h (A 35) = 8) → (g_c h (A 36) = 8) → (g_c h (A 37) = 8) → (g_c h (A 38) = 8) → (g_c h (A 39) = 1) → (∀ i, i < 40 → g_z h ≤ A i) → (∀ i, i < 40 → A i < g_t h) → (g_n h (A 3) = 16) → (g_n h (A 4) = 36) → (g_n h (A 18) = 8) → (g_n h (A 21) = 19) → (g_n h (A 23) = 16) → (g_n h (A 24) = 36) → (g_n h (A 25) = 3) → (g_n h (A 26) = 3) → (g_n h (A 27) = 3) → (g_n h (A 29) = 2) → (g_n h (A 30) = 8) → (g_r h (A 0) 0 = some (A 1)) → (g_r h (A 0) 1 = some (A 2)) → (g_r h (A 0) 2 = some (A 5)) → (g_r h (A 0) 3 = some (A 6)) → (g_r h (A 0) 4 = some (A 7)) → (g_r h (A 0) 5 = some (A 14)) → (g_r h (A 0) 7 = some (A 15)) → (g_r h (A 0) 8 = some (A 16)) → (g_r h (A 0) 9 = some (A 17)) → (g_r h (A 0) 10 = some (A 19)) → (g_r h (A 1) 0 = some (A 3)) → (g_r h (A 2) 0 = some (A 4)) → (g_r h (A 5) 0 = some (A 8)) → (g_r h (A 5) 1 = some (A 9)) → (g_r h (A 6) 0 = some (A 10)) → (g_r h (A 6) 1 = some (A 11)) → (g_r h (A 7) 0 = some (A 12)) → (g_r h (A 7) 1 = some (A 13)) → (g_r h (A 8) 0 = some (A 1)) → (g_r h (A 9) 0 = some (A 1)) → (g_r h (A 10) 0 = some (A 1)) → (g_r h (A 11) 0 = some (A 1)) → (g_r h (A 12) 0 = some (A 1)) → (g_r h (A 13) 0 = some (A 1)) → (g_r h (A 14) 0 = some (A 2)) → (g_r h (A 15) 0 = some (A 1)) → (g_r h (A 16) 0 = some (A 2)) → (g_r h (A 17) 0 = some (A 18)) → (g_r h (A 19) 0 = some (A 20)) → (g_r h (A 19) 1 = some (A 21)) → (g_r h (A 22) 0 = some (A 23)) → (g_r h (A 22) 1 = some (A 24)) → (g_r h (A 22) 2 = some (A 25)) → (g_r h (A 22) 3 = some (A 26)) → (g_r h (A 22) 4 = some (A 27)) → (g_r h (A 22) 5 = some (A 28)) → (g_r h (A 22) 7 = some (A 29)) → (g_r h (A 22) 8 = some (A 30)) → (g_r h (A 25) 0 = some (A 31)) → (g_r h (A 25) 1 = some (A 32)) → (g_r h (A 25) 2 = some (A 33)) → (g_r h (A 26) 0 = some (A 34)) → (g_r h (A 26) 1 = some (A 35)) → (g_r h (A 26) 2 = some (A 36)) → (g_r h (A 29) 0 = some (A 37)) → (g_r h (A 29) 1 = some (A 38)) → G) : G := by
  obtain ⟨hA, ⟨kc0, kc1, kc2, kc3, kc4, kc5, kc6, kc7, kc8, kc9, kc10, kc11, kc12, kc13, kc14, kc15, kc16, kc17, kc18, kc19, kc20, kc21, kc22, kc23, kc24, kc25, kc26, kc27, kc28, kc29, kc30, kc31, kc32, kc33, kc34, kc35, kc36, kc37, kc38, kc39⟩, ⟨kz, kt⟩, ⟨kn3, kn4, kn18, kn21, kn23, kn24, kn25, kn26, kn27, kn29, kn30⟩, ⟨kr0_0, kr0_1, kr0_2, kr0_3, kr0_4, kr0_5, kr0_7, kr0_8, kr0_9, kr0_10, kr1_0, kr2_0, kr5_0, kr5_1, kr6_0, kr6_1, kr7_0, kr7_1, kr8_0, kr9_0, kr10_0, kr11_0, kr12_0, kr13_0, kr14_0, kr15_0, kr16_0, kr17_0, kr19_0, kr19_1, kr22_0, kr22_1, kr22_2, kr22_3, kr22_4, kr22_5, kr22_7, kr22_8, kr25_0, kr25_1, kr25_2, kr26_0, kr26_1, kr26_2, kr29_0, kr29_1⟩⟩ := k
  exact f hA kc0 kc1 kc2 kc3 kc4 kc5 kc6 kc7 kc8 kc9 kc10 kc11 kc12 kc13 kc14 kc15 kc16 kc17 kc18 kc19 kc20 kc21 kc22 kc23 kc24 kc25 kc26 kc27 kc28 kc29 kc30 kc31 kc32 kc33 kc34 kc35 kc36 kc37 kc38 kc39 kz kt kn3 kn4 kn18 kn21 kn23 kn24 kn25 kn26 kn27 kn29 kn30 kr0_0 kr0_1 kr0_2 kr0_3 kr0_4 kr0_5 kr0_7 kr0_8 kr0_9 kr0_10 kr1_0 kr2_0 kr5_0 kr5_1 kr6_0 kr6_1 kr7_0 kr7_1 kr8_0 kr9_0 kr10_0 kr11_0 kr12_0 kr13_0 kr14_0 kr15_0 kr16_0 kr17_0 kr19_0 kr19_1 kr22_0 kr22_1 kr22_2 kr22_3 kr22_4 kr22_5 kr22_7 kr22_8 kr25_0 kr25_1 kr25_2 kr26_0 kr26_1 kr26_2 kr29_0 kr29_1
theorem Cn_el {A : Nat → Nat} {h : MH} {G : Prop} (k : Cn A h) (f : (g_i h (A 5) 2 = 1) → (g_i h (A 6) 2 = 1) → (g_i h (A 7) 2 = 0) → (g_i h (A 8) 1 = 1) → (g_i h (A 8) 2 = 5) → (g_i h (A 8) 3 = 0) → (g_i h (A 9) 1 = 1) → (g_i h (A 9) 2 = 5) → (g_i h (A 9) 3 = 1) → (g_i h (A 10) 1 = 6) → (g_i h (A 10) 2 = 3) → (g_i h (A 10) 3 = 0) → (g_i h (A 11) 1 = 6) → (g_i h (A 11) 2 = 3) → (g_i h (A 11) 3 = 1) → (g_i h (A 12) 1 = 9) → (g_i h (A 12) 2 = 6) → (g_i h (A 12) 3 = 0) → (g_i h (A 13) 1 = 9) → (g_i h (A 13) 2 = 6) → (g_i h (A 13) 3 = 1) → (g_i h (A 14) 1 = 1) → (g_i h (A 14) 2 = 10) → (g_i h (A 14) 3 = 0) → (g_i h (A 28) 0 = 1) → (g_i h (A 28) 1 = 10) → (g_i h (A 31) 0 = 1) → (g_i h (A 31) 1 = 5) → (g_i h (A 32) 0 = 6) → (g_i h (A 32) 1 = 3) → (g_i h (A 33) 0 = 9) → (g_i h (A 33) 1 = 6) → (g_i h (A 34) 0 = 1) → (g_i h (A 34) 1 = 5) → (g_i h (A 35) 0 = 6) → (g_i h (A 35) 1 = 3) → (g_i h (A 36) 0 = 9) → (g_i h (A 36) 1 = 6) → G) : G := by
  obtain ⟨ki5_2, ki6_2, ki7_2, ki8_1, ki8_2, ki8_3, ki9_1, ki9_2, ki9_3, ki10_1, ki10_2, ki10_3, ki11_1, ki11_2, ki11_3, ki12_1, ki12_2, ki12_3, ki13_1, ki13_2, ki13_3, ki14_1, ki14_2, ki14_3, ki28_0, ki28_1, ki31_0, ki31_1, ki32_0, ki32_1, ki33_0, ki33_1, ki34_0, ki34_1, ki35_0, ki35_1, ki36_0, ki36_1⟩ := k
  exact f ki5_2 ki6_2 ki7_2 ki8_1 ki8_2 ki8_3 ki9_1 ki9_2 ki9_3 ki10_1 ki10_2 ki10_3 ki11_1 ki11_2 ki11_3 ki12_1 ki12_2 ki12_3 ki13_1 ki13_2 ki13_3 ki14_1 ki14_2 ki14_3 ki28_0 ki28_1 ki31_0 ki31_1 ki32_0 ki32_1 ki33_0 ki33_1 ki34_0 ki34_1 ki35_0 ki35_1 ki36_0 ki36_1
/-! a branch is gone into only when its condition is known -/
theorem ar_ite {p a b : Prop} : ((p → a) ∧ (¬ p → b)) = @ite Prop p (Classical.propDecidable p) a b := by
  apply propext
  by_cases h9 : p
  · rw [if_pos h9]
    exact ⟨fun k => k.1 h9, fun k => ⟨fun _ => k, fun n => absurd h9 n⟩⟩
  · rw [if_neg h9]
    exact ⟨fun k => k.2 h9, fun k => ⟨fun n => absurd n h9, fun _ => k⟩⟩
theorem ar_ite2 {p a b : Prop} : ((¬ p → a) ∧ (p → b)) = @ite Prop p (Classical.propDecidable p) b a := by
  apply propext
  by_cases h9 : p
  · rw [if_pos h9]
    exact ⟨fun k => k.2 h9, fun k => ⟨fun n => absurd h9 n, fun _ => k⟩⟩
  · rw [if_neg h9]
    exact ⟨fun k => k.1 h9, fun k => ⟨fun _ => k, fun n => absurd n h9⟩⟩
theorem ar_ok {p : Prop} {Y pc : Nat} {l s : List Value} {h : MH} {bc bs : Nat} {Q : MR → MH → Prop} : (p → Ok Y pc l s h bc bs Q) = @ite Prop p (Classical.propDecidable p) (Ok Y pc l s h bc bs Q) True := by
  apply propext
  by_cases h9 : p
  · rw [if_pos h9]
    exact ⟨fun k => k h9, fun k _ => k⟩
  · rw [if_neg h9]
    exact ⟨fun _ => trivial, fun _ n => absurd n h9⟩
theorem ite_ar {p a b : Prop} {d : Decidable p} : @ite Prop p d a b = ((p → a) ∧ (¬ p → b)) := by
  apply propext
  by_cases h9 : p
  · rw [if_pos h9]
    exact ⟨fun k => ⟨fun _ => k, fun n => absurd h9 n⟩, fun k => k.1 h9⟩
  · rw [if_neg h9]
    exact ⟨fun k => ⟨fun n => absurd n h9, fun _ => k⟩, fun k => k.2 h9⟩
end

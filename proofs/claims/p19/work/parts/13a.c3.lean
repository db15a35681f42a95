/-! CONTRACTS: checks, the shelf -/
theorem c_X5_checkSlot {x : Int32} {h : MH} {Q : MR → MH → Prop}  : Ok 108 0 [.int x] [] h 1 6 Q ↔ ((x < 0 ∨ ¬ x < 6) → ∀ t : Nat, g_t h ≤ t → Q (.inr 1) (p_T h t)) ∧ (¬ (x < 0 ∨ ¬ x < 6) → Q (.inl none) h) := by
  by_cases b0 : x < 0 <;> by_cases b1 : x < 6 <;> simp only [o108_0, o108_1, o108_4, o108_5, o108_7, o108_10, o108_21, true_and, and_true, or_true, or_false, not_true_eq_false, not_false_eq_true, false_implies, forall_const, Nat.le_refl, b0, b1]

theorem c_X5_checkQueue {x : Int32} {h : MH} {Q : MR → MH → Prop}  : Ok 109 0 [.int x] [] h 1 6 Q ↔ ((x < 0 ∨ ¬ x < 3) → ∀ t : Nat, g_t h ≤ t → Q (.inr 1) (p_T h t)) ∧ (¬ (x < 0 ∨ ¬ x < 3) → Q (.inl none) h) := by
  by_cases b0 : x < 0 <;> by_cases b1 : x < 3 <;> simp only [o109_0, o109_1, o109_4, o109_5, o109_6, o109_9, o109_20, true_and, and_true, or_true, or_false, not_true_eq_false, not_false_eq_true, false_implies, forall_const, Nat.le_refl, b0, b1]

theorem c_X5_checkLens {x : Int32} {h : MH} {Q : MR → MH → Prop}  : Ok 110 0 [.int x] [] h 1 6 Q ↔ ((x < 0 ∨ ¬ x < 2) → ∀ t : Nat, g_t h ≤ t → Q (.inr 1) (p_T h t)) ∧ (¬ (x < 0 ∨ ¬ x < 2) → Q (.inl none) h) := by
  by_cases b0 : x < 0 <;> by_cases b1 : x < 2 <;> simp only [o110_0, o110_1, o110_4, o110_5, o110_6, o110_9, o110_20, true_and, and_true, or_true, or_false, not_true_eq_false, not_false_eq_true, false_implies, forall_const, Nat.le_refl, b0, b1]

theorem c_X5_checkFourth {x : Int32} {h : MH} {Q : MR → MH → Prop}  : Ok 111 0 [.int x] [] h 1 6 Q ↔ ((x < 0 ∨ ¬ x < 4) → ∀ t : Nat, g_t h ≤ t → Q (.inr 2) (p_T h t)) ∧ (¬ (x < 0 ∨ ¬ x < 4) → Q (.inl none) h) := by
  by_cases b0 : x < 0 <;> by_cases b1 : x < 4 <;> simp only [o111_0, o111_1, o111_4, o111_5, o111_6, o111_9, o111_20, true_and, and_true, or_true, or_false, not_true_eq_false, not_false_eq_true, false_implies, forall_const, Nat.le_refl, b0, b1]

theorem c_X5_checkValue {x : Int32} {h : MH} {Q : MR → MH → Prop}  : Ok 112 0 [.int x] [] h 1 6 Q ↔ ((x < -32768 ∨ 32767 < x) → ∀ t : Nat, g_t h ≤ t → Q (.inr 2) (p_T h t)) ∧ (¬ (x < -32768 ∨ 32767 < x) → Q (.inl none) h) := by
  by_cases b0 : x < -32768 <;> by_cases b1 : 32767 < x <;> simp only [o112_0, o112_1, o112_4, o112_7, o112_8, o112_11, o112_14, o112_25, true_and, and_true, or_true, or_false, not_true_eq_false, not_false_eq_true, false_implies, forall_const, Nat.le_refl, lt_le, b0, b1]

theorem c_X5_checkAhead {x : Int32} {h : MH} {Q : MR → MH → Prop}  : Ok 113 0 [.int x] [] h 1 6 Q ↔ ((x < 0 ∨ 9 < x) → ∀ t : Nat, g_t h ≤ t → Q (.inr 2) (p_T h t)) ∧ (¬ (x < 0 ∨ 9 < x) → Q (.inl none) h) := by
  by_cases b0 : x < 0 <;> by_cases b1 : 9 < x <;> simp only [o113_0, o113_1, o113_4, o113_5, o113_7, o113_10, o113_21, true_and, and_true, or_true, or_false, not_true_eq_false, not_false_eq_true, false_implies, forall_const, Nat.le_refl, lt_le, b0, b1]

theorem c_X5_checkChoice {x y : Int32} {h : MH} {Q : MR → MH → Prop}  : Ok 114 0 [.int x, .int y] [] h 1 6 Q ↔ ((x < 0 ∨ y < x) → ∀ t : Nat, g_t h ≤ t → Q (.inr 2) (p_T h t)) ∧ (¬ (x < 0 ∨ y < x) → Q (.inl none) h) := by
  by_cases b0 : x < 0 <;> by_cases b1 : y < x <;> simp only [o114_0, o114_1, o114_4, o114_5, o114_6, o114_9, o114_20, true_and, and_true, or_true, or_false, not_true_eq_false, not_false_eq_true, false_implies, forall_const, Nat.le_refl, lt_le, b0, b1]

theorem c_X5_checkFilling {x : Nat} {h : MH} {Q : MR → MH → Prop} (x1 : g_c h x = 7) : Ok 115 0 [.ref x] [] h 1 6 Q ↔ (¬ g_i h x 6 = 0 → ∀ t : Nat, g_t h ≤ t → Q (.inr 3) (p_T h t)) ∧ (g_i h x 6 = 0 → Q (.inl none) h) := by
  by_cases b0 : g_i h x 6 = 0 <;> simp only [o115_0, o115_1, o115_4, o115_7, o115_18, true_and, and_true, not_true_eq_false, not_false_eq_true, false_implies, forall_const, Nat.le_refl, x1, b0]

theorem c_X5_checkDraining {x : Nat} {h : MH} {Q : MR → MH → Prop} (x1 : g_c h x = 7) : Ok 116 0 [.ref x] [] h 1 6 Q ↔ (g_i h x 6 = 0 → ∀ t : Nat, g_t h ≤ t → Q (.inr 3) (p_T h t)) ∧ (¬ g_i h x 6 = 0 → Q (.inl none) h) := by
  by_cases b0 : g_i h x 6 = 0 <;> simp only [o116_0, o116_1, o116_4, o116_7, o116_18, true_and, and_true, not_true_eq_false, not_false_eq_true, false_implies, forall_const, Nat.le_refl, x1, b0]

theorem q3c : ((0 : Int32) < 0 ∨ ¬ (0 : Int32) < 3) = False ∧ ((1 : Int32) < 0 ∨ ¬ (1 : Int32) < 3) = False ∧ ((2 : Int32) < 0 ∨ ¬ (2 : Int32) < 3) = False ∧ ((0 : Int32) < 0 ∨ ¬ (0 : Int32) < 2) = False ∧ ((1 : Int32) < 0 ∨ ¬ (1 : Int32) < 2) = False ∧ ((2 : Int32) = 0) = False ∧ ((2 : Int32) = 1) = False := by decide
theorem c_queueOf_0 {x q : Nat} {h : MH} {Q : MR → MH → Prop} (x1 : g_c h x = 7) (x2 : g_r h x 2 = some q) : Ok 117 0 [.ref x, .int 0] [] h 1 6 Q ↔ Q (.inl (some (.ref q))) h := by
  simp only [o117_0, o117_1, o117_4, o117_5, o117_32, o117_33, o117_36, o117_37, o117_38, o117_42, o117_43, c_X5_checkQueue, mcs_0, Kn_0, Kn_x, mrf_some, true_and, and_true, or_false, not_true_eq_false, not_false_eq_true, false_implies, implies_true, forall_const, and_self, Nat.reduceSub, Nat.zero_le, Nat.le_refl, i01, Int32.reduceLT, x1, x2]

theorem c_queueOf_1 {x q : Nat} {h : MH} {Q : MR → MH → Prop} (x1 : g_c h x = 7) (x2 : g_r h x 3 = some q) : Ok 117 0 [.ref x, .int 1] [] h 1 6 Q ↔ Q (.inl (some (.ref q))) h := by
  simp only [o117_0, o117_1, o117_4, o117_5, o117_32, o117_33, o117_37, o117_38, o117_41, o117_42, o117_43, c_X5_checkQueue, mcs_0, Kn_0, Kn_x, mrf_some, true_and, and_true, or_false, not_true_eq_false, not_false_eq_true, false_implies, implies_true, forall_const, Nat.reduceSub, Nat.zero_le, Nat.le_refl, i10, Int32.reduceLT, x1, x2]

theorem c_queueOf_2 {x q : Nat} {h : MH} {Q : MR → MH → Prop} (x1 : g_c h x = 7) (x2 : g_r h x 4 = some q) : Ok 117 0 [.ref x, .int 2] [] h 1 6 Q ↔ Q (.inl (some (.ref q))) h := by
  simp only [o117_0, o117_1, o117_4, o117_5, o117_32, o117_33, o117_37, o117_38, o117_42, o117_43, o117_46, c_X5_checkQueue, mcs_0, Kn_0, Kn_x, mrf_some, true_and, or_false, not_true_eq_false, not_false_eq_true, false_implies, implies_true, forall_const, Nat.reduceSub, Nat.zero_le, Nat.le_refl, Int32.reduceLT, x1, x2, q3c]

theorem c_queueOf_bad {x : Nat} {i : Int32} {h : MH} {Q : MR → MH → Prop} (hb : i < 0 ∨ ¬ i < 3) : Ok 117 0 [.ref x, .int i] [] h 1 6 Q ↔ ∀ t : Nat, g_t h ≤ t → Q (.inr 1) (p_T h t) := by
  simp only [o117_0, o117_1, o117_4, o117_5, o117_32, o117_33, o117_37, o117_38, o117_42, o117_43, c_X5_checkQueue, mcs_0, Kn_0, Kn_x, true_and, and_true, not_true_eq_false, false_implies, forall_const, Nat.reduceSub, Nat.zero_le, Nat.le_refl, hb]

theorem c_lensOf_0 {x q : Nat} {h : MH} {Q : MR → MH → Prop} (x1 : g_c h x = 7) (x2 : g_r h x 7 = some q) : Ok 118 0 [.ref x, .int 0] [] h 1 6 Q ↔ Q (.inl (some (.ref q))) h := by
  simp only [o118_0, o118_1, o118_4, o118_5, o118_8, o118_9, o118_12, o118_15, o118_16, o118_19, c_X5_checkLens, mcs_0, Kn_0, Kn_x, mrf_some, true_and, or_false, not_true_eq_false, not_false_eq_true, false_implies, forall_const, Nat.reduceSub, Nat.zero_le, Nat.le_refl, Int32.reduceLT, x1, x2]

theorem c_lensOf_1 {x q : Nat} {h : MH} {Q : MR → MH → Prop} (x1 : g_c h x = 7) (x2 : g_r h x 8 = some q) : Ok 118 0 [.ref x, .int 1] [] h 1 6 Q ↔ Q (.inl (some (.ref q))) h := by
  simp only [o118_0, o118_1, o118_4, o118_5, o118_8, o118_9, o118_12, o118_15, o118_16, o118_19, c_X5_checkLens, mcs_0, Kn_0, Kn_x, mrf_some, true_and, and_true, or_false, not_true_eq_false, not_false_eq_true, false_implies, forall_const, Nat.reduceSub, Nat.zero_le, Nat.le_refl, i10, Int32.reduceLT, x1, x2]

theorem c_lensOf_bad {x : Nat} {i : Int32} {h : MH} {Q : MR → MH → Prop} (hb : i < 0 ∨ ¬ i < 2) : Ok 118 0 [.ref x, .int i] [] h 1 6 Q ↔ ∀ t : Nat, g_t h ≤ t → Q (.inr 1) (p_T h t) := by
  simp only [o118_0, o118_1, o118_4, o118_5, o118_8, o118_9, o118_12, o118_15, o118_16, c_X5_checkLens, mcs_0, Kn_0, Kn_x, true_and, and_true, not_true_eq_false, false_implies, forall_const, Nat.reduceSub, Nat.zero_le, Nat.le_refl, hb]

theorem c_X5_joined {a b : Int32} {h : MH} {Q : MR → MH → Prop}  : Ok 119 0 [.int a, .int b] [] h 0 0 Q ↔ Q (.inl (some (.long (a.toInt64 <<< ((32 : Int32).toInt64 &&& 63) ||| (b.toInt64 &&& 4294967295))))) h := by
  simp only [o119_0, o119_1, o119_2, o119_4, o119_5, o119_6, o119_7, o119_10, o119_11, o119_12]

theorem c_X5_upperOf {a : Int64} {h : MH} {Q : MR → MH → Prop}  : Ok 120 0 [.long a, mk0] [] h 0 0 Q ↔ Q (.inl (some (.int (a >>> ((32 : Int32).toInt64 &&& 63)).toInt32))) h := by
  simp only [o120_0, o120_1, o120_3, o120_4, o120_5]

theorem c_X5_lowerOf {a : Int64} {h : MH} {Q : MR → MH → Prop}  : Ok 121 0 [.long a, mk0] [] h 0 0 Q ↔ Q (.inl (some (.int a.toInt32))) h := by
  simp only [o121_0, o121_1, o121_2]

def foC (a : Int64) (k : Int32) : Int32 := (a >>> ((16 * (3 - k)).toInt64 &&& 63)).toInt32.toInt16.toInt32
theorem i16_short (x : Int32) : kok 6 x.toInt16.toInt32 = True := by
  have h := x.toInt16.toInt_lt
  have h2 := x.toInt16.le_toInt
  simp only [kok, eq_iff_iff, iff_true]
  refine ⟨fun z => absurd z (by decide), fun z => absurd z (by decide), fun z => absurd z (by decide), fun _ => ⟨?_, ?_⟩⟩
  · rw [Int32.le_iff_toInt_le, Int16.toInt_toInt32]
    exact h2
  · rw [Int32.le_iff_toInt_le, Int16.toInt_toInt32]
    have : (32767 : Int32).toInt = 32767 := rfl
    omega
theorem c_X5_fourthOf {a : Int64} {k : Int32} {h : MH} {Q : MR → MH → Prop}  : Ok 122 0 [.long a, mk0, .int k] [] h 0 0 Q ↔ Q (.inl (some (.int (foC a k)))) h := by
  simp only [o122_0, o122_1, o122_3, o122_4, o122_5, o122_6, o122_7, o122_8, o122_9, o122_10, true_and, foC, i16_short]

theorem c_X5_cellOf {s k : Int32} {h : MH} {Q : MR → MH → Prop}  : Ok 123 0 [.int s, .int k] [] h 0 0 Q ↔ Q (.inl (some (.int (11 + 4 * s + k)))) h := by
  simp only [o123_0, o123_2, o123_3, o123_4, o123_5, o123_6, o123_7, o123_8]

theorem c_X5_fourthIn {x rw cs : Nat} {s k : Int32} {h : MH} {Q : MR → MH → Prop} (x1 : g_c h x = 7) (x2 : g_r h x 1 = some rw) (r1 : g_c h rw = 3) (r2 : g_r h rw 0 = some cs) (r3 : g_c h cs = 102) (r4 : g_n h cs = 36) (hj : rdy 36 (11 + 4 * s + k)) : Ok 124 0 [.ref x, .int s, .int k] [] h 0 0 Q ↔ Q (.inl (some (.int (g_l h cs (11 + 4 * s + k).toNatClampNeg).toInt32))) h := by
  simp only [o124_0, o124_1, o124_4, o124_5, o124_6, o124_9, o124_12, o124_13, c_X5_cellOf, c_X2_read (cs := cs) (n := 36), mcs_0, mcs_r, Kn_v, mrf_some, true_and, Nat.reduceLeDiff, Nat.reduceAdd, Nat.zero_le, x1, x2, r1, r2, r3, r4, hj]

theorem c_X5_changeFourth {x rw cs : Nat} {s k : Int32} {v : Int64} {h : MH} {Q : MR → MH → Prop} (x1 : g_c h x = 7) (x2 : g_r h x 1 = some rw) (r1 : g_c h rw = 3) (r2 : g_r h rw 0 = some cs) (r3 : g_c h cs = 102) (r4 : g_n h cs = 36) (r5 : g_z h ≤ cs) (hj : rdy 36 (11 + 4 * s + k)) : Ok 126 0 [.ref x, .int s, .int k, .long v, mk0] [] h 0 0 Q ↔ Q (.inl (some (.int (if g_l h cs (11 + 4 * s + k).toNatClampNeg = v then 0 else 1)))) (p_l h cs (11 + 4 * s + k).toNatClampNeg v) := by
  simp only [o126_0, o126_1, o126_4, o126_5, o126_6, o126_9, o126_10, o126_13, c_X5_cellOf, c_X2_write (cs := cs) (n := 36), mcs_0, mcs_r, Kn_v, mrf_some, true_and, Nat.reduceLeDiff, Nat.reduceAdd, Nat.zero_le, x1, x2, r1, r2, r3, r4, r5, hj, kzi2]

theorem s_cases {s : Int32} (h1 : ¬ s < 0) (h2 : s < 6) : s = 0 ∨ s = 1 ∨ s = 2 ∨ s = 3 ∨ s = 4 ∨ s = 5 := by
  have e1 : 0 ≤ s.toInt := by
    have := Int32.not_lt.mp h1
    exact Int32.le_iff_toInt_le.mp this
  have e2 : s.toInt < 6 := Int32.lt_iff_toInt_lt.mp h2
  have h : s.toInt = 0 ∨ s.toInt = 1 ∨ s.toInt = 2 ∨ s.toInt = 3 ∨ s.toInt = 4 ∨ s.toInt = 5 := by omega
  rcases h with h | h | h | h | h | h
  · exact Or.inl (Int32.toInt_inj.mp h)
  · exact Or.inr (Or.inl (Int32.toInt_inj.mp h))
  · exact Or.inr (Or.inr (Or.inl (Int32.toInt_inj.mp h)))
  · exact Or.inr (Or.inr (Or.inr (Or.inl (Int32.toInt_inj.mp h))))
  · exact Or.inr (Or.inr (Or.inr (Or.inr (Or.inl (Int32.toInt_inj.mp h)))))
  · exact Or.inr (Or.inr (Or.inr (Or.inr (Or.inr (Int32.toInt_inj.mp h)))))
/-- the four cells of a slot: they lie in the row, and are four -/
def ixOk (s : Int32) : Prop := (rdy 36 (11 + 4 * s + 0) ∧ rdy 36 (11 + 4 * s + 1) ∧ rdy 36 (11 + 4 * s + 2) ∧ rdy 36 (11 + 4 * s + 3)) ∧
  (¬ (11 + 4 * s + 0).toNatClampNeg = (11 + 4 * s + 1).toNatClampNeg ∧ ¬ (11 + 4 * s + 0).toNatClampNeg = (11 + 4 * s + 2).toNatClampNeg ∧ ¬ (11 + 4 * s + 0).toNatClampNeg = (11 + 4 * s + 3).toNatClampNeg ∧
   ¬ (11 + 4 * s + 1).toNatClampNeg = (11 + 4 * s + 0).toNatClampNeg ∧ ¬ (11 + 4 * s + 1).toNatClampNeg = (11 + 4 * s + 2).toNatClampNeg ∧ ¬ (11 + 4 * s + 1).toNatClampNeg = (11 + 4 * s + 3).toNatClampNeg ∧
   ¬ (11 + 4 * s + 2).toNatClampNeg = (11 + 4 * s + 0).toNatClampNeg ∧ ¬ (11 + 4 * s + 2).toNatClampNeg = (11 + 4 * s + 1).toNatClampNeg ∧ ¬ (11 + 4 * s + 2).toNatClampNeg = (11 + 4 * s + 3).toNatClampNeg ∧
   ¬ (11 + 4 * s + 3).toNatClampNeg = (11 + 4 * s + 0).toNatClampNeg ∧ ¬ (11 + 4 * s + 3).toNatClampNeg = (11 + 4 * s + 1).toNatClampNeg ∧ ¬ (11 + 4 * s + 3).toNatClampNeg = (11 + 4 * s + 2).toNatClampNeg)
theorem ix_ok {s : Int32} (h1 : ¬ s < 0) (h2 : s < 6) : ixOk s := by
  rcases s_cases h1 h2 with rfl | rfl | rfl | rfl | rfl | rfl <;> (unfold ixOk rdy vp_in; decide)
def nmC (a b c d : Int32) : Int64 := ((((0 <<< ((16 : Int32).toInt64 &&& 63) ||| (a &&& 65535).toInt64) <<< ((16 : Int32).toInt64 &&& 63) ||| (b &&& 65535).toInt64) <<< ((16 : Int32).toInt64 &&& 63) ||| (c &&& 65535).toInt64) <<< ((16 : Int32).toInt64 &&& 63) ||| (d &&& 65535).toInt64)
def nmM (a b c d : Int32) : Int64 := (((0 * 65536 + (a &&& 65535).toInt64) * 65536 + (b &&& 65535).toInt64) * 65536 + (c &&& 65535).toInt64) * 65536 + (d &&& 65535).toInt64
theorem lk : ((0 : Int32) < 4) = True ∧ ((1 : Int32) < 4) = True ∧ ((2 : Int32) < 4) = True ∧ ((3 : Int32) < 4) = True ∧ ((4 : Int32) < 4) = False ∧ (0 : Int32) + 1 = 1 ∧ (1 : Int32) + 1 = 2 ∧ (2 : Int32) + 1 = 3 ∧ (3 : Int32) + 1 = 4 := by decide
theorem c_nIn_step {x rw cs : Nat} {s k : Int32} {v : Int64} {h : MH} {Q : MR → MH → Prop} (x1 : g_c h x = 7) (x2 : g_r h x 1 = some rw) (r1 : g_c h rw = 3) (r2 : g_r h rw 0 = some cs) (r3 : g_c h cs = 102) (r4 : g_n h cs = 36) (hk : k < 4) (hj : rdy 36 (11 + 4 * s + k)) : Ok 125 5 [.ref x, .int s, .long v, mk0, .int k] [] h 0 0 Q ↔ Ok 125 5 [.ref x, .int s, .long (v <<< ((16 : Int32).toInt64 &&& 63) ||| ((g_l h cs (11 + 4 * s + k).toNatClampNeg).toInt32 &&& 65535).toInt64), mk0, .int (k + 1)] [] h 0 0 Q := by
  rw [o125_5]
  simp only [o125_7, o125_8, o125_11, o125_12, o125_14, o125_15, o125_16, o125_17, o125_19, o125_22, o125_25, o125_26, o125_27, o125_28, o125_29, o125_32, c_X5_fourthIn (rw := rw) (cs := cs), mcs_0, mcs_l, Kn_v, true_and, not_true_eq_false, not_false_eq_true, false_implies, forall_const, Nat.reduceLeDiff, Nat.reduceAdd, lt_le, x1, x2, r1, r2, r3, r4, hk, hj]

theorem c_X5_numberIn {x rw cs : Nat} {s : Int32} {h : MH} {Q : MR → MH → Prop} (x1 : g_c h x = 7) (x2 : g_r h x 1 = some rw) (r1 : g_c h rw = 3) (r2 : g_r h rw 0 = some cs) (r3 : g_c h cs = 102) (r4 : g_n h cs = 36) (hs : ixOk s) : Ok 125 0 [.ref x, .int s, mk0, mk0, mk0] [] h 0 0 Q ↔ Q (.inl (some (.long (nmC (g_l h cs (11 + 4 * s + 0).toNatClampNeg).toInt32 (g_l h cs (11 + 4 * s + 1).toNatClampNeg).toInt32 (g_l h cs (11 + 4 * s + 2).toNatClampNeg).toInt32 (g_l h cs (11 + 4 * s + 3).toNatClampNeg).toInt32)))) h := by
  obtain ⟨⟨j0, j1, j2, j3⟩, -⟩ := hs
  obtain ⟨k0, k1, k2, k3, k4, a0, a1, a2, a3⟩ := lk
  have n0 : (0 : Int32) < 4 := by decide
  have n1 : (1 : Int32) < 4 := by decide
  have n2 : (2 : Int32) < 4 := by decide
  have n3 : (3 : Int32) < 4 := by decide
  have st := fun {v : Int64} {k : Int32} (hk : k < 4) (hj : rdy 36 (11 + 4 * s + k)) => c_nIn_step (v := v) (Q := Q) x1 x2 r1 r2 r3 r4 hk hj
  simp only [o125_0, o125_1, o125_2, o125_3, st n0 j0, a0, st n1 j1, a1, st n2 j2, a2, st n3 j3, a3]
  simp only [o125_5, o125_7, o125_8, o125_11, o125_12, o125_14, o125_15, o125_16, o125_17, o125_19, o125_35, o125_36, mcs_0, mcs_l, true_and, and_true, not_true_eq_false, not_false_eq_true, false_implies, forall_const, Nat.reduceLeDiff, Nat.reduceAdd, lt_le, k4, nmC]

theorem c_lay_step {x rw cs : Nat} {s o k : Int32} {v : Int64} {h : MH} {Q : MR → MH → Prop} (x1 : g_c h x = 7) (x2 : g_r h x 1 = some rw) (r1 : g_c h rw = 3) (r2 : g_r h rw 0 = some cs) (r3 : g_c h cs = 102) (r4 : g_n h cs = 36) (r5 : g_z h ≤ cs) (hk : k < 4) (hj : rdy 36 (11 + 4 * s + k)) : Ok 127 6 [.ref x, .int s, .long v, mk0, .int o, .int k] [] h 0 0 Q ↔ Ok 127 6 [.ref x, .int s, .long v, mk0, .int (o + (if g_l h cs (11 + 4 * s + k).toNatClampNeg = (foC v k).toInt64 then 0 else 1)), .int (k + 1)] [] (p_l h cs (11 + 4 * s + k).toNatClampNeg (foC v k).toInt64) 0 0 Q := by
  rw [o127_6]
  by_cases b : g_l h cs (11 + 4 * s + k).toNatClampNeg = (foC v k).toInt64 <;> simp only [o127_8, o127_9, o127_12, o127_14, o127_15, o127_16, o127_18, o127_19, o127_21, o127_24, o127_25, o127_28, o127_31, o127_32, o127_35, o127_36, o127_37, o127_39, o127_42, c_X5_fourthOf, c_X5_changeFourth (rw := rw) (cs := cs), mcs_0, mcs_i, mcs_r, Kn_v, true_and, and_true, not_true_eq_false, not_false_eq_true, false_implies, forall_const, if_true, if_false, Nat.reduceLeDiff, Nat.reduceAdd, i10, lt_le, x1, x2, r1, r2, r3, r4, r5, hk, hj, b]

theorem c_X5_layNumber {x rw cs : Nat} {s : Int32} {v : Int64} {h : MH} {Q : MR → MH → Prop} (x1 : g_c h x = 7) (x2 : g_r h x 1 = some rw) (r1 : g_c h rw = 3) (r2 : g_r h rw 0 = some cs) (r3 : g_c h cs = 102) (r4 : g_n h cs = 36) (r5 : g_z h ≤ cs) (hs : ixOk s) : Ok 127 0 [.ref x, .int s, .long v, mk0, mk0, mk0] [] h 0 0 Q ↔ Q (.inl (some (.int ((((0 + (if g_l h cs (11 + 4 * s + 0).toNatClampNeg = (foC v 0).toInt64 then 0 else 1)) + (if g_l h cs (11 + 4 * s + 1).toNatClampNeg = (foC v 1).toInt64 then 0 else 1)) + (if g_l h cs (11 + 4 * s + 2).toNatClampNeg = (foC v 2).toInt64 then 0 else 1)) + (if g_l h cs (11 + 4 * s + 3).toNatClampNeg = (foC v 3).toInt64 then 0 else 1))))) (p_l (p_l (p_l (p_l h cs (11 + 4 * s + 0).toNatClampNeg (foC v 0).toInt64) cs (11 + 4 * s + 1).toNatClampNeg (foC v 1).toInt64) cs (11 + 4 * s + 2).toNatClampNeg (foC v 2).toInt64) cs (11 + 4 * s + 3).toNatClampNeg (foC v 3).toInt64) := by
  obtain ⟨⟨j0, j1, j2, j3⟩, d01, d02, d03, d10, d12, d13, d20, d21, d23, d30, d31, d32⟩ := hs
  obtain ⟨k0, k1, k2, k3, k4, a0, a1, a2, a3⟩ := lk
  have n0 : (0 : Int32) < 4 := by decide
  have n1 : (1 : Int32) < 4 := by decide
  have n2 : (2 : Int32) < 4 := by decide
  have n3 : (3 : Int32) < 4 := by decide
  have st := fun {h : MH} {o k : Int32} (x1 : g_c h x = 7) (x2 : g_r h x 1 = some rw) (r1 : g_c h rw = 3) (r2 : g_r h rw 0 = some cs) (r3 : g_c h cs = 102) (r4 : g_n h cs = 36) (r5 : g_z h ≤ cs) (hk : k < 4) (hj : rdy 36 (11 + 4 * s + k)) => c_lay_step (s := s) (v := v) (o := o) (Q := Q) x1 x2 r1 r2 r3 r4 r5 hk hj
  simp only [o127_0, o127_1, o127_3, o127_4]
  rw [st x1 x2 r1 r2 r3 r4 r5 n0 j0, a0, st (by exact x1) (by exact x2) (by exact r1) (by exact r2) (by exact r3) (by exact r4) (by exact r5) n1 j1, a1, st (by exact x1) (by exact x2) (by exact r1) (by exact r2) (by exact r3) (by exact r4) (by exact r5) n2 j2, a2, st (by exact x1) (by exact x2) (by exact r1) (by exact r2) (by exact r3) (by exact r4) (by exact r5) n3 j3, a3]
  simp only [o127_6, o127_8, o127_9, o127_12, o127_14, o127_15, o127_16, o127_18, o127_19, o127_21, o127_45, o127_47, ml_pl, mcs_0, mcs_i, mcs_r, true_and, and_true, and_false, not_true_eq_false, not_false_eq_true, false_implies, forall_const, if_false, Nat.reduceLeDiff, Nat.reduceAdd, lt_le, k4, d10, d20, d21, d30, d31, d32]

def foM (a : Int64) (k : Int32) : Int32 := if 32767 < ((a >>> ((48 - 16 * k).toInt64 &&& 63)) &&& 65535).toInt32 then ((a >>> ((48 - 16 * k).toInt64 &&& 63)) &&& 65535).toInt32 - 65536 else ((a >>> ((48 - 16 * k).toInt64 &&& 63)) &&& 65535).toInt32
theorem c_X8_fourthOf {a : Int64} {k : Int32} {h : MH} {Q : MR → MH → Prop}  : Ok 172 0 [.long a, mk0, .int k, mk0] [] h 0 0 Q ↔ Q (.inl (some (.int (foM a k)))) h := by
  by_cases b0 : 32767 < ((a >>> ((48 - 16 * k).toInt64 &&& 63)) &&& 65535).toInt32 <;> simp only [o172_0, o172_1, o172_3, o172_5, o172_6, o172_7, o172_8, o172_9, o172_12, o172_13, o172_14, o172_15, o172_16, o172_19, o172_22, o172_23, o172_25, o172_26, o172_29, o172_30, true_and, and_true, not_true_eq_false, not_false_eq_true, false_implies, forall_const, if_true, if_false, lt_le, b0, foM]

theorem c_nOf_step {m sr : Nat} {s k : Int32} {v : Int64} {h : MH} {Q : MR → MH → Prop} (m1 : g_c h m = 9) (g1 : g_r h m 1 = some sr) (g2 : g_c h sr = 101) (g3 : g_n h sr = 36) (hk : k < 4) (hj : vp_in (11 + 4 * s + k) 36) : Ok 173 5 [.ref m, .int s, .long v, mk0, .int k] [] h 0 0 Q ↔ Ok 173 5 [.ref m, .int s, .long (v * 65536 + (g_i h sr (11 + 4 * s + k).toNatClampNeg &&& 65535).toInt64), mk0, .int (k + 1)] [] h 0 0 Q := by
  rw [o173_5]
  simp only [o173_7, o173_8, o173_11, o173_12, o173_15, o173_16, o173_17, o173_20, o173_22, o173_23, o173_24, o173_25, o173_26, o173_28, o173_29, o173_30, o173_32, o173_33, o173_34, o173_35, o173_36, o173_39, mrf_some, true_and, not_true_eq_false, not_false_eq_true, false_implies, forall_const, and_self, lt_le, m1, g1, g2, g3, hk, hj]

theorem c_X8_numberOf {m sr : Nat} {s : Int32} {h : MH} {Q : MR → MH → Prop} (m1 : g_c h m = 9) (g1 : g_r h m 1 = some sr) (g2 : g_c h sr = 101) (g3 : g_n h sr = 36) (hs : ixOk s) : Ok 173 0 [.ref m, .int s, mk0, mk0, mk0] [] h 0 0 Q ↔ Q (.inl (some (.long (nmM (g_i h sr (11 + 4 * s + 0).toNatClampNeg) (g_i h sr (11 + 4 * s + 1).toNatClampNeg) (g_i h sr (11 + 4 * s + 2).toNatClampNeg) (g_i h sr (11 + 4 * s + 3).toNatClampNeg))))) h := by
  obtain ⟨⟨j0, j1, j2, j3⟩, -⟩ := hs
  obtain ⟨k0, k1, k2, k3, k4, a0, a1, a2, a3⟩ := lk
  have n0 : (0 : Int32) < 4 := by decide
  have n1 : (1 : Int32) < 4 := by decide
  have n2 : (2 : Int32) < 4 := by decide
  have n3 : (3 : Int32) < 4 := by decide
  have st := fun {v : Int64} {k : Int32} (hk : k < 4) (hj : vp_in (11 + 4 * s + k) 36) => c_nOf_step (v := v) (Q := Q) m1 g1 g2 g3 hk hj
  simp only [o173_0, o173_1, o173_2, o173_3, st n0 j0.2.2, a0, st n1 j1.2.2, a1, st n2 j2.2.2, a2, st n3 j3.2.2, a3]
  simp only [o173_5, o173_7, o173_8, o173_11, o173_12, o173_15, o173_16, o173_17, o173_20, o173_22, o173_23, o173_24, o173_25, o173_26, o173_28, o173_42, o173_43, and_true, not_true_eq_false, not_false_eq_true, false_implies, forall_const, lt_le, k4, nmM]

theorem c_laid_step {m sr : Nat} {s o k : Int32} {v : Int64} {h : MH} {Q : MR → MH → Prop} (m1 : g_c h m = 9) (g1 : g_r h m 1 = some sr) (g2 : g_c h sr = 101) (g3 : g_n h sr = 36) (g4 : g_z h ≤ sr) (hk : k < 4) (hj : vp_in (11 + 4 * s + k) 36) : Ok 175 6 [.ref m, .int s, .long v, mk0, .int o, .int k] [] h 0 0 Q ↔ Ok 175 6 [.ref m, .int s, .long v, mk0, .int (o + (if g_i h sr (11 + 4 * s + k).toNatClampNeg = foM v k then 0 else 1)), .int (k + 1)] [] (p_i h sr (11 + 4 * s + k).toNatClampNeg (foM v k)) 0 0 Q := by
  rw [o175_6]
  simp only [o175_8, o175_9, o175_12, o175_14, o175_15, o175_17, o175_18, o175_19, o175_20, o175_21, o175_23, o175_24, o175_25, o175_27, o175_30, o175_33, o175_34, o175_36, o175_39, c_X8_fourthOf, c_X8_writeShort (sr := sr), mcs_0, mcs_i, mcs_r, Kn_v, true_and, not_true_eq_false, not_false_eq_true, false_implies, forall_const, Nat.reduceLeDiff, Nat.reduceAdd, lt_le, m1, g1, g2, g3, g4, hk, hj]

theorem c_X8_laid {m sr : Nat} {s : Int32} {v : Int64} {h : MH} {Q : MR → MH → Prop} (m1 : g_c h m = 9) (g1 : g_r h m 1 = some sr) (g2 : g_c h sr = 101) (g3 : g_n h sr = 36) (g4 : g_z h ≤ sr) (hs : ixOk s) : Ok 175 0 [.ref m, .int s, .long v, mk0, mk0, mk0] [] h 0 0 Q ↔ Q (.inl (some (.int ((((0 + (if g_i h sr (11 + 4 * s + 0).toNatClampNeg = foM v 0 then 0 else 1)) + (if g_i h sr (11 + 4 * s + 1).toNatClampNeg = foM v 1 then 0 else 1)) + (if g_i h sr (11 + 4 * s + 2).toNatClampNeg = foM v 2 then 0 else 1)) + (if g_i h sr (11 + 4 * s + 3).toNatClampNeg = foM v 3 then 0 else 1))))) (p_i (p_i (p_i (p_i h sr (11 + 4 * s + 0).toNatClampNeg (foM v 0)) sr (11 + 4 * s + 1).toNatClampNeg (foM v 1)) sr (11 + 4 * s + 2).toNatClampNeg (foM v 2)) sr (11 + 4 * s + 3).toNatClampNeg (foM v 3)) := by
  obtain ⟨⟨j0, j1, j2, j3⟩, d01, d02, d03, d10, d12, d13, d20, d21, d23, d30, d31, d32⟩ := hs
  obtain ⟨k0, k1, k2, k3, k4, a0, a1, a2, a3⟩ := lk
  have n0 : (0 : Int32) < 4 := by decide
  have n1 : (1 : Int32) < 4 := by decide
  have n2 : (2 : Int32) < 4 := by decide
  have n3 : (3 : Int32) < 4 := by decide
  have st := fun {h : MH} {o k : Int32} (m1 : g_c h m = 9) (g1 : g_r h m 1 = some sr) (g2 : g_c h sr = 101) (g3 : g_n h sr = 36) (g4 : g_z h ≤ sr) (hk : k < 4) (hj : vp_in (11 + 4 * s + k) 36) => c_laid_step (s := s) (v := v) (o := o) (Q := Q) m1 g1 g2 g3 g4 hk hj
  simp only [o175_0, o175_1, o175_3, o175_4]
  rw [st m1 g1 g2 g3 g4 n0 j0.2.2, a0, st (by exact m1) (by exact g1) (by exact g2) (by exact g3) (by exact g4) n1 j1.2.2, a1, st (by exact m1) (by exact g1) (by exact g2) (by exact g3) (by exact g4) n2 j2.2.2, a2, st (by exact m1) (by exact g1) (by exact g2) (by exact g3) (by exact g4) n3 j3.2.2, a3]
  simp only [o175_6, o175_8, o175_9, o175_12, o175_14, o175_15, o175_17, o175_18, o175_19, o175_20, o175_21, o175_23, o175_24, o175_25, o175_27, o175_42, o175_44, mi_pi, mcs_0, mcs_i, mcs_r, true_and, and_true, and_false, not_true_eq_false, not_false_eq_true, false_implies, forall_const, if_false, Nat.reduceLeDiff, Nat.reduceAdd, lt_le, k4, d10, d20, d21, d30, d31, d32]


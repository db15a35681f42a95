set_option maxRecDepth 16384
/-! TEXTS: numbers in digits -/
def ng32 (n : Nat) : Int32 := Int32.ofInt (-(n : Int))
def ng64 (n : Nat) : Int64 := Int64.ofInt (-(n : Int))
theorem ng32_t {n : Nat} (h : n ≤ 2147483648) : (ng32 n).toInt = -(n : Int) := Int32.toInt_ofInt_of_le (by omega) (by omega)
theorem ng64_t {n : Nat} (h : n ≤ 9223372036854775808) : (ng64 n).toInt = -(n : Int) := Int64.toInt_ofInt_of_le (by omega) (by omega)
theorem nat_t {n : Nat} (h : n < 2147483648) : (Int32.ofNat n).toInt = (n : Int) := Int32.toInt_ofNat_of_lt h
theorem c100 : (100 : Int32).toInt = 100 ∧ (100 : Int64).toInt = 100 ∧ (10 : Int64).toInt = 10 ∧ (10 : Int32).toInt = 10 := by decide
theorem tdv (n : Nat) (d : Nat) : (-(n : Int)).tdiv (d : Int) = -((n / d : Nat) : Int) := by
  rw [Int.neg_tdiv, ← Int.ofNat_tdiv]
theorem ng32_100 {n : Nat} (h : n ≤ 2147483648) : ng32 n / 100 = ng32 (n / 100) := by
  apply Int32.toInt_inj.mp
  rw [Int32.toInt_div, c100.1, ng32_t h, ng32_t (by omega), show (100 : Int) = ((100 : Nat) : Int) from rfl, tdv, Int.bmod_eq_of_le (by omega) (by omega)]
theorem ng64_100 {n : Nat} (h : n ≤ 9223372036854775808) : ng64 n / 100 = ng64 (n / 100) := by
  apply Int64.toInt_inj.mp
  rw [Int64.toInt_div, c100.2.1, ng64_t h, ng64_t (by omega), show (100 : Int) = ((100 : Nat) : Int) from rfl, tdv, Int.bmod_eq_of_le (by omega) (by omega)]
theorem ng32_r {n : Nat} (h : n ≤ 2147483648) : ng32 (n / 100) * 100 - ng32 n = Int32.ofNat (n % 100) := by
  apply Int32.toInt_inj.mp
  rw [Int32.toInt_sub, Int32.toInt_mul, c100.1, ng32_t h, ng32_t (by omega), nat_t (by omega), Int.bmod_eq_of_le (n := -((n / 100 : Nat) : Int) * 100) (by omega) (by omega), Int.bmod_eq_of_le (by omega) (by omega)]
  omega
theorem ng64_r {n : Nat} (h : n ≤ 9223372036854775808) : (ng64 (n / 100) * 100 - ng64 n).toInt32 = Int32.ofNat (n % 100) := by
  apply Int32.toInt_inj.mp
  rw [Int64.toInt_toInt32, Int64.toInt_sub, Int64.toInt_mul, c100.2.1, ng64_t h, ng64_t (by omega), nat_t (by omega), Int.bmod_eq_of_le (n := -((n / 100 : Nat) : Int) * 100) (by omega) (by omega), Int.bmod_eq_of_le (n := -((n / 100 : Nat) : Int) * 100 - -(n : Int)) (by omega) (by omega), Int.bmod_eq_of_le (by omega) (by omega)]
  omega
theorem ng32_neg {n : Nat} (h : n < 2147483648) : -(ng32 n) = Int32.ofNat n := by
  apply Int32.toInt_inj.mp
  rw [Int32.toInt_neg, ng32_t (by omega), nat_t h, Int.bmod_eq_of_le (by omega) (by omega)]
  omega
theorem ng32_gt {n : Nat} (h : n ≤ 2147483648) : (-100 < ng32 n) = (n < 100) := by
  apply propext
  rw [Int32.lt_iff_toInt_lt, ng32_t h, show (-100 : Int32).toInt = -100 from rfl]
  omega
theorem ng32_9 {n : Nat} (h : n ≤ 2147483648) : (ng32 n < -9) = (9 < n) := by
  apply propext
  rw [Int32.lt_iff_toInt_lt, ng32_t h, show (-9 : Int32).toInt = -9 from rfl]
  omega
theorem ng64_gt {n : Nat} (h : n ≤ 9223372036854775808) : (-2147483648 < ng64 n) = (n < 2147483648) := by
  apply propext
  rw [Int64.lt_iff_toInt_lt, ng64_t h, show (-2147483648 : Int64).toInt = -2147483648 from rfl]
  omega
theorem ng64_32 {n : Nat} (h : n < 2147483648) : (ng64 n).toInt32 = ng32 n := by
  apply Int32.toInt_inj.mp
  rw [Int64.toInt_toInt32, ng64_t (by omega), ng32_t (by omega), Int.bmod_eq_of_le (by omega) (by omega)]
theorem ng64_of {x : Int64} (h : x < 0) : x = ng64 x.toInt.natAbs := by
  apply Int64.toInt_inj.mp
  have h1 := x.le_toInt
  rw [Int64.lt_iff_toInt_lt, show (0 : Int64).toInt = 0 from rfl] at h
  rw [ng64_t (by omega)]
  omega
theorem ng64_neg {x : Int64} (h : ¬ x < 0) : -x = ng64 x.toInt.natAbs := by
  apply Int64.toInt_inj.mp
  have h1 := x.toInt_lt
  rw [Int64.lt_iff_toInt_lt, show (0 : Int64).toInt = 0 from rfl] at h
  rw [ng64_t (by omega), Int64.toInt_neg, Int.bmod_eq_of_le (by omega) (by omega)]
  omega
theorem ng32_of {x : Int32} (h : x < 0) : x = ng32 x.toInt.natAbs := by
  apply Int32.toInt_inj.mp
  have h1 := x.le_toInt
  rw [Int32.lt_iff_toInt_lt, show (0 : Int32).toInt = 0 from rfl] at h
  rw [ng32_t (by omega)]
  omega
theorem ng32_negx {x : Int32} (h : ¬ x < 0) : -x = ng32 x.toInt.natAbs := by
  apply Int32.toInt_inj.mp
  have h1 := x.toInt_lt
  rw [Int32.lt_iff_toInt_lt, show (0 : Int32).toInt = 0 from rfl] at h
  rw [ng32_t (by omega), Int32.toInt_neg, Int.bmod_eq_of_le (by omega) (by omega)]
  omega
theorem i64_abs (x : Int64) : x.toInt.natAbs ≤ 9223372036854775808 := by
  have h1 := x.toInt_lt
  have h2 := x.le_toInt
  omega
theorem i32_abs (x : Int32) : x.toInt.natAbs ≤ 2147483648 := by
  have h1 := x.toInt_lt
  have h2 := x.le_toInt
  omega
/-- tsz of an int -/
def isz (v : Int32) : Nat := (if v < 0 then 1 else 0) + ndf 18 v.toInt.natAbs
theorem isz_tsz (v : Int32) : tsz v.toInt64 = isz v := by
  unfold tsz isz
  have e : v.toInt64.toInt = v.toInt := Int32.toInt_toInt64 v
  have e2 : (v.toInt64 < 0) = (v < 0) := by
    rw [Int64.lt_iff_toInt_lt, e, Int32.lt_iff_toInt_lt]
    rfl
  rw [e]
  by_cases h : v < 0
  · rw [if_pos h, if_pos (by rw [e2]; exact h)]
  · rw [if_neg h, if_neg (by rw [e2]; exact h)]
theorem isz_le (v : Int32) : isz v ≤ 11 := by
  unfold isz
  have h := i32_abs v
  have h2 := (ndf_le 18 v.toInt.natAbs 10 (by decide) (by decide)).mpr (by omega)
  split <;> omega
/-- a short one has at most six signs -/
theorem isz_short {v : Int32} (h : v.toInt16.toInt32 = v) : isz v ≤ 6 := by
  have h1 := v.toInt16.toInt_lt
  have h2 := v.toInt16.le_toInt
  have e : v.toInt = v.toInt16.toInt := by
    have := congrArg Int32.toInt h
    rw [Int16.toInt_toInt32] at this
    exact this.symm
  unfold isz
  have h3 := (ndf_le 18 v.toInt.natAbs 5 (by decide) (by decide)).mpr (by omega)
  split <;> omega
/-! how many signs: Long -/
def p10 (i : Nat) : Int64 := ng64 (10 ^ i)
theorem p10_s {i : Nat} (h : i < 18) : 10 * p10 i = p10 (i + 1) := by
  have e : 10 ^ (i + 1) ≤ 10 ^ 18 := Nat.pow_le_pow_right (by decide) (by omega)
  have e2 : 10 ^ (i + 1) = 10 ^ i * 10 := Nat.pow_succ 10 i
  apply Int64.toInt_inj.mp
  unfold p10
  rw [Int64.toInt_mul, c100.2.2.1, ng64_t (by omega), ng64_t (by omega), Int.bmod_eq_of_le (by omega) (by omega)]
  omega
theorem p10_lt {i n : Nat} (h : i ≤ 18) (hn : n ≤ 9223372036854775808) : (p10 i < ng64 n) = (n < 10 ^ i) := by
  have e : 10 ^ i ≤ 10 ^ 18 := Nat.pow_le_pow_right (by decide) h
  apply propext
  unfold p10
  rw [Int64.lt_iff_toInt_lt, ng64_t (by omega), ng64_t hn]
  omega
theorem ssL_loop {n : Nat} {d : Int32} {h : MH} {Q : MR → MH → Prop} (hn : n ≤ 9223372036854775808) : ∀ (f i : Nat), i + f = 19 → 1 ≤ i → i ≤ ndf 18 n → (Ok 261 20 [.long (ng64 n), mk0, .int d, .long (p10 i), mk0, .int (Int32.ofNat i)] [] h 0 0 Q ↔ Q (.inl (some (.int (Int32.ofNat (ndf 18 n) + d)))) h)
  | 0, i, e, h1, h2 => by
    have h3 : ndf 18 n = 19 := by have := ndf_le_f 18 n; omega
    have h4 : i = 19 := by omega
    subst h4
    have c1 : ((Int32.ofNat 19 : Int32) < (19 : Int32)) = False := by decide
    have c2 : (19 : Int32) = Int32.ofNat 19 := by decide
    rw [h3, o261_20]
    simp only [o261_22, o261_24, o261_27, o261_28, o261_29, o261_30, o261_33, o261_35, o261_36, o261_37, o261_38, o261_41, o261_42, o261_43, o261_44, o261_47, o261_50, o261_52, o261_53, o261_54, and_true, not_true_eq_false, not_false_eq_true, false_implies, forall_const, lt_le, Classical.not_not, c2, n_irr]
  | f + 1, i, e, h1, h2 => by
    have c1 : (Int32.ofNat i < (19 : Int32)) = True := by
      rw [show (19 : Int32) = Int32.ofNat 19 by decide, n_lt (by omega) (by omega)]
      exact eq_true (by omega)
    have c2 := p10_lt (i := i) (n := n) (by omega) hn
    have c3 := ndf_le 18 n i h1 (by omega)
    rw [o261_20]
    by_cases hl : n < 10 ^ i
    · have c4 : ndf 18 n = i := by have := c3.mpr hl; omega
      rw [c4]
      simp only [o261_22, o261_24, o261_27, o261_28, o261_29, o261_30, o261_33, o261_35, o261_36, o261_37, o261_38, o261_41, o261_42, o261_43, o261_44, o261_47, o261_50, o261_52, o261_53, o261_54, true_and, not_true_eq_false, not_false_eq_true, false_implies, forall_const, lt_le, c1, lg_cmp_gt, c2, hl]
    · have c4 : ¬ ndf 18 n ≤ i := fun z => hl (c3.mp z)
      have c5 : Int32.ofNat i + 1 = Int32.ofNat (i + 1) := n_add i 1
      by_cases hi : i = 18
      · subst hi
        have c6 : ndf 18 n = 19 := by have := ndf_le_f 18 n; omega
        have c7 : ((Int32.ofNat 19 : Int32) < (19 : Int32)) = False := by decide
        have c8 : (19 : Int32) = Int32.ofNat 19 := by decide
        rw [c6]
        simp only [o261_22, o261_24, o261_27, o261_28, o261_29, o261_30, o261_33, o261_35, o261_36, o261_37, o261_38, o261_41, o261_42, o261_43, o261_44, o261_47, o261_50, o261_52, o261_53, o261_54, true_and, and_true, not_true_eq_false, not_false_eq_true, false_implies, forall_const, Nat.reduceAdd, lt_le, c1, lg_cmp_gt, c2, hl, c5]
        rw [o261_20]
        simp only [o261_22, o261_24, o261_27, o261_28, o261_29, o261_30, o261_33, o261_35, o261_36, o261_37, o261_38, o261_41, o261_42, o261_43, o261_44, o261_47, o261_50, o261_52, o261_53, o261_54, and_true, not_true_eq_false, not_false_eq_true, false_implies, forall_const, lt_le, Classical.not_not, c8, n_irr]
      · have c6 := p10_s (i := i) (by omega)
        have ih := ssL_loop (d := d) (h := h) (Q := Q) hn f (i + 1) (by omega) (by omega) (by omega)
        refine Iff.trans ?_ ih
        simp only [o261_22, o261_24, o261_27, o261_28, o261_29, o261_30, o261_33, o261_35, o261_36, o261_37, o261_38, o261_41, o261_42, o261_43, o261_44, o261_47, o261_50, o261_52, o261_53, o261_54, true_and, and_true, not_true_eq_false, not_false_eq_true, false_implies, forall_const, lt_le, c1, lg_cmp_gt, c2, hl, c5, c6]
theorem J_ssL {v : Int64} {h : MH} {Q : MR → MH → Prop} : Ok 261 0 [.long v, mk0, mk0, mk0, mk0, mk0] [] h 0 0 Q ↔ Q (.inl (some (.int (Int32.ofNat (tsz v))))) h := by
  have c1 : (-10 : Int64) = p10 1 := by decide
  have lp := fun d => ssL_loop (n := v.toInt.natAbs) (d := d) (h := h) (Q := Q) (i64_abs v) 18 1 rfl (by decide) (ndf_pos 18 _)
  have fin : Int32.ofNat (ndf 18 v.toInt.natAbs) + (if v < 0 then 1 else 0) = Int32.ofNat (tsz v) := by
    unfold tsz
    by_cases hv : v < 0
    · rw [if_pos hv, if_pos hv, show (1 : Int32) = Int32.ofNat 1 from rfl, n_add, Nat.add_comm]
    · rw [if_neg hv, if_neg hv, show (0 : Int32) = Int32.ofNat 0 from rfl, n_add, Nat.add_comm]
  by_cases hv : v < 0
  · have l1 := lp 1
    rw [if_pos hv] at fin
    rw [fin, ← ng64_of hv, ← c1] at l1
    refine Iff.trans ?_ l1
    simp only [o261_0, o261_1, o261_2, o261_3, o261_4, o261_5, o261_8, o261_9, o261_10, o261_11, o261_12, o261_13, o261_16, o261_17, o261_18, and_true, not_true_eq_false, false_implies, forall_const, lg_cmp_lt, hv]
    all_goals exact Iff.rfl
  · have l1 := lp 0
    rw [if_neg hv] at fin
    rw [fin, ← ng64_neg hv, ← c1] at l1
    refine Iff.trans ?_ l1
    simp only [o261_0, o261_1, o261_2, o261_3, o261_4, o261_5, o261_8, o261_9, o261_10, o261_11, o261_12, o261_13, o261_16, o261_17, o261_18, true_and, not_false_eq_true, false_implies, forall_const, lg_cmp_lt, hv]
    all_goals exact Iff.rfl
/-! how many signs: Integer -/
def q10 (i : Nat) : Int32 := ng32 (10 ^ i)
theorem q10_s {i : Nat} (h : i < 9) : (10 : Int32) * q10 i = q10 (i + 1) := by
  have e : 10 ^ (i + 1) ≤ 10 ^ 9 := Nat.pow_le_pow_right (by decide) (by omega)
  have e2 : 10 ^ (i + 1) = 10 ^ i * 10 := Nat.pow_succ 10 i
  apply Int32.toInt_inj.mp
  unfold q10
  rw [show (10 : Int32) = 10 by decide, Int32.toInt_mul, c100.2.2.2, ng32_t (by omega), ng32_t (by omega), Int.bmod_eq_of_le (by omega) (by omega)]
  omega
theorem q10_lt {i n : Nat} (h : i ≤ 9) (hn : n ≤ 2147483648) : (q10 i < ng32 n) = (n < 10 ^ i) := by
  have e : 10 ^ i ≤ 10 ^ 9 := Nat.pow_le_pow_right (by decide) h
  apply propext
  unfold q10
  rw [Int32.lt_iff_toInt_lt, ng32_t (by omega), ng32_t hn]
  omega
theorem ssI_loop {n : Nat} {d : Int32} {h : MH} {Q : MR → MH → Prop} (hn : n ≤ 2147483648) (h10 : ndf 18 n ≤ 10) : ∀ (f i : Nat), i + f = 10 → 1 ≤ i → i ≤ ndf 18 n → (Ok 259 16 [.int (ng32 n), .int d, .int (q10 i), .int (Int32.ofNat i)] [] h 0 0 Q ↔ Q (.inl (some (.int (Int32.ofNat (ndf 18 n) + d)))) h)
  | 0, i, e, h1, h2 => by
    have h3 : ndf 18 n = 10 := by omega
    have h4 : i = 10 := by omega
    subst h4
    have c1 : ((Int32.ofNat 10 : Int32) < (10 : Int32)) = False := by decide
    have c2 : (10 : Int32) = Int32.ofNat 10 := by decide
    rw [h3, o259_16]
    simp only [o259_17, o259_19, o259_22, o259_23, o259_24, o259_27, o259_28, o259_29, o259_30, o259_31, o259_33, o259_34, o259_35, o259_36, o259_39, o259_42, o259_44, o259_45, o259_46, and_true, not_true_eq_false, not_false_eq_true, false_implies, forall_const, lt_le, Classical.not_not, c2, n_irr]
  | f + 1, i, e, h1, h2 => by
    have c1 : (Int32.ofNat i < (10 : Int32)) = True := by
      rw [show (10 : Int32) = Int32.ofNat 10 by decide, n_lt (by omega) (by omega)]
      exact eq_true (by omega)
    have c2 := q10_lt (i := i) (n := n) (by omega) hn
    have c3 := ndf_le 18 n i h1 (by omega)
    rw [o259_16]
    by_cases hl : n < 10 ^ i
    · have c4 : ndf 18 n = i := by have := c3.mpr hl; omega
      rw [c4]
      simp only [o259_17, o259_19, o259_22, o259_23, o259_24, o259_27, o259_28, o259_29, o259_30, o259_31, o259_33, o259_34, o259_35, o259_36, o259_39, o259_42, o259_44, o259_45, o259_46, true_and, not_true_eq_false, not_false_eq_true, false_implies, forall_const, lt_le, c1, c2, hl]
    · have c4 : ¬ ndf 18 n ≤ i := fun z => hl (c3.mp z)
      have c5 : Int32.ofNat i + 1 = Int32.ofNat (i + 1) := n_add i 1
      by_cases hi : i = 9
      · subst hi
        have c6 : ndf 18 n = 10 := by omega
        have c7 : ((Int32.ofNat 10 : Int32) < (10 : Int32)) = False := by decide
        have c8 : (10 : Int32) = Int32.ofNat 10 := by decide
        rw [c6]
        simp only [o259_17, o259_19, o259_22, o259_23, o259_24, o259_27, o259_28, o259_29, o259_30, o259_31, o259_33, o259_34, o259_35, o259_36, o259_39, o259_42, o259_44, o259_45, o259_46, true_and, and_true, not_true_eq_false, not_false_eq_true, false_implies, forall_const, Nat.reduceAdd, lt_le, c1, c2, hl, c5]
        rw [o259_16]
        simp only [o259_17, o259_19, o259_22, o259_23, o259_24, o259_27, o259_28, o259_29, o259_30, o259_31, o259_33, o259_34, o259_35, o259_36, o259_39, o259_42, o259_44, o259_45, o259_46, and_true, not_true_eq_false, not_false_eq_true, false_implies, forall_const, lt_le, Classical.not_not, c8, n_irr]
      · have c6 := q10_s (i := i) (by omega)
        have ih := ssI_loop (d := d) (h := h) (Q := Q) hn h10 f (i + 1) (by omega) (by omega) (by omega)
        refine Iff.trans ?_ ih
        simp only [o259_17, o259_19, o259_22, o259_23, o259_24, o259_27, o259_28, o259_29, o259_30, o259_31, o259_33, o259_34, o259_35, o259_36, o259_39, o259_42, o259_44, o259_45, o259_46, true_and, and_true, not_true_eq_false, not_false_eq_true, false_implies, forall_const, lt_le, c1, c2, hl, c5, c6]
theorem J_ssI {v : Int32} {h : MH} {Q : MR → MH → Prop} : Ok 259 0 [.int v, mk0, mk0, mk0] [] h 0 0 Q ↔ Q (.inl (some (.int (Int32.ofNat (isz v))))) h := by
  have c1 : (-10 : Int32) = q10 1 := by decide
  have h10 : ndf 18 v.toInt.natAbs ≤ 10 := (ndf_le 18 _ 10 (by decide) (by decide)).mpr (by have := i32_abs v; omega)
  have lp := fun d => ssI_loop (n := v.toInt.natAbs) (d := d) (h := h) (Q := Q) (i32_abs v) h10 9 1 rfl (by decide) (ndf_pos 18 _)
  have fin : Int32.ofNat (ndf 18 v.toInt.natAbs) + (if v < 0 then 1 else 0) = Int32.ofNat (isz v) := by
    unfold isz
    by_cases hv : v < 0
    · rw [if_pos hv, if_pos hv, show (1 : Int32) = Int32.ofNat 1 from rfl, n_add, Nat.add_comm]
    · rw [if_neg hv, if_neg hv, show (0 : Int32) = Int32.ofNat 0 from rfl, n_add, Nat.add_comm]
  by_cases hv : v < 0
  · have l1 := lp 1
    rw [if_pos hv] at fin
    rw [fin, ← ng32_of hv, ← c1] at l1
    refine Iff.trans ?_ l1
    simp only [o259_0, o259_1, o259_2, o259_3, o259_6, o259_7, o259_8, o259_9, o259_10, o259_11, o259_13, o259_14, o259_15, and_true, not_true_eq_false, false_implies, forall_const, hv]
    all_goals exact Iff.rfl
  · have l1 := lp 0
    rw [if_neg hv] at fin
    rw [fin, ← ng32_negx hv, ← c1] at l1
    refine Iff.trans ?_ l1
    simp only [o259_0, o259_1, o259_2, o259_3, o259_6, o259_7, o259_8, o259_9, o259_10, o259_11, o259_13, o259_14, o259_15, true_and, not_false_eq_true, false_implies, forall_const, hv]
    all_goals exact Iff.rfl

/-! PURE FACTS: numbers -/
theorem bv_oradd {x y : BitVec 64} {k : Nat} (hy : y.toNat < 2 ^ k) : x <<< k ||| y = x <<< k + y := by
  refine (BitVec.add_eq_or_of_and_eq_zero _ _ ?_).symm
  apply BitVec.eq_of_getLsbD_eq
  intro i hi
  rw [BitVec.getLsbD_and, BitVec.getLsbD_shiftLeft, BitVec.getLsbD_zero]
  by_cases h : i < k
  · simp [h]
  · have : y.getLsbD i = false := by
      rw [BitVec.getLsbD, Nat.testBit_lt_two_pow (Nat.lt_of_lt_of_le hy (Nat.pow_le_pow_right (by decide) (by omega)))]
    simp [this]
theorem bv_shlmul {x : BitVec 64} {k : Nat} : x <<< k = x * BitVec.ofNat 64 (2 ^ k) := by
  apply BitVec.eq_of_toNat_eq
  rw [BitVec.toNat_shiftLeft, BitVec.toNat_mul, BitVec.toNat_ofNat, Nat.shiftLeft_eq, Nat.mul_mod_mod]
theorem i64_small {y : Int64} (h : y.toBitVec.toNat < 2 ^ 63) : y.toInt = (y.toBitVec.toNat : Int) := by
  have : y.toInt = y.toBitVec.toInt := rfl
  rw [this, BitVec.toInt_eq_toNat_cond, if_pos (by omega)]
theorem i32_mask (c : Int32) : (c &&& 65535).toInt = ((c.toBitVec.toNat % 65536 : Nat) : Int) := by
  have e : (c &&& 65535).toInt = (c &&& 65535).toBitVec.toInt := rfl
  have e2 : (c &&& 65535).toBitVec.toNat = c.toBitVec.toNat % 65536 := by
    rw [Int32.toBitVec_and, BitVec.toNat_and]
    exact Nat.and_two_pow_sub_one_eq_mod _ 16
  rw [e, BitVec.toInt_eq_toNat_cond, if_pos (by omega), e2]
theorem i64_ofi (c : Int32) (h : 0 ≤ c.toInt) : c.toInt64.toBitVec.toNat = c.toInt.toNat := by
  have e : c.toInt64.toInt = c.toInt := Int32.toInt_toInt64 c
  have e1 : c.toInt64.toInt = c.toInt64.toBitVec.toInt := rfl
  have h2 := c.toInt_lt
  rw [e1, BitVec.toInt_eq_toNat_cond] at e
  split at e <;> omega
theorem sh16 (x : Int64) (c : Int32) : (x <<< ((16 : Int32).toInt64 &&& 63) ||| (c &&& 65535).toInt64) = x * 65536 + (c &&& 65535).toInt64 := by
  apply Int64.toBitVec_inj.mp
  rw [Int64.toBitVec_or, Int64.toBitVec_add, Int64.toBitVec_mul, Int64.toBitVec_shiftLeft]
  have e1 : ((16 : Int32).toInt64 &&& 63).toBitVec.smod 64 = 16#64 := by decide
  have hm := i32_mask c
  have hz := i64_ofi (c &&& 65535) (by rw [hm]; omega)
  rw [e1]
  show x.toBitVec <<< 16 ||| _ = _
  rw [bv_oradd (by rw [hz, hm]; omega), bv_shlmul]
  rfl
theorem nm_eq (a b c d : Int32) : nmC a b c d = nmM a b c d := by
  unfold nmC nmM
  rw [sh16, sh16, sh16, sh16]
theorem jo_eq (a b : Int32) : (a.toInt64 <<< ((32 : Int32).toInt64 &&& 63) ||| (b.toInt64 &&& 4294967295)) = a.toInt64 * 4294967296 + (if b < 0 then b.toInt64 + 4294967296 else b.toInt64) := by
  have hb : (b.toInt64 &&& 4294967295).toBitVec.toNat = b.toBitVec.toNat := by
    rw [Int64.toBitVec_and, BitVec.toNat_and]
    have e : (4294967295 : Int64).toBitVec.toNat = 2 ^ 32 - 1 := by decide
    rw [e, Nat.and_two_pow_sub_one_eq_mod]
    have e2 : b.toInt64.toInt = b.toInt := Int32.toInt_toInt64 b
    have e3 : b.toInt64.toInt = b.toInt64.toBitVec.toInt := rfl
    have e4 : b.toInt = b.toBitVec.toInt := rfl
    rw [e3, BitVec.toInt_eq_toNat_cond, e4, BitVec.toInt_eq_toNat_cond] at e2
    have := b.toBitVec.isLt
    have := b.toInt64.toBitVec.isLt
    split at e2 <;> split at e2 <;> omega
  have hlt := b.toBitVec.isLt
  have hy : (b.toInt64 &&& 4294967295) = (if b < 0 then b.toInt64 + 4294967296 else b.toInt64) := by
    apply Int64.toInt_inj.mp
    rw [i64_small (by omega), hb]
    have e4 : b.toInt = b.toBitVec.toInt := rfl
    have e5 := BitVec.toInt_eq_toNat_cond b.toBitVec
    have e6 : b < 0 ↔ b.toInt < 0 := by rw [Int32.lt_iff_toInt_lt]; rfl
    by_cases h : b < 0
    · rw [if_pos h, Int64.toInt_add, Int32.toInt_toInt64]
      have e7 : (4294967296 : Int64).toInt = 4294967296 := by decide
      have := e6.mp h
      rw [e7, Int.bmod_eq_of_le (by omega) (by omega)]
      split at e5 <;> omega
    · rw [if_neg h, Int32.toInt_toInt64]
      have : ¬ b.toInt < 0 := fun z => h (e6.mpr z)
      split at e5 <;> omega
  rw [← hy]
  apply Int64.toBitVec_inj.mp
  rw [Int64.toBitVec_or, Int64.toBitVec_add, Int64.toBitVec_mul, Int64.toBitVec_shiftLeft]
  have e1 : ((32 : Int32).toInt64 &&& 63).toBitVec.smod 64 = 32#64 := by decide
  rw [e1]
  show a.toInt64.toBitVec <<< 32 ||| _ = _
  rw [bv_oradd (by rw [hb]; omega), bv_shlmul]
  rfl
theorem fo_eq0 (b : Int64) : b.toInt32.toInt16.toInt32 = (if 32767 < (b &&& 65535).toInt32 then (b &&& 65535).toInt32 - 65536 else (b &&& 65535).toInt32) := by
  have hm : (b &&& 65535).toBitVec.toNat = b.toBitVec.toNat % 65536 := by
    rw [Int64.toBitVec_and, BitVec.toNat_and]
    exact Nat.and_two_pow_sub_one_eq_mod _ 16
  have hz : (b &&& 65535).toInt32.toInt = ((b.toBitVec.toNat % 65536 : Nat) : Int) := by
    rw [Int64.toInt_toInt32, i64_small (by omega), hm, Int.bmod_eq_of_le (by omega) (by omega)]
  have hl : b.toInt32.toInt16.toInt32.toInt = b.toInt.bmod 65536 := by
    rw [Int16.toInt_toInt32, Int32.toInt_toInt16, Int64.toInt_toInt32, Int.bmod_bmod_of_dvd (by decide)]
  have hn : b.toInt.bmod 65536 = ((b.toBitVec.toNat : Int)).bmod 65536 := by
    have e : b.toInt = b.toBitVec.toInt := rfl
    rw [e, BitVec.toInt_eq_toNat_cond]
    split
    · rfl
    · have h9 : ((b.toBitVec.toNat : Int) - ((2 ^ 64 : Nat) : Int)) % ((65536 : Nat) : Int) = (b.toBitVec.toNat : Int) % ((65536 : Nat) : Int) := by omega
      simp only [Int.bmod, h9]
  apply Int32.toInt_inj.mp
  rw [hl, hn]
  have e32 : (32767 : Int32).toInt = 32767 := rfl
  have e65 : (65536 : Int32).toInt = 65536 := rfl
  by_cases h : 32767 < (b &&& 65535).toInt32
  · have h2 := Int32.lt_iff_toInt_lt.mp h
    rw [if_pos h, Int32.toInt_sub, hz, e65, Int.bmod_eq_of_le (n := _ - _) (by omega) (by omega)]
    rw [hz, e32] at h2
    simp only [Int.bmod]
    split <;> omega
  · have h2 : ¬ (32767 : Int) < (b &&& 65535).toInt32.toInt := fun z => h (Int32.lt_iff_toInt_lt.mpr z)
    rw [if_neg h, hz]
    rw [hz] at h2
    simp only [Int.bmod]
    split <;> omega
theorem fo_eq (a : Int64) : foC a 0 = foM a 0 ∧ foC a 1 = foM a 1 ∧ foC a 2 = foM a 2 ∧ foC a 3 = foM a 3 := by
  unfold foC foM
  have e0 : ((16 * (3 - 0) : Int32).toInt64 &&& 63) = ((48 - 16 * 0 : Int32).toInt64 &&& 63) := by decide
  have e1 : ((16 * (3 - 1) : Int32).toInt64 &&& 63) = ((48 - 16 * 1 : Int32).toInt64 &&& 63) := by decide
  have e2 : ((16 * (3 - 2) : Int32).toInt64 &&& 63) = ((48 - 16 * 2 : Int32).toInt64 &&& 63) := by decide
  have e3 : ((16 * (3 - 3) : Int32).toInt64 &&& 63) = ((48 - 16 * 3 : Int32).toInt64 &&& 63) := by decide
  rw [e0, e1, e2, e3]
  exact ⟨fo_eq0 _, fo_eq0 _, fo_eq0 _, fo_eq0 _⟩
theorem fo_16 (a : Int64) (k : Int32) : (foC a k).toInt16.toInt32 = foC a k := by
  unfold foC
  simp
theorem i64_inj {a b : Int32} : (a.toInt64 = b.toInt64) = (a = b) := by
  apply propext
  constructor
  · intro h
    have := congrArg Int64.toInt32 h
    simpa using this
  · rintro rfl; rfl
theorem i64_back (a : Int32) : a.toInt64.toInt32 = a := by simp
theorem fo0 (a : Int64) : foC a 0 = foM a 0 := (fo_eq a).1
theorem fo1 (a : Int64) : foC a 1 = foM a 1 := (fo_eq a).2.1
theorem fo2 (a : Int64) : foC a 2 = foM a 2 := (fo_eq a).2.2.1
theorem fo3 (a : Int64) : foC a 3 = foM a 3 := (fo_eq a).2.2.2
theorem fom0 (a : Int64) : (foM a 0).toInt16.toInt32 = foM a 0 := by rw [← fo0, fo_16]
theorem fom1 (a : Int64) : (foM a 1).toInt16.toInt32 = foM a 1 := by rw [← fo1, fo_16]
theorem fom2 (a : Int64) : (foM a 2).toInt16.toInt32 = foM a 2 := by rw [← fo2, fo_16]
theorem fom3 (a : Int64) : (foM a 3).toInt16.toInt32 = foM a 3 := by rw [← fo3, fo_16]
theorem ix_lt {s : Int32} (h : ixOk s) : (11 + 4 * s + 0).toNatClampNeg < 36 ∧ (11 + 4 * s + 1).toNatClampNeg < 36 ∧ (11 + 4 * s + 2).toNatClampNeg < 36 ∧ (11 + 4 * s + 3).toNatClampNeg < 36 := by
  obtain ⟨⟨⟨-, -, j0⟩, ⟨-, -, j1⟩, ⟨-, -, j2⟩, ⟨-, -, j3⟩⟩, -⟩ := h
  unfold vp_in at j0 j1 j2 j3
  omega

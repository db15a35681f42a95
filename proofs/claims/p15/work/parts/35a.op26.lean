set_option maxRecDepth 16384
/-! THE LAW: its calls -/
def Scr (scr n : Nat) (h : MH) : Prop := g_c h scr = 107 ∧ g_n h scr = n ∧ scr < g_z h ∧ g_z h ≤ g_t h
theorem Scr_Lw {scr n : Nat} {h m : MH} (s : Scr scr n h) (f : Lw h m) : Scr scr n m ∧ ∀ k, g_i m scr k = g_i h scr k := by
  obtain ⟨s1, s2, s3, s4⟩ := s
  obtain ⟨f1, f2, f3, f4⟩ := f
  obtain ⟨⟨x1, x2⟩, x3, -, -⟩ := f4 _ s3
  exact ⟨⟨x1.trans s1, x2.trans s2, by rw [f1]; exact s3, by omega⟩, x3⟩
theorem Rl_c {A : Nat → Nat} {h : MH} (R : Rl A h) : g_c h (A 0) = 7 ∧ g_c h (A 22) = 9 ∧ g_c h (A 39) = 1 := by
  obtain ⟨⟨-, k, -⟩, -⟩ := R
  unfold Kc1 at k
  exact ⟨by simp only [k], by simp only [k], by simp only [k]⟩
def LQ (A : Nat → Nat) (scr n j bc bs : Nat) (Q : MR → MH → Prop) : Prop := ∀ (B : Nat → Nat) (m : MH) (b5 b6 : Value), B 0 = A 0 → B 22 = A 22 → B 39 = A 39 → Rl B m → Cs m → Scr scr n m → Ok 328 1791 [.ref scr, .ref (A 0), .ref (A 22), .ref (A 39), .int (Int32.ofNat (4 * j)), b5, b6] [] m bc bs Q
theorem n_m4 {n a : Nat} (hn : n ≤ 256) (ha : a ≤ 256) : (Int32.ofNat n - 4 < Int32.ofNat a) = (n < a + 4) := by
  apply propext
  rw [Int32.lt_iff_toInt_lt, Int32.toInt_sub, nat_t (by omega), nat_t (by omega), show (4 : Int32).toInt = 4 from rfl, Int.bmod_eq_of_le (by omega) (by omega)]
  omega
theorem lc_lay {scr n j : Nat} {A : Nat → Nat} {h : MH} {a5 a6 : Value} {bc bs B1 B2 : Nat} {Q : MR → MH → Prop} (R : Rl A h) (C : Cs h) (S : Scr scr n h) (hj : 4 * j + 4 ≤ n) (hn : n ≤ 256) (hb1 : bc + 826 ≤ B1) (hb2 : bs + 98959 ≤ B2) (hQ : LQ A scr n j bc bs Q) : Ok 328 256 [.ref scr, .ref (A 0), .ref (A 22), .ref (A 39), .int (Int32.ofNat (4 * j)), a5, a6] [] h B1 B2 Q := by
  have S0 := S
  obtain ⟨s1, s2, s3, s4⟩ := S
  obtain ⟨k0, k1, k2⟩ := Rl_c R
  have e1 : Int32.ofNat (4 * j) + 1 = Int32.ofNat (4 * j + 1) := n_add (4 * j) 1
  have v1 : vp_in (Int32.ofNat (4 * j + 1)) n := vp_of (by omega) (by omega)
  have e2 : Int32.ofNat (4 * j) + 2 = Int32.ofNat (4 * j + 2) := n_add (4 * j) 2
  have v2 : vp_in (Int32.ofNat (4 * j + 2)) n := vp_of (by omega) (by omega)
  have e3 : Int32.ofNat (4 * j) + 3 = Int32.ofNat (4 * j + 3) := n_add (4 * j) 3
  have v3 : vp_in (Int32.ofNat (4 * j + 3)) n := vp_of (by omega) (by omega)
  have b0 : (1 ≤ B1) = True := eq_true (by omega)
  have b1 : (6 ≤ B2) = True := eq_true (by omega)
  simp only [o328_256, o328_257, o328_258, o328_260, o328_261, o328_262, o328_263, o328_264, o328_266, o328_267, o328_268, o328_269, o328_270, o328_272, o328_273, o328_274, o328_275, o328_276, mcs_0, true_and, and_self, Nat.zero_le, s1, s2, e1, v1, e2, v2, e3, v3, b0, b1]
  refine Ok_mono _ _ _ _ _ _ _ _ _ (fun r h1 q => ?_) (Ok_low (op_lay R))
  obtain ⟨⟨k, rfl, g1, z⟩, lw⟩ := q
  replace lw := lw s4
  obtain ⟨S1, si⟩ := Scr_Lw S0 lw
  have C1 := Cs_Lw C lw
  obtain ⟨t1, t2, t3, t4⟩ := id S1
  have d0 : (0 ≤ (B1 - 1)) = True := eq_true (by omega)
  have d1 : (0 ≤ (B2 - 6)) = True := eq_true (by omega)
  simp only [o328_279, o328_281, o328_282, o328_283, o328_285, o328_286, o328_287, o328_288, o328_289, o328_291, o328_292, o328_293, o328_294, o328_295, o328_297, o328_298, o328_299, o328_300, mcs_0, Kn_v, true_and, and_self, Nat.zero_le, t1, t2, g1, si, e1, v1, e2, v2, e3, v3]
  refine Ok_mono _ _ _ _ _ _ _ _ _ (fun r h2 q => ?_) (Ok_low (z))
  obtain ⟨⟨b, rfl, R2, x1, x2⟩, lw2⟩ := q
  have hB0 : A 0 = A 0 := rfl
  have hB1 : A 22 = A 22 := rfl
  have hB2 : A 39 = A 39 := rfl
  replace lw2 := lw2 t4
  have S2 := (Scr_Lw S1 lw2).1
  have C2 := Cs_Lw C1 lw2
  simp only [o328_303, o328_305, Kn_v]
  exact Ok_le (hQ A h2 _ _ hB0 hB1 hB2 R2 C2 S2) _ _ (by omega) (by omega)
theorem lc_layFourth {scr n j : Nat} {A : Nat → Nat} {h : MH} {a5 a6 : Value} {bc bs B1 B2 : Nat} {Q : MR → MH → Prop} (R : Rl A h) (C : Cs h) (S : Scr scr n h) (hj : 4 * j + 4 ≤ n) (hn : n ≤ 256) (hb1 : bc + 826 ≤ B1) (hb2 : bs + 98959 ≤ B2) (hQ : LQ A scr n j bc bs Q) : Ok 328 308 [.ref scr, .ref (A 0), .ref (A 22), .ref (A 39), .int (Int32.ofNat (4 * j)), a5, a6] [] h B1 B2 Q := by
  have S0 := S
  obtain ⟨s1, s2, s3, s4⟩ := S
  obtain ⟨k0, k1, k2⟩ := Rl_c R
  have e1 : Int32.ofNat (4 * j) + 1 = Int32.ofNat (4 * j + 1) := n_add (4 * j) 1
  have v1 : vp_in (Int32.ofNat (4 * j + 1)) n := vp_of (by omega) (by omega)
  have e2 : Int32.ofNat (4 * j) + 2 = Int32.ofNat (4 * j + 2) := n_add (4 * j) 2
  have v2 : vp_in (Int32.ofNat (4 * j + 2)) n := vp_of (by omega) (by omega)
  have e3 : Int32.ofNat (4 * j) + 3 = Int32.ofNat (4 * j + 3) := n_add (4 * j) 3
  have v3 : vp_in (Int32.ofNat (4 * j + 3)) n := vp_of (by omega) (by omega)
  have b0 : (3 ≤ B1) = True := eq_true (by omega)
  have b1 : (18 ≤ B2) = True := eq_true (by omega)
  simp only [o328_308, o328_309, o328_310, o328_312, o328_313, o328_314, o328_315, o328_316, o328_318, o328_319, o328_320, o328_321, o328_322, o328_324, o328_325, o328_326, o328_327, o328_328, mcs_0, true_and, and_self, Nat.zero_le, s1, s2, e1, v1, e2, v2, e3, v3, b0, b1]
  refine Ok_mono _ _ _ _ _ _ _ _ _ (fun r h1 q => ?_) (Ok_low (op_layFourth R))
  obtain ⟨⟨k, rfl, g1, z⟩, lw⟩ := q
  replace lw := lw s4
  obtain ⟨S1, si⟩ := Scr_Lw S0 lw
  have C1 := Cs_Lw C lw
  obtain ⟨t1, t2, t3, t4⟩ := id S1
  have d0 : (0 ≤ (B1 - 3)) = True := eq_true (by omega)
  have d1 : (0 ≤ (B2 - 18)) = True := eq_true (by omega)
  simp only [o328_331, o328_333, o328_334, o328_335, o328_337, o328_338, o328_339, o328_340, o328_341, o328_343, o328_344, o328_345, o328_346, o328_347, o328_349, o328_350, o328_351, o328_352, mcs_0, Kn_v, true_and, and_self, Nat.zero_le, t1, t2, g1, si, e1, v1, e2, v2, e3, v3]
  refine Ok_mono _ _ _ _ _ _ _ _ _ (fun r h2 q => ?_) (Ok_low (z))
  obtain ⟨⟨b, rfl, R2, x1, x2⟩, lw2⟩ := q
  have hB0 : A 0 = A 0 := rfl
  have hB1 : A 22 = A 22 := rfl
  have hB2 : A 39 = A 39 := rfl
  replace lw2 := lw2 t4
  have S2 := (Scr_Lw S1 lw2).1
  have C2 := Cs_Lw C1 lw2
  simp only [o328_355, o328_357, Kn_v]
  exact Ok_le (hQ A h2 _ _ hB0 hB1 hB2 R2 C2 S2) _ _ (by omega) (by omega)
theorem lc_upper {scr n j : Nat} {A : Nat → Nat} {h : MH} {a5 a6 : Value} {bc bs B1 B2 : Nat} {Q : MR → MH → Prop} (R : Rl A h) (C : Cs h) (S : Scr scr n h) (hj : 4 * j + 4 ≤ n) (hn : n ≤ 256) (hb1 : bc + 826 ≤ B1) (hb2 : bs + 98959 ≤ B2) (hQ : LQ A scr n j bc bs Q) : Ok 328 360 [.ref scr, .ref (A 0), .ref (A 22), .ref (A 39), .int (Int32.ofNat (4 * j)), a5, a6] [] h B1 B2 Q := by
  have S0 := S
  obtain ⟨s1, s2, s3, s4⟩ := S
  obtain ⟨k0, k1, k2⟩ := Rl_c R
  have e1 : Int32.ofNat (4 * j) + 1 = Int32.ofNat (4 * j + 1) := n_add (4 * j) 1
  have v1 : vp_in (Int32.ofNat (4 * j + 1)) n := vp_of (by omega) (by omega)
  have e2 : Int32.ofNat (4 * j) + 2 = Int32.ofNat (4 * j + 2) := n_add (4 * j) 2
  have v2 : vp_in (Int32.ofNat (4 * j + 2)) n := vp_of (by omega) (by omega)
  have e3 : Int32.ofNat (4 * j) + 3 = Int32.ofNat (4 * j + 3) := n_add (4 * j) 3
  have v3 : vp_in (Int32.ofNat (4 * j + 3)) n := vp_of (by omega) (by omega)
  have b0 : (1 ≤ B1) = True := eq_true (by omega)
  have b1 : (6 ≤ B2) = True := eq_true (by omega)
  simp only [o328_360, o328_361, o328_362, o328_364, o328_365, o328_366, o328_367, o328_368, mcs_0, true_and, and_self, Nat.zero_le, s1, s2, e1, v1, b0, b1]
  refine Ok_mono _ _ _ _ _ _ _ _ _ (fun r h1 q => ?_) (Ok_low (op_upper R))
  obtain ⟨⟨k, rfl, g1, z⟩, lw⟩ := q
  replace lw := lw s4
  obtain ⟨S1, si⟩ := Scr_Lw S0 lw
  have C1 := Cs_Lw C lw
  obtain ⟨t1, t2, t3, t4⟩ := id S1
  have d0 : (0 ≤ (B1 - 1)) = True := eq_true (by omega)
  have d1 : (0 ≤ (B2 - 6)) = True := eq_true (by omega)
  simp only [o328_371, o328_373, o328_374, o328_375, o328_377, o328_378, o328_379, o328_380, mcs_0, Kn_v, true_and, and_self, Nat.zero_le, t1, t2, g1, si, e1, v1]
  refine Ok_mono _ _ _ _ _ _ _ _ _ (fun r h2 q => ?_) (Ok_low (z))
  obtain ⟨⟨b, rfl, R2, x1, x2⟩, lw2⟩ := q
  have hB0 : A 0 = A 0 := rfl
  have hB1 : A 22 = A 22 := rfl
  have hB2 : A 39 = A 39 := rfl
  replace lw2 := lw2 t4
  have S2 := (Scr_Lw S1 lw2).1
  have C2 := Cs_Lw C1 lw2
  simp only [o328_383, o328_385, Kn_v]
  exact Ok_le (hQ A h2 _ _ hB0 hB1 hB2 R2 C2 S2) _ _ (by omega) (by omega)
theorem lc_lower {scr n j : Nat} {A : Nat → Nat} {h : MH} {a5 a6 : Value} {bc bs B1 B2 : Nat} {Q : MR → MH → Prop} (R : Rl A h) (C : Cs h) (S : Scr scr n h) (hj : 4 * j + 4 ≤ n) (hn : n ≤ 256) (hb1 : bc + 826 ≤ B1) (hb2 : bs + 98959 ≤ B2) (hQ : LQ A scr n j bc bs Q) : Ok 328 388 [.ref scr, .ref (A 0), .ref (A 22), .ref (A 39), .int (Int32.ofNat (4 * j)), a5, a6] [] h B1 B2 Q := by
  have S0 := S
  obtain ⟨s1, s2, s3, s4⟩ := S
  obtain ⟨k0, k1, k2⟩ := Rl_c R
  have e1 : Int32.ofNat (4 * j) + 1 = Int32.ofNat (4 * j + 1) := n_add (4 * j) 1
  have v1 : vp_in (Int32.ofNat (4 * j + 1)) n := vp_of (by omega) (by omega)
  have e2 : Int32.ofNat (4 * j) + 2 = Int32.ofNat (4 * j + 2) := n_add (4 * j) 2
  have v2 : vp_in (Int32.ofNat (4 * j + 2)) n := vp_of (by omega) (by omega)
  have e3 : Int32.ofNat (4 * j) + 3 = Int32.ofNat (4 * j + 3) := n_add (4 * j) 3
  have v3 : vp_in (Int32.ofNat (4 * j + 3)) n := vp_of (by omega) (by omega)
  have b0 : (1 ≤ B1) = True := eq_true (by omega)
  have b1 : (6 ≤ B2) = True := eq_true (by omega)
  simp only [o328_388, o328_389, o328_390, o328_392, o328_393, o328_394, o328_395, o328_396, mcs_0, true_and, and_self, Nat.zero_le, s1, s2, e1, v1, b0, b1]
  refine Ok_mono _ _ _ _ _ _ _ _ _ (fun r h1 q => ?_) (Ok_low (op_lower R))
  obtain ⟨⟨k, rfl, g1, z⟩, lw⟩ := q
  replace lw := lw s4
  obtain ⟨S1, si⟩ := Scr_Lw S0 lw
  have C1 := Cs_Lw C lw
  obtain ⟨t1, t2, t3, t4⟩ := id S1
  have d0 : (0 ≤ (B1 - 1)) = True := eq_true (by omega)
  have d1 : (0 ≤ (B2 - 6)) = True := eq_true (by omega)
  simp only [o328_399, o328_401, o328_402, o328_403, o328_405, o328_406, o328_407, o328_408, mcs_0, Kn_v, true_and, and_self, Nat.zero_le, t1, t2, g1, si, e1, v1]
  refine Ok_mono _ _ _ _ _ _ _ _ _ (fun r h2 q => ?_) (Ok_low (z))
  obtain ⟨⟨b, rfl, R2, x1, x2⟩, lw2⟩ := q
  have hB0 : A 0 = A 0 := rfl
  have hB1 : A 22 = A 22 := rfl
  have hB2 : A 39 = A 39 := rfl
  replace lw2 := lw2 t4
  have S2 := (Scr_Lw S1 lw2).1
  have C2 := Cs_Lw C1 lw2
  simp only [o328_411, o328_413, Kn_v]
  exact Ok_le (hQ A h2 _ _ hB0 hB1 hB2 R2 C2 S2) _ _ (by omega) (by omega)
theorem lc_fourth {scr n j : Nat} {A : Nat → Nat} {h : MH} {a5 a6 : Value} {bc bs B1 B2 : Nat} {Q : MR → MH → Prop} (R : Rl A h) (C : Cs h) (S : Scr scr n h) (hj : 4 * j + 4 ≤ n) (hn : n ≤ 256) (hb1 : bc + 826 ≤ B1) (hb2 : bs + 98959 ≤ B2) (hQ : LQ A scr n j bc bs Q) : Ok 328 416 [.ref scr, .ref (A 0), .ref (A 22), .ref (A 39), .int (Int32.ofNat (4 * j)), a5, a6] [] h B1 B2 Q := by
  have S0 := S
  obtain ⟨s1, s2, s3, s4⟩ := S
  obtain ⟨k0, k1, k2⟩ := Rl_c R
  have e1 : Int32.ofNat (4 * j) + 1 = Int32.ofNat (4 * j + 1) := n_add (4 * j) 1
  have v1 : vp_in (Int32.ofNat (4 * j + 1)) n := vp_of (by omega) (by omega)
  have e2 : Int32.ofNat (4 * j) + 2 = Int32.ofNat (4 * j + 2) := n_add (4 * j) 2
  have v2 : vp_in (Int32.ofNat (4 * j + 2)) n := vp_of (by omega) (by omega)
  have e3 : Int32.ofNat (4 * j) + 3 = Int32.ofNat (4 * j + 3) := n_add (4 * j) 3
  have v3 : vp_in (Int32.ofNat (4 * j + 3)) n := vp_of (by omega) (by omega)
  have b0 : (2 ≤ B1) = True := eq_true (by omega)
  have b1 : (12 ≤ B2) = True := eq_true (by omega)
  simp only [o328_416, o328_417, o328_418, o328_420, o328_421, o328_422, o328_423, o328_424, o328_426, o328_427, o328_428, o328_429, o328_430, mcs_0, true_and, and_self, Nat.zero_le, s1, s2, e1, v1, e2, v2, b0, b1]
  refine Ok_mono _ _ _ _ _ _ _ _ _ (fun r h1 q => ?_) (Ok_low (op_fourth R))
  obtain ⟨⟨k, rfl, g1, z⟩, lw⟩ := q
  replace lw := lw s4
  obtain ⟨S1, si⟩ := Scr_Lw S0 lw
  have C1 := Cs_Lw C lw
  obtain ⟨t1, t2, t3, t4⟩ := id S1
  have d0 : (0 ≤ (B1 - 2)) = True := eq_true (by omega)
  have d1 : (0 ≤ (B2 - 12)) = True := eq_true (by omega)
  simp only [o328_433, o328_435, o328_436, o328_437, o328_439, o328_440, o328_441, o328_442, o328_443, o328_445, o328_446, o328_447, o328_448, mcs_0, Kn_v, true_and, and_self, Nat.zero_le, t1, t2, g1, si, e1, v1, e2, v2]
  refine Ok_mono _ _ _ _ _ _ _ _ _ (fun r h2 q => ?_) (Ok_low (z))
  obtain ⟨⟨b, rfl, R2, x1, x2⟩, lw2⟩ := q
  have hB0 : A 0 = A 0 := rfl
  have hB1 : A 22 = A 22 := rfl
  have hB2 : A 39 = A 39 := rfl
  replace lw2 := lw2 t4
  have S2 := (Scr_Lw S1 lw2).1
  have C2 := Cs_Lw C1 lw2
  simp only [o328_451, o328_453, Kn_v]
  exact Ok_le (hQ A h2 _ _ hB0 hB1 hB2 R2 C2 S2) _ _ (by omega) (by omega)
theorem lc_slotText {scr n j : Nat} {A : Nat → Nat} {h : MH} {a5 a6 : Value} {bc bs B1 B2 : Nat} {Q : MR → MH → Prop} (R : Rl A h) (C : Cs h) (S : Scr scr n h) (hj : 4 * j + 4 ≤ n) (hn : n ≤ 256) (hb1 : bc + 826 ≤ B1) (hb2 : bs + 98959 ≤ B2) (hQ : LQ A scr n j bc bs Q) : Ok 328 456 [.ref scr, .ref (A 0), .ref (A 22), .ref (A 39), .int (Int32.ofNat (4 * j)), a5, a6] [] h B1 B2 Q := by
  have S0 := S
  obtain ⟨s1, s2, s3, s4⟩ := S
  obtain ⟨k0, k1, k2⟩ := Rl_c R
  have e1 : Int32.ofNat (4 * j) + 1 = Int32.ofNat (4 * j + 1) := n_add (4 * j) 1
  have v1 : vp_in (Int32.ofNat (4 * j + 1)) n := vp_of (by omega) (by omega)
  have e2 : Int32.ofNat (4 * j) + 2 = Int32.ofNat (4 * j + 2) := n_add (4 * j) 2
  have v2 : vp_in (Int32.ofNat (4 * j + 2)) n := vp_of (by omega) (by omega)
  have e3 : Int32.ofNat (4 * j) + 3 = Int32.ofNat (4 * j + 3) := n_add (4 * j) 3
  have v3 : vp_in (Int32.ofNat (4 * j + 3)) n := vp_of (by omega) (by omega)
  have b0 : (25 ≤ B1) = True := eq_true (by omega)
  have b1 : (3460 ≤ B2) = True := eq_true (by omega)
  simp only [o328_456, o328_457, o328_458, o328_460, o328_461, o328_462, o328_463, o328_464, mcs_0, true_and, and_self, Nat.zero_le, s1, s2, e1, v1, b0, b1]
  refine Ok_mono _ _ _ _ _ _ _ _ _ (fun r h1 q => ?_) (Ok_low (x_slotText R))
  obtain ⟨⟨k, rfl, R1⟩, lw⟩ := q
  have g1 := (Rl_c R1).2.1
  replace lw := lw s4
  obtain ⟨S1, si⟩ := Scr_Lw S0 lw
  have C1 := Cs_Lw C lw
  obtain ⟨t1, t2, t3, t4⟩ := id S1
  have d0 : (6 ≤ (B1 - 25)) = True := eq_true (by omega)
  have d1 : (474 ≤ (B2 - 3460)) = True := eq_true (by omega)
  simp only [o328_467, o328_469, o328_470, o328_471, o328_473, o328_474, o328_475, o328_476, mcs_0, Kn_v, true_and, and_self, Nat.zero_le, t1, t2, g1, si, e1, v1, d0, d1]
  refine Ok_mono _ _ _ _ _ _ _ _ _ (fun r h2 q => ?_) (Ok_low (m_slotText R1 C1))
  obtain ⟨⟨b, rfl, R2⟩, lw2⟩ := q
  have hB0 : A 0 = A 0 := rfl
  have hB1 : A 22 = A 22 := rfl
  have hB2 : A 39 = A 39 := rfl
  replace lw2 := lw2 t4
  have S2 := (Scr_Lw S1 lw2).1
  have C2 := Cs_Lw C1 lw2
  simp only [o328_479, o328_481, Kn_v]
  exact Ok_le (hQ A h2 _ _ hB0 hB1 hB2 R2 C2 S2) _ _ (by omega) (by omega)
theorem lc_put {scr n j : Nat} {A : Nat → Nat} {h : MH} {a5 a6 : Value} {bc bs B1 B2 : Nat} {Q : MR → MH → Prop} (R : Rl A h) (C : Cs h) (S : Scr scr n h) (hj : 4 * j + 4 ≤ n) (hn : n ≤ 256) (hb1 : bc + 826 ≤ B1) (hb2 : bs + 98959 ≤ B2) (hQ : LQ A scr n j bc bs Q) : Ok 328 484 [.ref scr, .ref (A 0), .ref (A 22), .ref (A 39), .int (Int32.ofNat (4 * j)), a5, a6] [] h B1 B2 Q := by
  have S0 := S
  obtain ⟨s1, s2, s3, s4⟩ := S
  obtain ⟨k0, k1, k2⟩ := Rl_c R
  have e1 : Int32.ofNat (4 * j) + 1 = Int32.ofNat (4 * j + 1) := n_add (4 * j) 1
  have v1 : vp_in (Int32.ofNat (4 * j + 1)) n := vp_of (by omega) (by omega)
  have e2 : Int32.ofNat (4 * j) + 2 = Int32.ofNat (4 * j + 2) := n_add (4 * j) 2
  have v2 : vp_in (Int32.ofNat (4 * j + 2)) n := vp_of (by omega) (by omega)
  have e3 : Int32.ofNat (4 * j) + 3 = Int32.ofNat (4 * j + 3) := n_add (4 * j) 3
  have v3 : vp_in (Int32.ofNat (4 * j + 3)) n := vp_of (by omega) (by omega)
  have b0 : (2 ≤ B1) = True := eq_true (by omega)
  have b1 : (12 ≤ B2) = True := eq_true (by omega)
  simp only [o328_484, o328_485, o328_486, o328_488, o328_489, o328_490, o328_491, o328_492, o328_494, o328_495, o328_496, o328_497, o328_498, mcs_0, true_and, and_self, Nat.zero_le, s1, s2, e1, v1, e2, v2, b0, b1]
  refine Ok_mono _ _ _ _ _ _ _ _ _ (fun r h1 q => ?_) (Ok_low (op_put R))
  obtain ⟨⟨k, rfl, g1, z⟩, lw⟩ := q
  replace lw := lw s4
  obtain ⟨S1, si⟩ := Scr_Lw S0 lw
  have C1 := Cs_Lw C lw
  obtain ⟨t1, t2, t3, t4⟩ := id S1
  have d0 : (0 ≤ (B1 - 2)) = True := eq_true (by omega)
  have d1 : (0 ≤ (B2 - 12)) = True := eq_true (by omega)
  simp only [o328_501, o328_503, o328_504, o328_505, o328_507, o328_508, o328_509, o328_510, o328_511, o328_513, o328_514, o328_515, o328_516, mcs_0, Kn_v, true_and, and_self, Nat.zero_le, t1, t2, g1, si, e1, v1, e2, v2]
  refine Ok_mono _ _ _ _ _ _ _ _ _ (fun r h2 q => ?_) (Ok_low (z))
  obtain ⟨⟨b, rfl, R2, x1, x2⟩, lw2⟩ := q
  have hB0 : A 0 = A 0 := rfl
  have hB1 : A 22 = A 22 := rfl
  have hB2 : A 39 = A 39 := rfl
  replace lw2 := lw2 t4
  have S2 := (Scr_Lw S1 lw2).1
  have C2 := Cs_Lw C1 lw2
  simp only [o328_519, o328_521, Kn_v]
  exact Ok_le (hQ A h2 _ _ hB0 hB1 hB2 R2 C2 S2) _ _ (by omega) (by omega)
theorem lc_take {scr n j : Nat} {A : Nat → Nat} {h : MH} {a5 a6 : Value} {bc bs B1 B2 : Nat} {Q : MR → MH → Prop} (R : Rl A h) (C : Cs h) (S : Scr scr n h) (hj : 4 * j + 4 ≤ n) (hn : n ≤ 256) (hb1 : bc + 826 ≤ B1) (hb2 : bs + 98959 ≤ B2) (hQ : LQ A scr n j bc bs Q) : Ok 328 524 [.ref scr, .ref (A 0), .ref (A 22), .ref (A 39), .int (Int32.ofNat (4 * j)), a5, a6] [] h B1 B2 Q := by
  have S0 := S
  obtain ⟨s1, s2, s3, s4⟩ := S
  obtain ⟨k0, k1, k2⟩ := Rl_c R
  have e1 : Int32.ofNat (4 * j) + 1 = Int32.ofNat (4 * j + 1) := n_add (4 * j) 1
  have v1 : vp_in (Int32.ofNat (4 * j + 1)) n := vp_of (by omega) (by omega)
  have e2 : Int32.ofNat (4 * j) + 2 = Int32.ofNat (4 * j + 2) := n_add (4 * j) 2
  have v2 : vp_in (Int32.ofNat (4 * j + 2)) n := vp_of (by omega) (by omega)
  have e3 : Int32.ofNat (4 * j) + 3 = Int32.ofNat (4 * j + 3) := n_add (4 * j) 3
  have v3 : vp_in (Int32.ofNat (4 * j + 3)) n := vp_of (by omega) (by omega)
  have b0 : (2 ≤ B1) = True := eq_true (by omega)
  have b1 : (12 ≤ B2) = True := eq_true (by omega)
  simp only [o328_524, o328_525, o328_526, o328_528, o328_529, o328_530, o328_531, o328_532, o328_534, o328_535, o328_536, o328_537, o328_538, mcs_0, true_and, and_self, Nat.zero_le, s1, s2, e1, v1, e2, v2, b0, b1]
  refine Ok_mono _ _ _ _ _ _ _ _ _ (fun r h1 q => ?_) (Ok_low (op_take R))
  obtain ⟨⟨k, rfl, g1, z⟩, lw⟩ := q
  replace lw := lw s4
  obtain ⟨S1, si⟩ := Scr_Lw S0 lw
  have C1 := Cs_Lw C lw
  obtain ⟨t1, t2, t3, t4⟩ := id S1
  have d0 : (0 ≤ (B1 - 2)) = True := eq_true (by omega)
  have d1 : (0 ≤ (B2 - 12)) = True := eq_true (by omega)
  simp only [o328_541, o328_543, o328_544, o328_545, o328_547, o328_548, o328_549, o328_550, o328_551, o328_553, o328_554, o328_555, o328_556, mcs_0, Kn_v, true_and, and_self, Nat.zero_le, t1, t2, g1, si, e1, v1, e2, v2]
  refine Ok_mono _ _ _ _ _ _ _ _ _ (fun r h2 q => ?_) (Ok_low (z))
  obtain ⟨⟨b, rfl, R2, x1, x2⟩, lw2⟩ := q
  have hB0 : A 0 = A 0 := rfl
  have hB1 : A 22 = A 22 := rfl
  have hB2 : A 39 = A 39 := rfl
  replace lw2 := lw2 t4
  have S2 := (Scr_Lw S1 lw2).1
  have C2 := Cs_Lw C1 lw2
  simp only [o328_559, o328_561, Kn_v]
  exact Ok_le (hQ A h2 _ _ hB0 hB1 hB2 R2 C2 S2) _ _ (by omega) (by omega)
theorem lc_look {scr n j : Nat} {A : Nat → Nat} {h : MH} {a5 a6 : Value} {bc bs B1 B2 : Nat} {Q : MR → MH → Prop} (R : Rl A h) (C : Cs h) (S : Scr scr n h) (hj : 4 * j + 4 ≤ n) (hn : n ≤ 256) (hb1 : bc + 826 ≤ B1) (hb2 : bs + 98959 ≤ B2) (hQ : LQ A scr n j bc bs Q) : Ok 328 564 [.ref scr, .ref (A 0), .ref (A 22), .ref (A 39), .int (Int32.ofNat (4 * j)), a5, a6] [] h B1 B2 Q := by
  have S0 := S
  obtain ⟨s1, s2, s3, s4⟩ := S
  obtain ⟨k0, k1, k2⟩ := Rl_c R
  have e1 : Int32.ofNat (4 * j) + 1 = Int32.ofNat (4 * j + 1) := n_add (4 * j) 1
  have v1 : vp_in (Int32.ofNat (4 * j + 1)) n := vp_of (by omega) (by omega)
  have e2 : Int32.ofNat (4 * j) + 2 = Int32.ofNat (4 * j + 2) := n_add (4 * j) 2
  have v2 : vp_in (Int32.ofNat (4 * j + 2)) n := vp_of (by omega) (by omega)
  have e3 : Int32.ofNat (4 * j) + 3 = Int32.ofNat (4 * j + 3) := n_add (4 * j) 3
  have v3 : vp_in (Int32.ofNat (4 * j + 3)) n := vp_of (by omega) (by omega)
  have b0 : (3 ≤ B1) = True := eq_true (by omega)
  have b1 : (18 ≤ B2) = True := eq_true (by omega)
  simp only [o328_564, o328_565, o328_566, o328_568, o328_569, o328_570, o328_571, o328_572, o328_574, o328_575, o328_576, o328_577, o328_578, o328_580, o328_581, o328_582, o328_583, o328_584, mcs_0, true_and, and_self, Nat.zero_le, s1, s2, e1, v1, e2, v2, e3, v3, b0, b1]
  refine Ok_mono _ _ _ _ _ _ _ _ _ (fun r h1 q => ?_) (Ok_low (op_look R))
  obtain ⟨⟨k, rfl, g1, z⟩, lw⟩ := q
  replace lw := lw s4
  obtain ⟨S1, si⟩ := Scr_Lw S0 lw
  have C1 := Cs_Lw C lw
  obtain ⟨t1, t2, t3, t4⟩ := id S1
  have d0 : (0 ≤ (B1 - 3)) = True := eq_true (by omega)
  have d1 : (0 ≤ (B2 - 18)) = True := eq_true (by omega)
  simp only [o328_587, o328_589, o328_590, o328_591, o328_593, o328_594, o328_595, o328_596, o328_597, o328_599, o328_600, o328_601, o328_602, o328_603, o328_605, o328_606, o328_607, o328_608, mcs_0, Kn_v, true_and, and_self, Nat.zero_le, t1, t2, g1, si, e1, v1, e2, v2, e3, v3]
  refine Ok_mono _ _ _ _ _ _ _ _ _ (fun r h2 q => ?_) (Ok_low (z))
  obtain ⟨⟨b, rfl, R2, x1, x2⟩, lw2⟩ := q
  have hB0 : A 0 = A 0 := rfl
  have hB1 : A 22 = A 22 := rfl
  have hB2 : A 39 = A 39 := rfl
  replace lw2 := lw2 t4
  have S2 := (Scr_Lw S1 lw2).1
  have C2 := Cs_Lw C1 lw2
  simp only [o328_611, o328_613, Kn_v]
  exact Ok_le (hQ A h2 _ _ hB0 hB1 hB2 R2 C2 S2) _ _ (by omega) (by omega)
theorem lc_mend {scr n j : Nat} {A : Nat → Nat} {h : MH} {a5 a6 : Value} {bc bs B1 B2 : Nat} {Q : MR → MH → Prop} (R : Rl A h) (C : Cs h) (S : Scr scr n h) (hj : 4 * j + 4 ≤ n) (hn : n ≤ 256) (hb1 : bc + 826 ≤ B1) (hb2 : bs + 98959 ≤ B2) (hQ : LQ A scr n j bc bs Q) : Ok 328 616 [.ref scr, .ref (A 0), .ref (A 22), .ref (A 39), .int (Int32.ofNat (4 * j)), a5, a6] [] h B1 B2 Q := by
  have S0 := S
  obtain ⟨s1, s2, s3, s4⟩ := S
  obtain ⟨k0, k1, k2⟩ := Rl_c R
  have e1 : Int32.ofNat (4 * j) + 1 = Int32.ofNat (4 * j + 1) := n_add (4 * j) 1
  have v1 : vp_in (Int32.ofNat (4 * j + 1)) n := vp_of (by omega) (by omega)
  have e2 : Int32.ofNat (4 * j) + 2 = Int32.ofNat (4 * j + 2) := n_add (4 * j) 2
  have v2 : vp_in (Int32.ofNat (4 * j + 2)) n := vp_of (by omega) (by omega)
  have e3 : Int32.ofNat (4 * j) + 3 = Int32.ofNat (4 * j + 3) := n_add (4 * j) 3
  have v3 : vp_in (Int32.ofNat (4 * j + 3)) n := vp_of (by omega) (by omega)
  have b0 : (3 ≤ B1) = True := eq_true (by omega)
  have b1 : (18 ≤ B2) = True := eq_true (by omega)
  simp only [o328_616, o328_617, o328_618, o328_620, o328_621, o328_622, o328_623, o328_624, o328_626, o328_627, o328_628, o328_629, o328_630, o328_632, o328_633, o328_634, o328_635, o328_636, mcs_0, true_and, and_self, Nat.zero_le, s1, s2, e1, v1, e2, v2, e3, v3, b0, b1]
  refine Ok_mono _ _ _ _ _ _ _ _ _ (fun r h1 q => ?_) (Ok_low (op_mend R))
  obtain ⟨⟨k, rfl, g1, z⟩, lw⟩ := q
  replace lw := lw s4
  obtain ⟨S1, si⟩ := Scr_Lw S0 lw
  have C1 := Cs_Lw C lw
  obtain ⟨t1, t2, t3, t4⟩ := id S1
  have d0 : (0 ≤ (B1 - 3)) = True := eq_true (by omega)
  have d1 : (0 ≤ (B2 - 18)) = True := eq_true (by omega)
  simp only [o328_639, o328_641, o328_642, o328_643, o328_645, o328_646, o328_647, o328_648, o328_649, o328_651, o328_652, o328_653, o328_654, o328_655, o328_657, o328_658, o328_659, o328_660, mcs_0, Kn_v, true_and, and_self, Nat.zero_le, t1, t2, g1, si, e1, v1, e2, v2, e3, v3]
  refine Ok_mono _ _ _ _ _ _ _ _ _ (fun r h2 q => ?_) (Ok_low (z))
  obtain ⟨⟨b, rfl, R2, x1, x2⟩, lw2⟩ := q
  have hB0 : A 0 = A 0 := rfl
  have hB1 : A 22 = A 22 := rfl
  have hB2 : A 39 = A 39 := rfl
  replace lw2 := lw2 t4
  have S2 := (Scr_Lw S1 lw2).1
  have C2 := Cs_Lw C1 lw2
  simp only [o328_663, o328_665, Kn_v]
  exact Ok_le (hQ A h2 _ _ hB0 hB1 hB2 R2 C2 S2) _ _ (by omega) (by omega)
theorem lc_mark {scr n j : Nat} {A : Nat → Nat} {h : MH} {a5 a6 : Value} {bc bs B1 B2 : Nat} {Q : MR → MH → Prop} (R : Rl A h) (C : Cs h) (S : Scr scr n h) (hj : 4 * j + 4 ≤ n) (hn : n ≤ 256) (hb1 : bc + 826 ≤ B1) (hb2 : bs + 98959 ≤ B2) (hQ : LQ A scr n j bc bs Q) : Ok 328 668 [.ref scr, .ref (A 0), .ref (A 22), .ref (A 39), .int (Int32.ofNat (4 * j)), a5, a6] [] h B1 B2 Q := by
  have S0 := S
  obtain ⟨s1, s2, s3, s4⟩ := S
  obtain ⟨k0, k1, k2⟩ := Rl_c R
  have e1 : Int32.ofNat (4 * j) + 1 = Int32.ofNat (4 * j + 1) := n_add (4 * j) 1
  have v1 : vp_in (Int32.ofNat (4 * j + 1)) n := vp_of (by omega) (by omega)
  have e2 : Int32.ofNat (4 * j) + 2 = Int32.ofNat (4 * j + 2) := n_add (4 * j) 2
  have v2 : vp_in (Int32.ofNat (4 * j + 2)) n := vp_of (by omega) (by omega)
  have e3 : Int32.ofNat (4 * j) + 3 = Int32.ofNat (4 * j + 3) := n_add (4 * j) 3
  have v3 : vp_in (Int32.ofNat (4 * j + 3)) n := vp_of (by omega) (by omega)
  have b0 : (1 ≤ B1) = True := eq_true (by omega)
  have b1 : (6 ≤ B2) = True := eq_true (by omega)
  simp only [o328_668, o328_669, o328_670, o328_672, o328_673, o328_674, o328_675, o328_676, mcs_0, true_and, and_self, Nat.zero_le, s1, s2, e1, v1, b0, b1]
  refine Ok_mono _ _ _ _ _ _ _ _ _ (fun r h1 q => ?_) (Ok_low (op_mark R))
  obtain ⟨⟨k, rfl, g1, z⟩, lw⟩ := q
  replace lw := lw s4
  obtain ⟨S1, si⟩ := Scr_Lw S0 lw
  have C1 := Cs_Lw C lw
  obtain ⟨t1, t2, t3, t4⟩ := id S1
  have d0 : (0 ≤ (B1 - 1)) = True := eq_true (by omega)
  have d1 : (0 ≤ (B2 - 6)) = True := eq_true (by omega)
  simp only [o328_679, o328_681, o328_682, o328_683, o328_685, o328_686, o328_687, o328_688, mcs_0, Kn_v, true_and, and_self, Nat.zero_le, t1, t2, g1, si, e1, v1]
  refine Ok_mono _ _ _ _ _ _ _ _ _ (fun r h2 q => ?_) (Ok_low (z))
  obtain ⟨⟨b, rfl, R2, x1, x2⟩, lw2⟩ := q
  have hB0 : A 0 = A 0 := rfl
  have hB1 : A 22 = A 22 := rfl
  have hB2 : A 39 = A 39 := rfl
  replace lw2 := lw2 t4
  have S2 := (Scr_Lw S1 lw2).1
  have C2 := Cs_Lw C1 lw2
  simp only [o328_691, o328_693, Kn_v]
  exact Ok_le (hQ A h2 _ _ hB0 hB1 hB2 R2 C2 S2) _ _ (by omega) (by omega)
theorem lc_back {scr n j : Nat} {A : Nat → Nat} {h : MH} {a5 a6 : Value} {bc bs B1 B2 : Nat} {Q : MR → MH → Prop} (R : Rl A h) (C : Cs h) (S : Scr scr n h) (hj : 4 * j + 4 ≤ n) (hn : n ≤ 256) (hb1 : bc + 826 ≤ B1) (hb2 : bs + 98959 ≤ B2) (hQ : LQ A scr n j bc bs Q) : Ok 328 696 [.ref scr, .ref (A 0), .ref (A 22), .ref (A 39), .int (Int32.ofNat (4 * j)), a5, a6] [] h B1 B2 Q := by
  have S0 := S
  obtain ⟨s1, s2, s3, s4⟩ := S
  obtain ⟨k0, k1, k2⟩ := Rl_c R
  have e1 : Int32.ofNat (4 * j) + 1 = Int32.ofNat (4 * j + 1) := n_add (4 * j) 1
  have v1 : vp_in (Int32.ofNat (4 * j + 1)) n := vp_of (by omega) (by omega)
  have e2 : Int32.ofNat (4 * j) + 2 = Int32.ofNat (4 * j + 2) := n_add (4 * j) 2
  have v2 : vp_in (Int32.ofNat (4 * j + 2)) n := vp_of (by omega) (by omega)
  have e3 : Int32.ofNat (4 * j) + 3 = Int32.ofNat (4 * j + 3) := n_add (4 * j) 3
  have v3 : vp_in (Int32.ofNat (4 * j + 3)) n := vp_of (by omega) (by omega)
  have b0 : (1 ≤ B1) = True := eq_true (by omega)
  have b1 : (6 ≤ B2) = True := eq_true (by omega)
  simp only [o328_696, o328_697, o328_698, o328_700, o328_701, o328_702, o328_703, o328_704, mcs_0, true_and, and_self, Nat.zero_le, s1, s2, e1, v1, b0, b1]
  refine Ok_mono _ _ _ _ _ _ _ _ _ (fun r h1 q => ?_) (Ok_low (op_back R))
  obtain ⟨⟨k, rfl, g1, z⟩, lw⟩ := q
  replace lw := lw s4
  obtain ⟨S1, si⟩ := Scr_Lw S0 lw
  have C1 := Cs_Lw C lw
  obtain ⟨t1, t2, t3, t4⟩ := id S1
  have d0 : (0 ≤ (B1 - 1)) = True := eq_true (by omega)
  have d1 : (0 ≤ (B2 - 6)) = True := eq_true (by omega)
  simp only [o328_707, o328_709, o328_710, o328_711, o328_713, o328_714, o328_715, o328_716, mcs_0, Kn_v, true_and, and_self, Nat.zero_le, t1, t2, g1, si, e1, v1]
  refine Ok_mono _ _ _ _ _ _ _ _ _ (fun r h2 q => ?_) (Ok_low (z))
  obtain ⟨⟨b, rfl, R2, x1, x2⟩, lw2⟩ := q
  have hB0 : A 0 = A 0 := rfl
  have hB1 : A 22 = A 22 := rfl
  have hB2 : A 39 = A 39 := rfl
  replace lw2 := lw2 t4
  have S2 := (Scr_Lw S1 lw2).1
  have C2 := Cs_Lw C1 lw2
  simp only [o328_719, o328_721, mc_pi, mc_pl, mc_pr, mc_pN, mc_pT, mc_pC, mn_pi, mn_pl, mn_pr, mn_pN, mn_pT, mn_pC, mi_pi, mi_pl, mi_pr, mi_pN, mi_pT, mi_pC, ml_pi, ml_pl, ml_pr, ml_pN, ml_pT, ml_pC, mr_pi, mr_pl, mr_pr, mr_pN, mr_pT, mr_pC, mt_pi, mt_pl, mt_pr, mt_pN, mt_pT, mt_pC, mz_pi, mz_pl, mz_pr, mz_pN, mz_pT, mz_pC, ma_pi, ma_pl, ma_pr, ma_pN, ma_pT, ma_pC, mcs_0, mcs_i, mcs_l, mcs_r, mcs_n, csum_rf, Kn_v, Kn_0, Kn_x, mrf_some, kok_0, true_and, and_true, false_and, and_false, true_or, or_true, or_false, false_or, not_true_eq_false, not_false_eq_true, true_implies, false_implies, implies_true, forall_const, if_true, if_false, and_self, Nat.reduceEqDiff, Nat.reduceLeDiff, Nat.reduceSub, Nat.reduceAdd, Nat.zero_le, Nat.le_refl, i10, i01, kz0, kz1, eq_self, lt_le, Classical.not_not, Int32.reduceLT, Int32.reduceAdd, Int32.reduceSub, Int32.reduceMul, cl0, cl1, cl2, cl3, cl4, cl5, cl6, cl7, cl8, cl9, cl10, cl11, cl12, cl13, cl14, cl15, cl16, cl17, cl18, cl19, cl20, cl21, cl22, cl23, cl24, cl25, cl26, cl27, cl28, cl29, cl30, cl31, cl32, cl33, cl34, cl35, cl36, cl37, cl38, cl39, lg_cmp_eq]
  exact Ok_le (hQ A h2 _ _ hB0 hB1 hB2 R2 C2 S2) _ _ (by omega) (by omega)
theorem lc_forget {scr n j : Nat} {A : Nat → Nat} {h : MH} {a5 a6 : Value} {bc bs B1 B2 : Nat} {Q : MR → MH → Prop} (R : Rl A h) (C : Cs h) (S : Scr scr n h) (hj : 4 * j + 4 ≤ n) (hn : n ≤ 256) (hb1 : bc + 826 ≤ B1) (hb2 : bs + 98959 ≤ B2) (hQ : LQ A scr n j bc bs Q) : Ok 328 724 [.ref scr, .ref (A 0), .ref (A 22), .ref (A 39), .int (Int32.ofNat (4 * j)), a5, a6] [] h B1 B2 Q := by
  have S0 := S
  obtain ⟨s1, s2, s3, s4⟩ := S
  obtain ⟨k0, k1, k2⟩ := Rl_c R
  have e1 : Int32.ofNat (4 * j) + 1 = Int32.ofNat (4 * j + 1) := n_add (4 * j) 1
  have v1 : vp_in (Int32.ofNat (4 * j + 1)) n := vp_of (by omega) (by omega)
  have e2 : Int32.ofNat (4 * j) + 2 = Int32.ofNat (4 * j + 2) := n_add (4 * j) 2
  have v2 : vp_in (Int32.ofNat (4 * j + 2)) n := vp_of (by omega) (by omega)
  have e3 : Int32.ofNat (4 * j) + 3 = Int32.ofNat (4 * j + 3) := n_add (4 * j) 3
  have v3 : vp_in (Int32.ofNat (4 * j + 3)) n := vp_of (by omega) (by omega)
  have b0 : (1 ≤ B1) = True := eq_true (by omega)
  have b1 : (6 ≤ B2) = True := eq_true (by omega)
  simp only [o328_724, o328_725, o328_726, o328_728, o328_729, o328_730, o328_731, o328_732, mcs_0, true_and, and_self, Nat.zero_le, s1, s2, e1, v1, b0, b1]
  refine Ok_mono _ _ _ _ _ _ _ _ _ (fun r h1 q => ?_) (Ok_low (op_forget R))
  obtain ⟨⟨k, rfl, g1, z⟩, lw⟩ := q
  replace lw := lw s4
  obtain ⟨S1, si⟩ := Scr_Lw S0 lw
  have C1 := Cs_Lw C lw
  obtain ⟨t1, t2, t3, t4⟩ := id S1
  have d0 : (0 ≤ (B1 - 1)) = True := eq_true (by omega)
  have d1 : (0 ≤ (B2 - 6)) = True := eq_true (by omega)
  simp only [o328_735, o328_737, o328_738, o328_739, o328_741, o328_742, o328_743, o328_744, mcs_0, Kn_v, true_and, and_self, Nat.zero_le, t1, t2, g1, si, e1, v1]
  refine Ok_mono _ _ _ _ _ _ _ _ _ (fun r h2 q => ?_) (Ok_low (z))
  obtain ⟨⟨b, rfl, R2, x1, x2⟩, lw2⟩ := q
  have hB0 : A 0 = A 0 := rfl
  have hB1 : A 22 = A 22 := rfl
  have hB2 : A 39 = A 39 := rfl
  replace lw2 := lw2 t4
  have S2 := (Scr_Lw S1 lw2).1
  have C2 := Cs_Lw C1 lw2
  simp only [o328_747, o328_749, Kn_v]
  exact Ok_le (hQ A h2 _ _ hB0 hB1 hB2 R2 C2 S2) _ _ (by omega) (by omega)

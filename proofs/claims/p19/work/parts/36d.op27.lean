set_option maxRecDepth 16384
def stT : List Wr := .inl (40, 1, 0) :: (lsh (lcnt stA) stB ++ stA)
theorem stA_c : lcnt stA = 23 := by decide +kernel
theorem stT_c : lcnt stT = 41 := by decide +kernel
theorem stT_w : lwf stT = true := by decide +kernel
def stO (j : Nat) : Nat := [0, 1, 3, 2, 4, 5, 8, 11, 6, 7, 9, 10, 12, 13, 14, 15, 16, 17, 18, 19, 20, 22, 23, 24, 25, 26, 27, 28, 29, 30, 31, 32, 34, 36, 33, 35, 37, 38, 39, 40].getD j (100 + j)
theorem stO_lt : ∀ i, i < 40 → stO i < 41 := by decide +kernel
theorem stO_inj : ∀ i, i < 40 → ∀ j, j < 40 → (stO i = stO j ↔ i = j) := by decide +kernel
theorem start_Rl {h : MH} (hz : g_z h ≤ g_t h) : Rl (fun j => g_t h + stO j) (ld h stT) := by
  have hC : ∀ i, i < 40 → g_c (ld h stT) (g_t h + stO i) = eC stT (stO i) := fun i hi => ld_c h (stO i) stT stT_w (by rw [stT_c]; exact stO_lt i hi)
  have hN : ∀ i, i < 40 → g_n (ld h stT) (g_t h + stO i) = eN stT (stO i) := fun i hi => ld_n h (stO i) stT stT_w (by rw [stT_c]; exact stO_lt i hi)
  have hI : ∀ i, i < 40 → ∀ j, g_i (ld h stT) (g_t h + stO i) j = eI stT (stO i) j := fun i hi j => ld_i h (stO i) j stT stT_w (by rw [stT_c]; exact stO_lt i hi)
  have hL : ∀ i, i < 40 → ∀ j, g_l (ld h stT) (g_t h + stO i) j = 0 := fun i hi j => ld_l h (stO i) j stT stT_w (by rw [stT_c]; exact stO_lt i hi)
  have hR : ∀ i, i < 40 → ∀ j, g_r (ld h stT) (g_t h + stO i) j = (eR stT (stO i) j).map (fun r => g_t h + r) := fun i hi j => ld_r h (stO i) j stT stT_w (by rw [stT_c]; exact stO_lt i hi)
  have e0_6 : g_i (ld h stT) (g_t h + stO 0) 6 = 0 := (hI 0 (by decide) 6).trans (by decide +kernel)
  have e5_3 : g_i (ld h stT) (g_t h + stO 5) 3 = 0 := (hI 5 (by decide) 3).trans (by decide +kernel)
  have e6_3 : g_i (ld h stT) (g_t h + stO 6) 3 = 0 := (hI 6 (by decide) 3).trans (by decide +kernel)
  have e7_3 : g_i (ld h stT) (g_t h + stO 7) 3 = 0 := (hI 7 (by decide) 3).trans (by decide +kernel)
  have e8_4 : g_i (ld h stT) (g_t h + stO 8) 4 = 0 := (hI 8 (by decide) 4).trans (by decide +kernel)
  have e8_5 : g_i (ld h stT) (g_t h + stO 8) 5 = 5 := (hI 8 (by decide) 5).trans (by decide +kernel)
  have e8_6 : g_i (ld h stT) (g_t h + stO 8) 6 = -1 := (hI 8 (by decide) 6).trans (by decide +kernel)
  have e9_4 : g_i (ld h stT) (g_t h + stO 9) 4 = 0 := (hI 9 (by decide) 4).trans (by decide +kernel)
  have e9_5 : g_i (ld h stT) (g_t h + stO 9) 5 = 0 := (hI 9 (by decide) 5).trans (by decide +kernel)
  have e9_6 : g_i (ld h stT) (g_t h + stO 9) 6 = -1 := (hI 9 (by decide) 6).trans (by decide +kernel)
  have e10_4 : g_i (ld h stT) (g_t h + stO 10) 4 = 0 := (hI 10 (by decide) 4).trans (by decide +kernel)
  have e10_5 : g_i (ld h stT) (g_t h + stO 10) 5 = 3 := (hI 10 (by decide) 5).trans (by decide +kernel)
  have e10_6 : g_i (ld h stT) (g_t h + stO 10) 6 = -1 := (hI 10 (by decide) 6).trans (by decide +kernel)
  have e11_4 : g_i (ld h stT) (g_t h + stO 11) 4 = 0 := (hI 11 (by decide) 4).trans (by decide +kernel)
  have e11_5 : g_i (ld h stT) (g_t h + stO 11) 5 = 0 := (hI 11 (by decide) 5).trans (by decide +kernel)
  have e11_6 : g_i (ld h stT) (g_t h + stO 11) 6 = -1 := (hI 11 (by decide) 6).trans (by decide +kernel)
  have e12_4 : g_i (ld h stT) (g_t h + stO 12) 4 = 0 := (hI 12 (by decide) 4).trans (by decide +kernel)
  have e12_5 : g_i (ld h stT) (g_t h + stO 12) 5 = 6 := (hI 12 (by decide) 5).trans (by decide +kernel)
  have e12_6 : g_i (ld h stT) (g_t h + stO 12) 6 = -1 := (hI 12 (by decide) 6).trans (by decide +kernel)
  have e13_4 : g_i (ld h stT) (g_t h + stO 13) 4 = 0 := (hI 13 (by decide) 4).trans (by decide +kernel)
  have e13_5 : g_i (ld h stT) (g_t h + stO 13) 5 = 0 := (hI 13 (by decide) 5).trans (by decide +kernel)
  have e13_6 : g_i (ld h stT) (g_t h + stO 13) 6 = -1 := (hI 13 (by decide) 6).trans (by decide +kernel)
  have e14_4 : g_i (ld h stT) (g_t h + stO 14) 4 = 0 := (hI 14 (by decide) 4).trans (by decide +kernel)
  have e14_5 : g_i (ld h stT) (g_t h + stO 14) 5 = 10 := (hI 14 (by decide) 5).trans (by decide +kernel)
  have e14_6 : g_i (ld h stT) (g_t h + stO 14) 6 = -1 := (hI 14 (by decide) 6).trans (by decide +kernel)
  have e15_1 : g_i (ld h stT) (g_t h + stO 15) 1 = 0 := (hI 15 (by decide) 1).trans (by decide +kernel)
  have e15_2 : g_i (ld h stT) (g_t h + stO 15) 2 = 16 := (hI 15 (by decide) 2).trans (by decide +kernel)
  have e15_3 : g_i (ld h stT) (g_t h + stO 15) 3 = 1 := (hI 15 (by decide) 3).trans (by decide +kernel)
  have e15_4 : g_i (ld h stT) (g_t h + stO 15) 4 = 1 := (hI 15 (by decide) 4).trans (by decide +kernel)
  have e15_5 : g_i (ld h stT) (g_t h + stO 15) 5 = 15 := (hI 15 (by decide) 5).trans (by decide +kernel)
  have e15_6 : g_i (ld h stT) (g_t h + stO 15) 6 = -1 := (hI 15 (by decide) 6).trans (by decide +kernel)
  have e16_1 : g_i (ld h stT) (g_t h + stO 16) 1 = 11 := (hI 16 (by decide) 1).trans (by decide +kernel)
  have e16_2 : g_i (ld h stT) (g_t h + stO 16) 2 = 24 := (hI 16 (by decide) 2).trans (by decide +kernel)
  have e16_3 : g_i (ld h stT) (g_t h + stO 16) 3 = 0 := (hI 16 (by decide) 3).trans (by decide +kernel)
  have e16_4 : g_i (ld h stT) (g_t h + stO 16) 4 = 0 := (hI 16 (by decide) 4).trans (by decide +kernel)
  have e16_5 : g_i (ld h stT) (g_t h + stO 16) 5 = 24 := (hI 16 (by decide) 5).trans (by decide +kernel)
  have e16_6 : g_i (ld h stT) (g_t h + stO 16) 6 = -1 := (hI 16 (by decide) 6).trans (by decide +kernel)
  have e20_1 : g_i (ld h stT) (g_t h + stO 20) 1 = 0 := (hI 20 (by decide) 1).trans (by decide +kernel)
  have e20_3 : g_i (ld h stT) (g_t h + stO 20) 3 = 0 := (hI 20 (by decide) 3).trans (by decide +kernel)
  have e22_6 : g_i (ld h stT) (g_t h + stO 22) 6 = 0 := (hI 22 (by decide) 6).trans (by decide +kernel)
  have e27_0 : g_i (ld h stT) (g_t h + stO 27) 0 = 0 := (hI 27 (by decide) 0).trans (by decide +kernel)
  have e27_1 : g_i (ld h stT) (g_t h + stO 27) 1 = 0 := (hI 27 (by decide) 1).trans (by decide +kernel)
  have e27_2 : g_i (ld h stT) (g_t h + stO 27) 2 = 0 := (hI 27 (by decide) 2).trans (by decide +kernel)
  have e28_3 : g_i (ld h stT) (g_t h + stO 28) 3 = 0 := (hI 28 (by decide) 3).trans (by decide +kernel)
  have e28_4 : g_i (ld h stT) (g_t h + stO 28) 4 = 10 := (hI 28 (by decide) 4).trans (by decide +kernel)
  have e28_5 : g_i (ld h stT) (g_t h + stO 28) 5 = -1 := (hI 28 (by decide) 5).trans (by decide +kernel)
  have e31_3 : g_i (ld h stT) (g_t h + stO 31) 3 = 0 := (hI 31 (by decide) 3).trans (by decide +kernel)
  have e31_4 : g_i (ld h stT) (g_t h + stO 31) 4 = 5 := (hI 31 (by decide) 4).trans (by decide +kernel)
  have e31_5 : g_i (ld h stT) (g_t h + stO 31) 5 = -1 := (hI 31 (by decide) 5).trans (by decide +kernel)
  have e32_3 : g_i (ld h stT) (g_t h + stO 32) 3 = 0 := (hI 32 (by decide) 3).trans (by decide +kernel)
  have e32_4 : g_i (ld h stT) (g_t h + stO 32) 4 = 3 := (hI 32 (by decide) 4).trans (by decide +kernel)
  have e32_5 : g_i (ld h stT) (g_t h + stO 32) 5 = -1 := (hI 32 (by decide) 5).trans (by decide +kernel)
  have e33_3 : g_i (ld h stT) (g_t h + stO 33) 3 = 0 := (hI 33 (by decide) 3).trans (by decide +kernel)
  have e33_4 : g_i (ld h stT) (g_t h + stO 33) 4 = 6 := (hI 33 (by decide) 4).trans (by decide +kernel)
  have e33_5 : g_i (ld h stT) (g_t h + stO 33) 5 = -1 := (hI 33 (by decide) 5).trans (by decide +kernel)
  have e34_3 : g_i (ld h stT) (g_t h + stO 34) 3 = 0 := (hI 34 (by decide) 3).trans (by decide +kernel)
  have e34_4 : g_i (ld h stT) (g_t h + stO 34) 4 = 0 := (hI 34 (by decide) 4).trans (by decide +kernel)
  have e34_5 : g_i (ld h stT) (g_t h + stO 34) 5 = -1 := (hI 34 (by decide) 5).trans (by decide +kernel)
  have e35_3 : g_i (ld h stT) (g_t h + stO 35) 3 = 0 := (hI 35 (by decide) 3).trans (by decide +kernel)
  have e35_4 : g_i (ld h stT) (g_t h + stO 35) 4 = 0 := (hI 35 (by decide) 4).trans (by decide +kernel)
  have e35_5 : g_i (ld h stT) (g_t h + stO 35) 5 = -1 := (hI 35 (by decide) 5).trans (by decide +kernel)
  have e36_3 : g_i (ld h stT) (g_t h + stO 36) 3 = 0 := (hI 36 (by decide) 3).trans (by decide +kernel)
  have e36_4 : g_i (ld h stT) (g_t h + stO 36) 4 = 0 := (hI 36 (by decide) 4).trans (by decide +kernel)
  have e36_5 : g_i (ld h stT) (g_t h + stO 36) 5 = -1 := (hI 36 (by decide) 5).trans (by decide +kernel)
  have e37_0 : g_i (ld h stT) (g_t h + stO 37) 0 = 0 := (hI 37 (by decide) 0).trans (by decide +kernel)
  have e37_1 : g_i (ld h stT) (g_t h + stO 37) 1 = 16 := (hI 37 (by decide) 1).trans (by decide +kernel)
  have e37_2 : g_i (ld h stT) (g_t h + stO 37) 2 = 1 := (hI 37 (by decide) 2).trans (by decide +kernel)
  have e37_3 : g_i (ld h stT) (g_t h + stO 37) 3 = 1 := (hI 37 (by decide) 3).trans (by decide +kernel)
  have e37_4 : g_i (ld h stT) (g_t h + stO 37) 4 = 15 := (hI 37 (by decide) 4).trans (by decide +kernel)
  have e37_5 : g_i (ld h stT) (g_t h + stO 37) 5 = -1 := (hI 37 (by decide) 5).trans (by decide +kernel)
  have e38_0 : g_i (ld h stT) (g_t h + stO 38) 0 = 11 := (hI 38 (by decide) 0).trans (by decide +kernel)
  have e38_1 : g_i (ld h stT) (g_t h + stO 38) 1 = 24 := (hI 38 (by decide) 1).trans (by decide +kernel)
  have e38_2 : g_i (ld h stT) (g_t h + stO 38) 2 = 0 := (hI 38 (by decide) 2).trans (by decide +kernel)
  have e38_3 : g_i (ld h stT) (g_t h + stO 38) 3 = 0 := (hI 38 (by decide) 3).trans (by decide +kernel)
  have e38_4 : g_i (ld h stT) (g_t h + stO 38) 4 = 24 := (hI 38 (by decide) 4).trans (by decide +kernel)
  have e38_5 : g_i (ld h stT) (g_t h + stO 38) 5 = -1 := (hI 38 (by decide) 5).trans (by decide +kernel)
  refine ⟨⟨fun i j hi hj => by rw [Nat.add_left_cancel_iff]; exact stO_inj i hi j hj, ?_, ⟨fun i hi => by rw [ld_z]; exact Nat.le_trans hz (Nat.le_add_right _ _), fun i hi => by rw [ld_t, stT_c]; exact Nat.add_lt_add_left (stO_lt i hi) _⟩, ?_, ?_⟩, ?_, ?_, ?_, ?_, ?_, ?_, ?_, ?_, ?_, ?_, ?_⟩
  · exact ⟨(hC 0 (by decide)).trans (by decide +kernel), (hC 1 (by decide)).trans (by decide +kernel), (hC 2 (by decide)).trans (by decide +kernel), (hC 3 (by decide)).trans (by decide +kernel), (hC 4 (by decide)).trans (by decide +kernel), (hC 5 (by decide)).trans (by decide +kernel), (hC 6 (by decide)).trans (by decide +kernel), (hC 7 (by decide)).trans (by decide +kernel), (hC 8 (by decide)).trans (by decide +kernel), (hC 9 (by decide)).trans (by decide +kernel), (hC 10 (by decide)).trans (by decide +kernel), (hC 11 (by decide)).trans (by decide +kernel), (hC 12 (by decide)).trans (by decide +kernel), (hC 13 (by decide)).trans (by decide +kernel), (hC 14 (by decide)).trans (by decide +kernel), (hC 15 (by decide)).trans (by decide +kernel), (hC 16 (by decide)).trans (by decide +kernel), (hC 17 (by decide)).trans (by decide +kernel), (hC 18 (by decide)).trans (by decide +kernel), (hC 19 (by decide)).trans (by decide +kernel), (hC 20 (by decide)).trans (by decide +kernel), (hC 21 (by decide)).trans (by decide +kernel), (hC 22 (by decide)).trans (by decide +kernel), (hC 23 (by decide)).trans (by decide +kernel), (hC 24 (by decide)).trans (by decide +kernel), (hC 25 (by decide)).trans (by decide +kernel), (hC 26 (by decide)).trans (by decide +kernel), (hC 27 (by decide)).trans (by decide +kernel), (hC 28 (by decide)).trans (by decide +kernel), (hC 29 (by decide)).trans (by decide +kernel), (hC 30 (by decide)).trans (by decide +kernel), (hC 31 (by decide)).trans (by decide +kernel), (hC 32 (by decide)).trans (by decide +kernel), (hC 33 (by decide)).trans (by decide +kernel), (hC 34 (by decide)).trans (by decide +kernel), (hC 35 (by decide)).trans (by decide +kernel), (hC 36 (by decide)).trans (by decide +kernel), (hC 37 (by decide)).trans (by decide +kernel), (hC 38 (by decide)).trans (by decide +kernel), (hC 39 (by decide)).trans (by decide +kernel)⟩
  · exact ⟨(hN 3 (by decide)).trans (by decide +kernel), (hN 4 (by decide)).trans (by decide +kernel), (hN 18 (by decide)).trans (by decide +kernel), (hN 21 (by decide)).trans (by decide +kernel), (hN 23 (by decide)).trans (by decide +kernel), (hN 24 (by decide)).trans (by decide +kernel), (hN 25 (by decide)).trans (by decide +kernel), (hN 26 (by decide)).trans (by decide +kernel), (hN 27 (by decide)).trans (by decide +kernel), (hN 29 (by decide)).trans (by decide +kernel), (hN 30 (by decide)).trans (by decide +kernel)⟩
  · exact ⟨(hR 0 (by decide) 0).trans (by rw [show eR stT (stO 0) 0 = some (stO 1) by decide +kernel]; rfl), (hR 0 (by decide) 1).trans (by rw [show eR stT (stO 0) 1 = some (stO 2) by decide +kernel]; rfl), (hR 0 (by decide) 2).trans (by rw [show eR stT (stO 0) 2 = some (stO 5) by decide +kernel]; rfl), (hR 0 (by decide) 3).trans (by rw [show eR stT (stO 0) 3 = some (stO 6) by decide +kernel]; rfl), (hR 0 (by decide) 4).trans (by rw [show eR stT (stO 0) 4 = some (stO 7) by decide +kernel]; rfl), (hR 0 (by decide) 5).trans (by rw [show eR stT (stO 0) 5 = some (stO 14) by decide +kernel]; rfl), (hR 0 (by decide) 7).trans (by rw [show eR stT (stO 0) 7 = some (stO 15) by decide +kernel]; rfl), (hR 0 (by decide) 8).trans (by rw [show eR stT (stO 0) 8 = some (stO 16) by decide +kernel]; rfl), (hR 0 (by decide) 9).trans (by rw [show eR stT (stO 0) 9 = some (stO 17) by decide +kernel]; rfl), (hR 0 (by decide) 10).trans (by rw [show eR stT (stO 0) 10 = some (stO 19) by decide +kernel]; rfl), (hR 1 (by decide) 0).trans (by rw [show eR stT (stO 1) 0 = some (stO 3) by decide +kernel]; rfl), (hR 2 (by decide) 0).trans (by rw [show eR stT (stO 2) 0 = some (stO 4) by decide +kernel]; rfl), (hR 5 (by decide) 0).trans (by rw [show eR stT (stO 5) 0 = some (stO 8) by decide +kernel]; rfl), (hR 5 (by decide) 1).trans (by rw [show eR stT (stO 5) 1 = some (stO 9) by decide +kernel]; rfl), (hR 6 (by decide) 0).trans (by rw [show eR stT (stO 6) 0 = some (stO 10) by decide +kernel]; rfl), (hR 6 (by decide) 1).trans (by rw [show eR stT (stO 6) 1 = some (stO 11) by decide +kernel]; rfl), (hR 7 (by decide) 0).trans (by rw [show eR stT (stO 7) 0 = some (stO 12) by decide +kernel]; rfl), (hR 7 (by decide) 1).trans (by rw [show eR stT (stO 7) 1 = some (stO 13) by decide +kernel]; rfl), (hR 8 (by decide) 0).trans (by rw [show eR stT (stO 8) 0 = some (stO 1) by decide +kernel]; rfl), (hR 9 (by decide) 0).trans (by rw [show eR stT (stO 9) 0 = some (stO 1) by decide +kernel]; rfl), (hR 10 (by decide) 0).trans (by rw [show eR stT (stO 10) 0 = some (stO 1) by decide +kernel]; rfl), (hR 11 (by decide) 0).trans (by rw [show eR stT (stO 11) 0 = some (stO 1) by decide +kernel]; rfl), (hR 12 (by decide) 0).trans (by rw [show eR stT (stO 12) 0 = some (stO 1) by decide +kernel]; rfl), (hR 13 (by decide) 0).trans (by rw [show eR stT (stO 13) 0 = some (stO 1) by decide +kernel]; rfl), (hR 14 (by decide) 0).trans (by rw [show eR stT (stO 14) 0 = some (stO 2) by decide +kernel]; rfl), (hR 15 (by decide) 0).trans (by rw [show eR stT (stO 15) 0 = some (stO 1) by decide +kernel]; rfl), (hR 16 (by decide) 0).trans (by rw [show eR stT (stO 16) 0 = some (stO 2) by decide +kernel]; rfl), (hR 17 (by decide) 0).trans (by rw [show eR stT (stO 17) 0 = some (stO 18) by decide +kernel]; rfl), (hR 19 (by decide) 0).trans (by rw [show eR stT (stO 19) 0 = some (stO 20) by decide +kernel]; rfl), (hR 19 (by decide) 1).trans (by rw [show eR stT (stO 19) 1 = some (stO 21) by decide +kernel]; rfl), (hR 22 (by decide) 0).trans (by rw [show eR stT (stO 22) 0 = some (stO 23) by decide +kernel]; rfl), (hR 22 (by decide) 1).trans (by rw [show eR stT (stO 22) 1 = some (stO 24) by decide +kernel]; rfl), (hR 22 (by decide) 2).trans (by rw [show eR stT (stO 22) 2 = some (stO 25) by decide +kernel]; rfl), (hR 22 (by decide) 3).trans (by rw [show eR stT (stO 22) 3 = some (stO 26) by decide +kernel]; rfl), (hR 22 (by decide) 4).trans (by rw [show eR stT (stO 22) 4 = some (stO 27) by decide +kernel]; rfl), (hR 22 (by decide) 5).trans (by rw [show eR stT (stO 22) 5 = some (stO 28) by decide +kernel]; rfl), (hR 22 (by decide) 7).trans (by rw [show eR stT (stO 22) 7 = some (stO 29) by decide +kernel]; rfl), (hR 22 (by decide) 8).trans (by rw [show eR stT (stO 22) 8 = some (stO 30) by decide +kernel]; rfl), (hR 25 (by decide) 0).trans (by rw [show eR stT (stO 25) 0 = some (stO 31) by decide +kernel]; rfl), (hR 25 (by decide) 1).trans (by rw [show eR stT (stO 25) 1 = some (stO 32) by decide +kernel]; rfl), (hR 25 (by decide) 2).trans (by rw [show eR stT (stO 25) 2 = some (stO 33) by decide +kernel]; rfl), (hR 26 (by decide) 0).trans (by rw [show eR stT (stO 26) 0 = some (stO 34) by decide +kernel]; rfl), (hR 26 (by decide) 1).trans (by rw [show eR stT (stO 26) 1 = some (stO 35) by decide +kernel]; rfl), (hR 26 (by decide) 2).trans (by rw [show eR stT (stO 26) 2 = some (stO 36) by decide +kernel]; rfl), (hR 29 (by decide) 0).trans (by rw [show eR stT (stO 29) 0 = some (stO 37) by decide +kernel]; rfl), (hR 29 (by decide) 1).trans (by rw [show eR stT (stO 29) 1 = some (stO 38) by decide +kernel]; rfl)⟩
  · exact ⟨(hI 5 (by decide) 2).trans (by decide +kernel), (hI 6 (by decide) 2).trans (by decide +kernel), (hI 7 (by decide) 2).trans (by decide +kernel), (hI 8 (by decide) 1).trans (by decide +kernel), (hI 8 (by decide) 2).trans (by decide +kernel), (hI 8 (by decide) 3).trans (by decide +kernel), (hI 9 (by decide) 1).trans (by decide +kernel), (hI 9 (by decide) 2).trans (by decide +kernel), (hI 9 (by decide) 3).trans (by decide +kernel), (hI 10 (by decide) 1).trans (by decide +kernel), (hI 10 (by decide) 2).trans (by decide +kernel), (hI 10 (by decide) 3).trans (by decide +kernel), (hI 11 (by decide) 1).trans (by decide +kernel), (hI 11 (by decide) 2).trans (by decide +kernel), (hI 11 (by decide) 3).trans (by decide +kernel), (hI 12 (by decide) 1).trans (by decide +kernel), (hI 12 (by decide) 2).trans (by decide +kernel), (hI 12 (by decide) 3).trans (by decide +kernel), (hI 13 (by decide) 1).trans (by decide +kernel), (hI 13 (by decide) 2).trans (by decide +kernel), (hI 13 (by decide) 3).trans (by decide +kernel), (hI 14 (by decide) 1).trans (by decide +kernel), (hI 14 (by decide) 2).trans (by decide +kernel), (hI 14 (by decide) 3).trans (by decide +kernel), (hI 28 (by decide) 0).trans (by decide +kernel), (hI 28 (by decide) 1).trans (by decide +kernel), (hI 31 (by decide) 0).trans (by decide +kernel), (hI 31 (by decide) 1).trans (by decide +kernel), (hI 32 (by decide) 0).trans (by decide +kernel), (hI 32 (by decide) 1).trans (by decide +kernel), (hI 33 (by decide) 0).trans (by decide +kernel), (hI 33 (by decide) 1).trans (by decide +kernel), (hI 34 (by decide) 0).trans (by decide +kernel), (hI 34 (by decide) 1).trans (by decide +kernel), (hI 35 (by decide) 0).trans (by decide +kernel), (hI 35 (by decide) 1).trans (by decide +kernel), (hI 36 (by decide) 0).trans (by decide +kernel), (hI 36 (by decide) 1).trans (by decide +kernel)⟩
  · simp only [Vq0, cT, mT, e5_3, e8_4, e8_5, e8_6, e9_4, e9_5, e9_6, e27_0, e31_3, e31_4, e31_5, e34_3, e34_4, e34_5]
    exact ⟨trivial, by decide +kernel⟩
  · simp only [Vq1, cT, mT, e6_3, e10_4, e10_5, e10_6, e11_4, e11_5, e11_6, e27_1, e32_3, e32_4, e32_5, e35_3, e35_4, e35_5]
    exact ⟨trivial, by decide +kernel⟩
  · simp only [Vq2, cT, mT, e7_3, e12_4, e12_5, e12_6, e13_4, e13_5, e13_6, e27_2, e33_3, e33_4, e33_5, e36_3, e36_4, e36_5]
    exact ⟨trivial, by decide +kernel⟩
  · simp only [Vp, e0_6, e14_4, e14_5, e14_6, e22_6, e28_3, e28_4, e28_5]
    exact ⟨⟨trivial, trivial, trivial, trivial⟩, by decide +kernel⟩
  · simp only [Vl0, lnOk, e15_1, e15_2, e15_3, e15_4, e15_5, e15_6, e37_0, e37_1, e37_2, e37_3, e37_4, e37_5]
    decide
  · simp only [Vl1, lnOk, e16_1, e16_2, e16_3, e16_4, e16_5, e16_6, e38_0, e38_1, e38_2, e38_3, e38_4, e38_5]
    decide
  · intro k _
    simp only [hL 3 (by decide), hL 23 (by decide)]
  · intro k hk
    have z : ∀ k, k < 36 → eI stT (stO 24) k = 0 := by decide +kernel
    simp only [hL 4 (by decide), hI 24 (by decide), z k hk]
    decide
  · intro k hk
    have z : ∀ k, k < 8 → eI stT (stO 18) k = eI stT (stO 30) k := by decide +kernel
    simp only [hI 18 (by decide), hI 30 (by decide), z k hk]
  · refine ⟨g_t h + 21, (hR 20 (by decide) 0).trans (by rw [show eR stT (stO 20) 0 = some 21 by decide +kernel]; rfl), (ld_c h 21 stT stT_w (by rw [stT_c]; decide)).trans (by decide +kernel), by rw [ld_z]; omega, by rw [ld_t, stT_c]; omega, ?_, ?_, e20_1, ?_, ?_⟩
    · rw [ld_n h 21 stT stT_w (by rw [stT_c]; decide)]
      exact Or.inl (by decide +kernel)
    · rw [ld_n h 21 stT stT_w (by rw [stT_c]; decide)]
      decide +kernel
    · rw [e20_3]; decide
    · rw [e20_3]; exact Nat.zero_le _
theorem start {scr B1 B2 : Nat} {h : MH} {Q : MR → MH → Prop} (hz : g_z h ≤ g_t h) (hb1 : 43 ≤ B1) (hb2 : 540 ≤ B2) (k : Ok 329 27 [.ref scr, .ref (g_t h), .ref (g_t h + 23), .ref (g_t h + 40), .int 0, mk0, mk0] [] (ld h stT) (B1 - 43) (B2 - 540) Q) : Ok 329 0 [.ref scr, mk0, mk0, mk0, mk0, mk0, mk0] [] h B1 B2 Q := by
  have b1 : (1 ≤ B1) = True := eq_true (by omega)
  have b2 : (11 ≤ B2) = True := eq_true (by omega)
  have b3 : (22 ≤ B1 - 1) = True := eq_true (by omega)
  have b4 : (199 ≤ B2 - 11) = True := eq_true (by omega)
  have b5 : (1 ≤ B1 - 1 - 22) = True := eq_true (by omega)
  have b6 : (10 ≤ B2 - 11 - 199) = True := eq_true (by omega)
  have b7 : (18 ≤ B1 - 1 - 22 - 1) = True := eq_true (by omega)
  have b8 : (318 ≤ B2 - 11 - 199 - 10) = True := eq_true (by omega)
  have b9 : (1 ≤ B1 - 1 - 22 - 1 - 18) = True := eq_true (by omega)
  have b10 : (2 ≤ B2 - 11 - 199 - 10 - 318) = True := eq_true (by omega)
  have q1 : B1 - 1 - 22 - 1 - 18 - 1 = B1 - 43 := by omega
  have q2 : B2 - 11 - 199 - 10 - 318 - 2 = B2 - 540 := by omega
  have hz1 : g_z (ld h stA) ≤ g_t (ld h stA) := by rw [ld_z, ld_t]; omega
  have t1 : g_t (ld h stA) = g_t h + 23 := by rw [ld_t, stA_c]
  have t2 : g_t (ld (ld h stA) stB) = g_t h + 40 := by rw [ld_app, ld_t]; exact congrArg (fun n => g_t h + n) (by decide +kernel)
  have em : p_N (ld (ld h stA) stB) 1 0 = ld h stT := by rw [ld_app]; rfl
  have k9 : g_c (p_N (ld h stA) 9 0) (g_t (ld h stA)) = 9 := by rw [mc_pN, if_pos rfl]
  have k7 : g_c (p_N h 7 0) (g_t h) = 7 := by rw [mc_pN, if_pos rfl]
  have k1 : g_c (p_N (ld (ld h stA) stB) 1 0) (g_t (ld (ld h stA) stB)) = 1 := by rw [mc_pN, if_pos rfl]
  rw [o329_0]
  simp only [o329_3, o329_4, o329_7, o329_8, o329_11, o329_12, o329_15, o329_16, o329_19, o329_20, o329_23, o329_24, o329_25, o149_0, o149_1, o149_4, mcs_0, mcs_r, Kn_0, true_and, Nat.reduceLeDiff, Nat.reduceAdd, Nat.zero_le, k7, st_X5 hz, st_X8 hz1, k9, k1, b1, b2, b3, b4, b5, b6, b7, b8, b9, b10]
  rw [em, t1, t2, q1, q2]
  exact k
theorem ld_Lw {h : MH} (hz : g_z h ≤ g_t h) : ∀ T, Lw h (ld h T)
  | [] => Lw_rfl
  | .inl (_, _, _) :: T => Lw_tr (ld_Lw hz T) (Lw_pN (by rw [ld_z, ld_t]; omega))
  | .inr (.inl (_, _, _)) :: T => Lw_tr (ld_Lw hz T) (Lw_pi (by rw [ld_z]; omega))
  | .inr (.inr (_, _, _)) :: T => Lw_tr (ld_Lw hz T) (Lw_pr (by rw [ld_z]; omega))
theorem law_ok {scr n : Nat} {h : MH} {Q : MR → MH → Prop} (hn : n ≤ 256) (C : Cs h) (S : Scr scr n h) (hQ : ∀ m, Q (.inl (some (.int 1))) m) : Ok 329 0 [.ref scr, mk0, mk0, mk0, mk0, mk0, mk0] [] h 52907 6333916 Q := by
  have hz := S.2.2.2
  have lo : Lw h (ld h stT) := ld_Lw hz stT
  refine start hz (by omega) (by omega) ?_
  exact law_loop hn hQ 64 0 _ _ mk0 mk0 rfl (start_Rl hz) (Cs_Lw C lo) (Scr_Lw S lo).1

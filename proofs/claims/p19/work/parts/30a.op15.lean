/-! new cells -/
def RlX (A : Nat → Nat) (h : MH) : Prop := ∃ B : Nat → Nat, B 0 = A 0 ∧ B 22 = A 22 ∧ B 39 = A 39 ∧ Rl B h
theorem RlX_of {A : Nat → Nat} {h : MH} (R : Rl A h) : RlX A h := ⟨A, rfl, rfl, rfl, R⟩
theorem Kz1_up {A : Nat → Nat} {J a : Nat} {h m : MH} (k : Kz1 A h) (hz : g_z m = g_z h) (ht : g_t h ≤ g_t m) (h1 : g_z h ≤ a) (h2 : a < g_t m) : Kz1 (up A J a) m := by
  refine ⟨fun i hi => ?_, fun i hi => ?_⟩ <;> unfold up
  · by_cases c : i = J
    · rw [if_pos c, hz]; exact h1
    · rw [if_neg c, hz]; exact k.1 i hi
  · by_cases c : i = J
    · rw [if_pos c]; exact h2
    · rw [if_neg c]; exact Nat.lt_of_lt_of_le (k.2 i hi) ht
theorem Tx_up15 {A : Nat → Nat} {m : MH} {a : Nat} : Tx (up A 15 a) m = Tx A m := id rfl
theorem Tx_up16 {A : Nat → Nat} {m : MH} {a : Nat} : Tx (up A 16 a) m = Tx A m := id rfl
theorem Tx_up31 {A : Nat → Nat} {m : MH} {a : Nat} : Tx (up A 31 a) m = Tx A m := id rfl
theorem Tx_up32 {A : Nat → Nat} {m : MH} {a : Nat} : Tx (up A 32 a) m = Tx A m := id rfl
theorem Tx_up33 {A : Nat → Nat} {m : MH} {a : Nat} : Tx (up A 33 a) m = Tx A m := id rfl
theorem Tx_up34 {A : Nat → Nat} {m : MH} {a : Nat} : Tx (up A 34 a) m = Tx A m := id rfl
theorem Tx_up35 {A : Nat → Nat} {m : MH} {a : Nat} : Tx (up A 35 a) m = Tx A m := id rfl
theorem Tx_up36 {A : Nat → Nat} {m : MH} {a : Nat} : Tx (up A 36 a) m = Tx A m := id rfl
theorem Tx_up37 {A : Nat → Nat} {m : MH} {a : Nat} : Tx (up A 37 a) m = Tx A m := id rfl
theorem Tx_up38 {A : Nat → Nat} {m : MH} {a : Nat} : Tx (up A 38 a) m = Tx A m := id rfl
theorem Vq0_27_1 {A : Nat → Nat} {m : MH} {v : Int32} (hA : inj40 A) : Vq0 A (p_i m (A 27) 1 v) = Vq0 A m := by
  simp only [Vq0, cT, mT, mi_pi, Nat.reduceEqDiff, and_false, if_false, (hA_5_27 hA), (hA_8_27 hA), (hA_9_27 hA), (hA_31_27 hA), (hA_34_27 hA)]
theorem Vq0_27_2 {A : Nat → Nat} {m : MH} {v : Int32} (hA : inj40 A) : Vq0 A (p_i m (A 27) 2 v) = Vq0 A m := by
  simp only [Vq0, cT, mT, mi_pi, Nat.reduceEqDiff, and_false, if_false, (hA_5_27 hA), (hA_8_27 hA), (hA_9_27 hA), (hA_31_27 hA), (hA_34_27 hA)]
theorem Vq1_27_0 {A : Nat → Nat} {m : MH} {v : Int32} (hA : inj40 A) : Vq1 A (p_i m (A 27) 0 v) = Vq1 A m := by
  simp only [Vq1, cT, mT, mi_pi, Nat.reduceEqDiff, and_false, if_false, (hA_6_27 hA), (hA_10_27 hA), (hA_11_27 hA), (hA_32_27 hA), (hA_35_27 hA)]
theorem Vq1_27_2 {A : Nat → Nat} {m : MH} {v : Int32} (hA : inj40 A) : Vq1 A (p_i m (A 27) 2 v) = Vq1 A m := by
  simp only [Vq1, cT, mT, mi_pi, Nat.reduceEqDiff, and_false, if_false, (hA_6_27 hA), (hA_10_27 hA), (hA_11_27 hA), (hA_32_27 hA), (hA_35_27 hA)]
theorem Vq2_27_0 {A : Nat → Nat} {m : MH} {v : Int32} (hA : inj40 A) : Vq2 A (p_i m (A 27) 0 v) = Vq2 A m := by
  simp only [Vq2, cT, mT, mi_pi, Nat.reduceEqDiff, and_false, if_false, (hA_7_27 hA), (hA_12_27 hA), (hA_13_27 hA), (hA_33_27 hA), (hA_36_27 hA)]
theorem Vq2_27_1 {A : Nat → Nat} {m : MH} {v : Int32} (hA : inj40 A) : Vq2 A (p_i m (A 27) 1 v) = Vq2 A m := by
  simp only [Vq2, cT, mT, mi_pi, Nat.reduceEqDiff, and_false, if_false, (hA_7_27 hA), (hA_12_27 hA), (hA_13_27 hA), (hA_33_27 hA), (hA_36_27 hA)]

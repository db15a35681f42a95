/-! NEW CELLS in the place of old ones -/
def up (A : Nat → Nat) (J a : Nat) : Nat → Nat := fun j => if j = J then a else A j
/-- no address of ours -/
def nt (A : Nat → Nat) (x : Nat) : Prop := ∀ j, j < 40 → ¬ A j = x
theorem inj_up {A : Nat → Nat} {J a : Nat} (hA : inj40 A) (hf : nt A a) : inj40 (up A J a) := by
  intro i j hi hj
  unfold up
  by_cases h1 : i = J
  · by_cases h2 : j = J
    · simp only [if_pos h1, if_pos h2]
      exact ⟨fun _ => h1.trans h2.symm, fun _ => trivial⟩
    · simp only [if_pos h1, if_neg h2]
      exact ⟨fun z => absurd z.symm (hf j hj), fun z => absurd (z ▸ h1) h2⟩
  · by_cases h2 : j = J
    · simp only [if_neg h1, if_pos h2]
      exact ⟨fun z => absurd z (hf i hi), fun z => absurd (z.trans h2) h1⟩
    · simp only [if_neg h1, if_neg h2]
      exact hA i j hi hj
theorem nt_up {A : Nat → Nat} {J a x : Nat} (hf : nt A x) (h : ¬ a = x) : nt (up A J a) x := by
  intro j hj
  unfold up
  by_cases h1 : j = J
  · rw [if_pos h1]; exact h
  · rw [if_neg h1]; exact hf j hj
theorem Tx_of {A : Nat → Nat} {h m : MH} (tx : Tx A h) (hz : g_z m = g_z h) (ht : g_t h ≤ g_t m) (hc : ∀ a, a < g_t h → g_c m a = g_c h a ∧ g_n m a = g_n h a) (hr : g_r m (A 20) 0 = g_r h (A 20) 0) (h1 : g_i m (A 20) 1 = g_i h (A 20) 1) (h3 : g_i m (A 20) 3 = g_i h (A 20) 3) : Tx A m := by
  obtain ⟨v, a1, a2, a3, a4, a5, a6, a7, a8, a9⟩ := tx
  obtain ⟨g1, g2⟩ := hc v a4
  refine ⟨v, ?_⟩
  simp only [hr, g1, g2, hz, h1, h3]
  exact ⟨a1, a2, a3, Nat.lt_of_lt_of_le a4 ht, a5, a6, a7, a8, a9⟩
theorem Vq0_pia {A : Nat → Nat} {m : MH} {a k : Nat} {v : Int32} (hf : nt A a) : Vq0 A (p_i m a k v) = Vq0 A m := by
  have e : ∀ i, i < 40 → (A i = a) = False := fun i hi => eq_false (hf i hi)
  simp only [Vq0, cT, mT, mi_pi, e, Nat.reduceLT, false_and, if_false]
theorem Vq0_pN {A : Nat → Nat} {m : MH} {tag n : Nat} (hf : nt A (g_t m)) : Vq0 A (p_N m tag n) = Vq0 A m := by
  have e : ∀ i, i < 40 → (A i = g_t m) = False := fun i hi => eq_false (hf i hi)
  simp only [Vq0, cT, mT, mi_pN, e, Nat.reduceLT, if_false]
theorem Vq0_up15 {A : Nat → Nat} {m : MH} {a : Nat} : Vq0 (up A 15 a) m = Vq0 A m := id rfl
theorem Vq0_up16 {A : Nat → Nat} {m : MH} {a : Nat} : Vq0 (up A 16 a) m = Vq0 A m := id rfl
theorem Vq0_up37 {A : Nat → Nat} {m : MH} {a : Nat} : Vq0 (up A 37 a) m = Vq0 A m := id rfl
theorem Vq0_up38 {A : Nat → Nat} {m : MH} {a : Nat} : Vq0 (up A 38 a) m = Vq0 A m := id rfl
theorem Vq0_up32 {A : Nat → Nat} {m : MH} {a : Nat} : Vq0 (up A 32 a) m = Vq0 A m := id rfl
theorem Vq0_up33 {A : Nat → Nat} {m : MH} {a : Nat} : Vq0 (up A 33 a) m = Vq0 A m := id rfl
theorem Vq0_up35 {A : Nat → Nat} {m : MH} {a : Nat} : Vq0 (up A 35 a) m = Vq0 A m := id rfl
theorem Vq0_up36 {A : Nat → Nat} {m : MH} {a : Nat} : Vq0 (up A 36 a) m = Vq0 A m := id rfl
theorem Vq1_pia {A : Nat → Nat} {m : MH} {a k : Nat} {v : Int32} (hf : nt A a) : Vq1 A (p_i m a k v) = Vq1 A m := by
  have e : ∀ i, i < 40 → (A i = a) = False := fun i hi => eq_false (hf i hi)
  simp only [Vq1, cT, mT, mi_pi, e, Nat.reduceLT, false_and, if_false]
theorem Vq1_pN {A : Nat → Nat} {m : MH} {tag n : Nat} (hf : nt A (g_t m)) : Vq1 A (p_N m tag n) = Vq1 A m := by
  have e : ∀ i, i < 40 → (A i = g_t m) = False := fun i hi => eq_false (hf i hi)
  simp only [Vq1, cT, mT, mi_pN, e, Nat.reduceLT, if_false]
theorem Vq1_up15 {A : Nat → Nat} {m : MH} {a : Nat} : Vq1 (up A 15 a) m = Vq1 A m := id rfl
theorem Vq1_up16 {A : Nat → Nat} {m : MH} {a : Nat} : Vq1 (up A 16 a) m = Vq1 A m := id rfl
theorem Vq1_up37 {A : Nat → Nat} {m : MH} {a : Nat} : Vq1 (up A 37 a) m = Vq1 A m := id rfl
theorem Vq1_up38 {A : Nat → Nat} {m : MH} {a : Nat} : Vq1 (up A 38 a) m = Vq1 A m := id rfl
theorem Vq1_up31 {A : Nat → Nat} {m : MH} {a : Nat} : Vq1 (up A 31 a) m = Vq1 A m := id rfl
theorem Vq1_up33 {A : Nat → Nat} {m : MH} {a : Nat} : Vq1 (up A 33 a) m = Vq1 A m := id rfl
theorem Vq1_up34 {A : Nat → Nat} {m : MH} {a : Nat} : Vq1 (up A 34 a) m = Vq1 A m := id rfl
theorem Vq1_up36 {A : Nat → Nat} {m : MH} {a : Nat} : Vq1 (up A 36 a) m = Vq1 A m := id rfl
theorem Vq2_pia {A : Nat → Nat} {m : MH} {a k : Nat} {v : Int32} (hf : nt A a) : Vq2 A (p_i m a k v) = Vq2 A m := by
  have e : ∀ i, i < 40 → (A i = a) = False := fun i hi => eq_false (hf i hi)
  simp only [Vq2, cT, mT, mi_pi, e, Nat.reduceLT, false_and, if_false]
theorem Vq2_pN {A : Nat → Nat} {m : MH} {tag n : Nat} (hf : nt A (g_t m)) : Vq2 A (p_N m tag n) = Vq2 A m := by
  have e : ∀ i, i < 40 → (A i = g_t m) = False := fun i hi => eq_false (hf i hi)
  simp only [Vq2, cT, mT, mi_pN, e, Nat.reduceLT, if_false]
theorem Vq2_up15 {A : Nat → Nat} {m : MH} {a : Nat} : Vq2 (up A 15 a) m = Vq2 A m := id rfl
theorem Vq2_up16 {A : Nat → Nat} {m : MH} {a : Nat} : Vq2 (up A 16 a) m = Vq2 A m := id rfl
theorem Vq2_up37 {A : Nat → Nat} {m : MH} {a : Nat} : Vq2 (up A 37 a) m = Vq2 A m := id rfl
theorem Vq2_up38 {A : Nat → Nat} {m : MH} {a : Nat} : Vq2 (up A 38 a) m = Vq2 A m := id rfl
theorem Vq2_up31 {A : Nat → Nat} {m : MH} {a : Nat} : Vq2 (up A 31 a) m = Vq2 A m := id rfl
theorem Vq2_up32 {A : Nat → Nat} {m : MH} {a : Nat} : Vq2 (up A 32 a) m = Vq2 A m := id rfl
theorem Vq2_up34 {A : Nat → Nat} {m : MH} {a : Nat} : Vq2 (up A 34 a) m = Vq2 A m := id rfl
theorem Vq2_up35 {A : Nat → Nat} {m : MH} {a : Nat} : Vq2 (up A 35 a) m = Vq2 A m := id rfl
theorem Vp_pia {A : Nat → Nat} {m : MH} {a k : Nat} {v : Int32} (hf : nt A a) : Vp A (p_i m a k v) = Vp A m := by
  have e : ∀ i, i < 40 → (A i = a) = False := fun i hi => eq_false (hf i hi)
  simp only [Vp, mi_pi, e, Nat.reduceLT, false_and, if_false]
theorem Vp_pN {A : Nat → Nat} {m : MH} {tag n : Nat} (hf : nt A (g_t m)) : Vp A (p_N m tag n) = Vp A m := by
  have e : ∀ i, i < 40 → (A i = g_t m) = False := fun i hi => eq_false (hf i hi)
  simp only [Vp, mi_pN, e, Nat.reduceLT, if_false]
theorem Vp_up15 {A : Nat → Nat} {m : MH} {a : Nat} : Vp (up A 15 a) m = Vp A m := id rfl
theorem Vp_up16 {A : Nat → Nat} {m : MH} {a : Nat} : Vp (up A 16 a) m = Vp A m := id rfl
theorem Vp_up37 {A : Nat → Nat} {m : MH} {a : Nat} : Vp (up A 37 a) m = Vp A m := id rfl
theorem Vp_up38 {A : Nat → Nat} {m : MH} {a : Nat} : Vp (up A 38 a) m = Vp A m := id rfl
theorem Vp_up31 {A : Nat → Nat} {m : MH} {a : Nat} : Vp (up A 31 a) m = Vp A m := id rfl
theorem Vp_up32 {A : Nat → Nat} {m : MH} {a : Nat} : Vp (up A 32 a) m = Vp A m := id rfl
theorem Vp_up33 {A : Nat → Nat} {m : MH} {a : Nat} : Vp (up A 33 a) m = Vp A m := id rfl
theorem Vp_up34 {A : Nat → Nat} {m : MH} {a : Nat} : Vp (up A 34 a) m = Vp A m := id rfl
theorem Vp_up35 {A : Nat → Nat} {m : MH} {a : Nat} : Vp (up A 35 a) m = Vp A m := id rfl
theorem Vp_up36 {A : Nat → Nat} {m : MH} {a : Nat} : Vp (up A 36 a) m = Vp A m := id rfl
theorem Vl0_pia {A : Nat → Nat} {m : MH} {a k : Nat} {v : Int32} (hf : nt A a) : Vl0 A (p_i m a k v) = Vl0 A m := by
  have e : ∀ i, i < 40 → (A i = a) = False := fun i hi => eq_false (hf i hi)
  simp only [Vl0, mi_pi, e, Nat.reduceLT, false_and, if_false]
theorem Vl0_pN {A : Nat → Nat} {m : MH} {tag n : Nat} (hf : nt A (g_t m)) : Vl0 A (p_N m tag n) = Vl0 A m := by
  have e : ∀ i, i < 40 → (A i = g_t m) = False := fun i hi => eq_false (hf i hi)
  simp only [Vl0, mi_pN, e, Nat.reduceLT, if_false]
theorem Vl0_up16 {A : Nat → Nat} {m : MH} {a : Nat} : Vl0 (up A 16 a) m = Vl0 A m := id rfl
theorem Vl0_up38 {A : Nat → Nat} {m : MH} {a : Nat} : Vl0 (up A 38 a) m = Vl0 A m := id rfl
theorem Vl0_up31 {A : Nat → Nat} {m : MH} {a : Nat} : Vl0 (up A 31 a) m = Vl0 A m := id rfl
theorem Vl0_up32 {A : Nat → Nat} {m : MH} {a : Nat} : Vl0 (up A 32 a) m = Vl0 A m := id rfl
theorem Vl0_up33 {A : Nat → Nat} {m : MH} {a : Nat} : Vl0 (up A 33 a) m = Vl0 A m := id rfl
theorem Vl0_up34 {A : Nat → Nat} {m : MH} {a : Nat} : Vl0 (up A 34 a) m = Vl0 A m := id rfl
theorem Vl0_up35 {A : Nat → Nat} {m : MH} {a : Nat} : Vl0 (up A 35 a) m = Vl0 A m := id rfl
theorem Vl0_up36 {A : Nat → Nat} {m : MH} {a : Nat} : Vl0 (up A 36 a) m = Vl0 A m := id rfl
theorem Vl1_pia {A : Nat → Nat} {m : MH} {a k : Nat} {v : Int32} (hf : nt A a) : Vl1 A (p_i m a k v) = Vl1 A m := by
  have e : ∀ i, i < 40 → (A i = a) = False := fun i hi => eq_false (hf i hi)
  simp only [Vl1, mi_pi, e, Nat.reduceLT, false_and, if_false]
theorem Vl1_pN {A : Nat → Nat} {m : MH} {tag n : Nat} (hf : nt A (g_t m)) : Vl1 A (p_N m tag n) = Vl1 A m := by
  have e : ∀ i, i < 40 → (A i = g_t m) = False := fun i hi => eq_false (hf i hi)
  simp only [Vl1, mi_pN, e, Nat.reduceLT, if_false]
theorem Vl1_up15 {A : Nat → Nat} {m : MH} {a : Nat} : Vl1 (up A 15 a) m = Vl1 A m := id rfl
theorem Vl1_up37 {A : Nat → Nat} {m : MH} {a : Nat} : Vl1 (up A 37 a) m = Vl1 A m := id rfl
theorem Vl1_up31 {A : Nat → Nat} {m : MH} {a : Nat} : Vl1 (up A 31 a) m = Vl1 A m := id rfl
theorem Vl1_up32 {A : Nat → Nat} {m : MH} {a : Nat} : Vl1 (up A 32 a) m = Vl1 A m := id rfl
theorem Vl1_up33 {A : Nat → Nat} {m : MH} {a : Nat} : Vl1 (up A 33 a) m = Vl1 A m := id rfl
theorem Vl1_up34 {A : Nat → Nat} {m : MH} {a : Nat} : Vl1 (up A 34 a) m = Vl1 A m := id rfl
theorem Vl1_up35 {A : Nat → Nat} {m : MH} {a : Nat} : Vl1 (up A 35 a) m = Vl1 A m := id rfl
theorem Vl1_up36 {A : Nat → Nat} {m : MH} {a : Nat} : Vl1 (up A 36 a) m = Vl1 A m := id rfl
theorem Vlr_pia {A : Nat → Nat} {m : MH} {a k : Nat} {v : Int32} (hf : nt A a) : Vlr A (p_i m a k v) = Vlr A m := by
  have e : ∀ i, i < 40 → (A i = a) = False := fun i hi => eq_false (hf i hi)
  simp only [Vlr, ml_pi]
theorem Vlr_pN {A : Nat → Nat} {m : MH} {tag n : Nat} (hf : nt A (g_t m)) : Vlr A (p_N m tag n) = Vlr A m := by
  have e : ∀ i, i < 40 → (A i = g_t m) = False := fun i hi => eq_false (hf i hi)
  simp only [Vlr, ml_pN, e, Nat.reduceLT, if_false]
theorem Vlr_up15 {A : Nat → Nat} {m : MH} {a : Nat} : Vlr (up A 15 a) m = Vlr A m := id rfl
theorem Vlr_up16 {A : Nat → Nat} {m : MH} {a : Nat} : Vlr (up A 16 a) m = Vlr A m := id rfl
theorem Vlr_up37 {A : Nat → Nat} {m : MH} {a : Nat} : Vlr (up A 37 a) m = Vlr A m := id rfl
theorem Vlr_up38 {A : Nat → Nat} {m : MH} {a : Nat} : Vlr (up A 38 a) m = Vlr A m := id rfl
theorem Vlr_up31 {A : Nat → Nat} {m : MH} {a : Nat} : Vlr (up A 31 a) m = Vlr A m := id rfl
theorem Vlr_up32 {A : Nat → Nat} {m : MH} {a : Nat} : Vlr (up A 32 a) m = Vlr A m := id rfl
theorem Vlr_up33 {A : Nat → Nat} {m : MH} {a : Nat} : Vlr (up A 33 a) m = Vlr A m := id rfl
theorem Vlr_up34 {A : Nat → Nat} {m : MH} {a : Nat} : Vlr (up A 34 a) m = Vlr A m := id rfl
theorem Vlr_up35 {A : Nat → Nat} {m : MH} {a : Nat} : Vlr (up A 35 a) m = Vlr A m := id rfl
theorem Vlr_up36 {A : Nat → Nat} {m : MH} {a : Nat} : Vlr (up A 36 a) m = Vlr A m := id rfl
theorem Vsr_pia {A : Nat → Nat} {m : MH} {a k : Nat} {v : Int32} (hf : nt A a) : Vsr A (p_i m a k v) = Vsr A m := by
  have e : ∀ i, i < 40 → (A i = a) = False := fun i hi => eq_false (hf i hi)
  simp only [Vsr, mi_pi, ml_pi, e, Nat.reduceLT, false_and, if_false]
theorem Vsr_pN {A : Nat → Nat} {m : MH} {tag n : Nat} (hf : nt A (g_t m)) : Vsr A (p_N m tag n) = Vsr A m := by
  have e : ∀ i, i < 40 → (A i = g_t m) = False := fun i hi => eq_false (hf i hi)
  simp only [Vsr, mi_pN, ml_pN, e, Nat.reduceLT, if_false]
theorem Vsr_up15 {A : Nat → Nat} {m : MH} {a : Nat} : Vsr (up A 15 a) m = Vsr A m := id rfl
theorem Vsr_up16 {A : Nat → Nat} {m : MH} {a : Nat} : Vsr (up A 16 a) m = Vsr A m := id rfl
theorem Vsr_up37 {A : Nat → Nat} {m : MH} {a : Nat} : Vsr (up A 37 a) m = Vsr A m := id rfl
theorem Vsr_up38 {A : Nat → Nat} {m : MH} {a : Nat} : Vsr (up A 38 a) m = Vsr A m := id rfl
theorem Vsr_up31 {A : Nat → Nat} {m : MH} {a : Nat} : Vsr (up A 31 a) m = Vsr A m := id rfl
theorem Vsr_up32 {A : Nat → Nat} {m : MH} {a : Nat} : Vsr (up A 32 a) m = Vsr A m := id rfl
theorem Vsr_up33 {A : Nat → Nat} {m : MH} {a : Nat} : Vsr (up A 33 a) m = Vsr A m := id rfl
theorem Vsr_up34 {A : Nat → Nat} {m : MH} {a : Nat} : Vsr (up A 34 a) m = Vsr A m := id rfl
theorem Vsr_up35 {A : Nat → Nat} {m : MH} {a : Nat} : Vsr (up A 35 a) m = Vsr A m := id rfl
theorem Vsr_up36 {A : Nat → Nat} {m : MH} {a : Nat} : Vsr (up A 36 a) m = Vsr A m := id rfl
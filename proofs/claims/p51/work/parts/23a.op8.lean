section
/-! NEW CELLS in the place of old ones -/
def up (A : Nat → Nat) (J a : Nat) : Nat → Nat := fun j => if j = J then a else A j
/-- no address of ours -/
def nt (A : Nat → Nat) (x : Nat) : Prop := ∀ j, j < 40 → ¬ A j = x
theorem inj_up {A : Nat → Nat} {J a : Nat} (hA : inj40 A) (hf : nt A a) : inj40 (up A J a) := by
  intro i j hi hj
  unfold up
  by_cases h1 : i = J
  · by_cases h2 : j = J
    · simp only [if_pos h1, if_pos h2]
      exact ⟨fun _ => h1.trans h2.symm, fun _ => trivial⟩
    · simp only [if_pos h1, if_neg h2]
      exact ⟨fun z => absurd z.symm (hf j hj), fun z => absurd (z ▸ h1) h2⟩
  · by_cases h2 : j = J
    · simp only [if_neg h1, if_pos h2]
      exact ⟨fun z => absurd z (hf i hi), fun z => absurd (z.trans h2) h1⟩
    · simp only [if_neg h1, if_neg h2]
      exact hA i j hi hj
theorem nt_up {A : Nat → Nat} {J a x : Nat} (hf : nt A x) (h : ¬ a = x) : nt (up A J a) x := by
  intro j hj
  unfold up
  by_cases h1 : j = J
  · rw [if_pos h1]; exact h
  · rw [if_neg h1]; exact hf j hj
theorem Tx_of {A : Nat → Nat} {h m : MH} (tx : Tx A h) (hz : g_z m = g_z h) (ht : g_t h ≤ g_t m) (hc : ∀ a, a < g_t h → g_c m a = g_c h a ∧ g_n m a = g_n h a) (hr : g_r m (A 20) 0 = g_r h (A 20) 0) (h1 : g_i m (A 20) 1 = g_i h (A 20) 1) (h3 : g_i m (A 20) 3 = g_i h (A 20) 3) : Tx A m := by
  obtain ⟨v, a1, a2, a3, a4, a5, a6, a7, a8, a9⟩ := tx
  obtain ⟨g1, g2⟩ := hc v a4
  refine ⟨v, ?_⟩
  simp only [hr, g1, g2, hz, h1, h3]
  exact ⟨a1, a2, a3, Nat.lt_of_lt_of_le a4 ht, a5, a6, a7, a8, a9⟩
theorem Vq0_pia {A : Nat → Nat} {m : MH} {a k : Nat} {v : Int32} (hf : nt A a) : Vq0 A (p_i m a k v) = Vq0 A m := by
  have e : ∀ i, i < 40 → (A i = a) = False := fun i hi => eq_false (hf i hi)
  simp only [Vq0, cT, mT, mi_pi, e, Nat.reduceLT, false_and, if_false]
theorem Vq0_pN {A : Nat → Nat} {m : MH} {tag n : Nat} (hf : nt A (g_t m)) : Vq0 A (p_N m tag n) = Vq0 A m := by
  have e : ∀ i, i < 40 → (A i = g_t m) = False := fun i hi => eq_false (hf i hi)
  simp only [Vq0, cT, mT, mi_pN, e, Nat.reduceLT, if_false]
theorem Vq0_up15 {A : Nat → Nat} {m : MH} {a : Nat} : Vq0 (up A 15 a) m = Vq0 A m := id rfl
theorem Vq0_up16 {A : Nat → Nat} {m : MH} {a : Nat} : Vq0 (up A 16 a) m = Vq0 A m := id rfl
theorem Vq0_up37 {A : Nat → Nat} {m : MH} {a : Nat} : Vq0 (up A 37 a) m = Vq0 A m := id rfl
theorem Vq0_up38 {A : Nat → Nat} {m : MH} {a : Nat} : Vq0 (up A 38 a) m = Vq0 A m := id rfl
theorem Vq0_up32 {A : Nat → Nat} {m : MH} {a : Nat} : Vq0 (up A 32 a) m = Vq0 A m := id rfl
theorem Vq0_up33 {A : Nat → Nat} {m : MH} {a : Nat} : Vq0 (up A 33 a) m = Vq0 A m := id rfl
theorem Vq0_up35 {A : Nat → Nat} {m : MH} {a : Nat} : Vq0 (up A 35 a) m = Vq0 A m := id rfl
theorem Vq0_up36 {A : Nat → Nat} {m : MH} {a : Nat} : Vq0 (up A 36 a) m = Vq0 A m := id rfl
theorem Vq1_pia {A : Nat → Nat} {m : MH} {a k : Nat} {v : Int32} (hf : nt A a) : Vq1 A (p_i m a k v) = Vq1 A m := by
  have e : ∀ i, i < 40 → (A i = a) = False := fun i hi => eq_false (hf i hi)
  simp only [Vq1, cT, mT, mi_pi, e, Nat.reduceLT, false_and, if_false]
theorem Vq1_pN {A : Nat → Nat} {m : MH} {tag n : Nat} (hf : nt A (g_t m)) : Vq1 A (p_N m tag n) = Vq1 A m := by
  have e : ∀ i, i < 40 → (A i = g_t m) = False := fun i hi => eq_false (hf i hi)
  simp only [Vq1, cT, mT, mi_pN, e, Nat.reduceLT, if_false]
theorem Vq1_up15 {A : Nat → Nat} {m : MH} {a : Nat} : Vq1 (up A 15 a) m = Vq1 A m := id rfl
theorem Vq1_up16 {A : Nat → Nat} {m : MH} {a : Nat} : Vq1 (up A 16 a) m = Vq1 A m := id rfl
theorem Vq1_up37 {A : Nat → Nat} {m : MH} {a : Nat} : Vq1 (up A 37 a) m = Vq1 A m := id rfl
theorem Vq1_up38 {A : Nat → Nat} {m : MH} {a : Nat} : Vq1 (up A 38 a) m = Vq1 A m := id rfl
theorem Vq1_up31 {A : Nat → Nat} {m : MH} {a : Nat} : Vq1 (up A 31 a) m = Vq1 A m := id rfl
theorem Vq1_up33 {A : Nat → Nat} {m : MH} {a : Nat} : Vq1 (up A 33 a) m = Vq1 A m := id rfl
theorem Vq1_up34 {A : Nat → Nat} {m : MH} {a : Nat} : Vq1 (up A 34 a) m = Vq1 A m := id rfl
theorem Vq1_up36 {A : Nat → Nat} {m : MH} {a : Nat} : Vq1 (up A 36 a) m = Vq1 A m := id rfl
theorem Vq2_pia {A : Nat → Nat} {m : MH} {a k : Nat} {v : Int32} (hf : nt A a) : Vq2 A (p_i m a k v) = Vq2 A m := by
  have e : ∀ i, i < 40 → (A i = a) = False := fun i hi => eq_false (hf i hi)
  simp only [Vq2, cT, mT, mi_pi, e, Nat.reduceLT, false_and, if_false]
theorem Vq2_pN {A : Nat → Nat} {m : MH} {tag n : Nat} (hf : nt A (g_t m)) : Vq2 A (p_N m tag n) = Vq2 A m := by
  have e : ∀ i, i < 40 → (A i = g_t m) = False := fun i hi => eq_false (hf i hi)
  simp only [Vq2, cT, mT, mi_pN, e, Nat.reduceLT, if_false]
theorem Vq2_up15 {A : Nat → Nat} {m : MH} {a : Nat} : Vq2 (up A 15 a) m = Vq2 A m := id rfl
theorem Vq2_up16 {A : Nat → Nat} {m : MH} {a : Nat} : Vq2 (up A 16 a) m = Vq2 A m := id rfl
theorem Vq2_up37 {A : Nat → Nat} {m : MH} {a : Nat} : Vq2 (up A 37 a) m = Vq2 A m := id rfl
theorem Vq2_up38 {A : Nat → Nat} {m : MH} {a : Nat} : Vq2 (up A 38 a) m = Vq2 A m := id rfl
theorem Vq2_up31 {A : Nat → Nat} {m : MH} {a : Nat} : Vq2 (up A 31 a) m = Vq2 A m := id rfl
theorem Vq2_up32 {A : Nat → Nat} {m : MH} {a : Nat} : Vq2 (up A 32 a) m = Vq2 A m := id rfl
theorem Vq2_up34 {A : Nat → Nat} {m : MH} {a : Nat} : Vq2 (up A 34 a) m = Vq2 A m := id rfl
theorem Vq2_up35 {A : Nat → Nat} {m : MH} {a : Nat} : Vq2 (up A 35 a) m = Vq2 A m := id rfl
theorem Vp_pia {A : Nat → Nat} {m : MH} {a k : Nat} {v : Int32} (hf : nt A a) : Vp A (p_i m a k v) = Vp A m := by
  have e : ∀ i, i < 40 → (A i = a) = False := fun i hi => eq_false (hf i hi)
  simp only [Vp, mi_pi, e, Nat.reduceLT, false_and, if_false]
theorem Vp_pN {A : Nat → Nat} {m : MH} {tag n : Nat} (hf : nt A (g_t m)) : Vp A (p_N m tag n) = Vp A m := by
  have e : ∀ i, i < 40 → (A i = g_t m) = False := fun i hi => eq_false (hf i hi)
  simp only [Vp, mi_pN, e, Nat.reduceLT, if_false]
theorem Vp_up15 {A : Nat → Nat} {m : MH} {a : Nat} : Vp (up A 15 a) m = Vp A m := id rfl
theorem Vp_up16 {A : Nat → Nat} {m : MH} {a : Nat} : Vp (up A 16 a) m = Vp A m := id rfl
theorem Vp_up37 {A : Nat → Nat} {m : MH} {a : Nat} : Vp (up A 37 a) m = Vp A m := id rfl
theorem Vp_up38 {A : Nat → Nat} {m : MH} {a : Nat} : Vp (up A 38 a) m = Vp A m := id rfl
theorem Vp_up31 {A : Nat → Nat} {m : MH} {a : Nat} : Vp (up A 31 a) m = Vp A m := id rfl
theorem Vp_up32 {A : Nat → Nat} {m : MH} {a : Nat} : Vp (up A 32 a) m = Vp A m := id rfl
theorem Vp_up33 {A : Nat → Nat} {m : MH} {a : Nat} : Vp (up A 33 a) m = Vp A m := id rfl
theorem Vp_up34 {A : Nat → Nat} {m : MH} {a : Nat} : Vp (up A 34 a) m = Vp A m := id rfl
theorem Vp_up35 {A : Nat → Nat} {m : MH} {a : Nat} : Vp (up A 35 a) m = Vp A m := id rfl
theorem Vp_up36 {A : Nat → Nat} {m : MH} {a : Nat} : Vp (up A 36 a) m = Vp A m := id rfl
theorem Vl0_pia {A : Nat → Nat} {m : MH} {a k : Nat} {v : Int32} (hf : nt A a) : Vl0 A (p_i m a k v) = Vl0 A m := by
  have e : ∀ i, i < 40 → (A i = a) = False := fun i hi => eq_false (hf i hi)
  simp only [Vl0, mi_pi, e, Nat.reduceLT, false_and, if_false]
theorem Vl0_pN {A : Nat → Nat} {m : MH} {tag n : Nat} (hf : nt A (g_t m)) : Vl0 A (p_N m tag n) = Vl0 A m := by
  have e : ∀ i, i < 40 → (A i = g_t m) = False := fun i hi => eq_false (hf i hi)
  simp only [Vl0, mi_pN, e, Nat.reduceLT, if_false]
theorem Vl0_up16 {A : Nat → Nat} {m : MH} {a : Nat} : Vl0 (up A 16 a) m = Vl0 A m := id rfl
theorem Vl0_up38 {A : Nat → Nat} {m : MH} {a : Nat} : Vl0 (up A 38 a) m = Vl0 A m := id rfl
theorem Vl0_up31 {A : Nat → Nat} {m : MH} {a : Nat} : Vl0 (up A 31 a) m = Vl0 A m := id rfl
theorem Vl0_up32 {A : Nat → Nat} {m : MH} {a : Nat} : Vl0 (up A 32 a) m = Vl0 A m := id rfl
theorem Vl0_up33 {A : Nat → Nat} {m : MH} {a : Nat} : Vl0 (up A 33 a) m = Vl0 A m := id rfl
theorem Vl0_up34 {A : Nat → Nat} {m : MH} {a : Nat} : Vl0 (up A 34 a) m = Vl0 A m := id rfl
theorem Vl0_up35 {A : Nat → Nat} {m : MH} {a : Nat} : Vl0 (up A 35 a) m = Vl0 A m := id rfl
theorem Vl0_up36 {A : Nat → Nat} {m : MH} {a : Nat} : Vl0 (up A 36 a) m = Vl0 A m := id rfl
theorem Vl1_pia {A : Nat → Nat} {m : MH} {a k : Nat} {v : Int32} (hf : nt A a) : Vl1 A (p_i m a k v) = Vl1 A m := by
  have e : ∀ i, i < 40 → (A i = a) = False := fun i hi => eq_false (hf i hi)
  simp only [Vl1, mi_pi, e, Nat.reduceLT, false_and, if_false]
theorem Vl1_pN {A : Nat → Nat} {m : MH} {tag n : Nat} (hf : nt A (g_t m)) : Vl1 A (p_N m tag n) = Vl1 A m := by
  have e : ∀ i, i < 40 → (A i = g_t m) = False := fun i hi => eq_false (hf i hi)
  simp only [Vl1, mi_pN, e, Nat.reduceLT, if_false]
theorem Vl1_up15 {A : Nat → Nat} {m : MH} {a : Nat} : Vl1 (up A 15 a) m = Vl1 A m := id rfl
theorem Vl1_up37 {A : Nat → Nat} {m : MH} {a : Nat} : Vl1 (up A 37 a) m = Vl1 A m := id rfl
theorem Vl1_up31 {A : Nat → Nat} {m : MH} {a : Nat} : Vl1 (up A 31 a) m = Vl1 A m := id rfl
theorem Vl1_up32 {A : Nat → Nat} {m : MH} {a : Nat} : Vl1 (up A 32 a) m = Vl1 A m := id rfl
theorem Vl1_up33 {A : Nat → Nat} {m : MH} {a : Nat} : Vl1 (up A 33 a) m = Vl1 A m := id rfl
theorem Vl1_up34 {A : Nat → Nat} {m : MH} {a : Nat} : Vl1 (up A 34 a) m = Vl1 A m := id rfl
theorem Vl1_up35 {A : Nat → Nat} {m : MH} {a : Nat} : Vl1 (up A 35 a) m = Vl1 A m := id rfl
theorem Vl1_up36 {A : Nat → Nat} {m : MH} {a : Nat} : Vl1 (up A 36 a) m = Vl1 A m := id rfl
theorem Vlr_pia {A : Nat → Nat} {m : MH} {a k : Nat} {v : Int32} (hf : nt A a) : Vlr A (p_i m a k v) = Vlr A m := by
  have e : ∀ i, i < 40 → (A i = a) = False := fun i hi => eq_false (hf i hi)
  simp only [Vlr, ml_pi]
theorem Vlr_pN {A : Nat → Nat} {m : MH} {tag n : Nat} (hf : nt A (g_t m)) : Vlr A (p_N m tag n) = Vlr A m := by
  have e : ∀ i, i < 40 → (A i = g_t m) = False := fun i hi => eq_false (hf i hi)
  simp only [Vlr, ml_pN, e, Nat.reduceLT, if_false]
theorem Vlr_up15 {A : Nat → Nat} {m : MH} {a : Nat} : Vlr (up A 15 a) m = Vlr A m := id rfl
theorem Vlr_up16 {A : Nat → Nat} {m : MH} {a : Nat} : Vlr (up A 16 a) m = Vlr A m := id rfl
theorem Vlr_up37 {A : Nat → Nat} {m : MH} {a : Nat} : Vlr (up A 37 a) m = Vlr A m := id rfl
theorem Vlr_up38 {A : Nat → Nat} {m : MH} {a : Nat} : Vlr (up A 38 a) m = Vlr A m := id rfl
theorem Vlr_up31 {A : Nat → Nat} {m : MH} {a : Nat} : Vlr (up A 31 a) m = Vlr A m := id rfl
theorem Vlr_up32 {A : Nat → Nat} {m : MH} {a : Nat} : Vlr (up A 32 a) m = Vlr A m := id rfl
theorem Vlr_up33 {A : Nat → Nat} {m : MH} {a : Nat} : Vlr (up A 33 a) m = Vlr A m := id rfl
theorem Vlr_up34 {A : Nat → Nat} {m : MH} {a : Nat} : Vlr (up A 34 a) m = Vlr A m := id rfl
theorem Vlr_up35 {A : Nat → Nat} {m : MH} {a : Nat} : Vlr (up A 35 a) m = Vlr A m := id rfl
theorem Vlr_up36 {A : Nat → Nat} {m : MH} {a : Nat} : Vlr (up A 36 a) m = Vlr A m := id rfl
theorem Vsr_pia {A : Nat → Nat} {m : MH} {a k : Nat} {v : Int32} (hf : nt A a) : Vsr A (p_i m a k v) = Vsr A m := by
  have e : ∀ i, i < 40 → (A i = a) = False := fun i hi => eq_false (hf i hi)
  simp only [Vsr, mi_pi, ml_pi, e, Nat.reduceLT, false_and, if_false]
theorem Vsr_pN {A : Nat → Nat} {m : MH} {tag n : Nat} (hf : nt A (g_t m)) : Vsr A (p_N m tag n) = Vsr A m := by
  have e : ∀ i, i < 40 → (A i = g_t m) = False := fun i hi => eq_false (hf i hi)
  simp only [Vsr, mi_pN, ml_pN, e, Nat.reduceLT, if_false]
theorem Vsr_up15 {A : Nat → Nat} {m : MH} {a : Nat} : Vsr (up A 15 a) m = Vsr A m := id rfl
theorem Vsr_up16 {A : Nat → Nat} {m : MH} {a : Nat} : Vsr (up A 16 a) m = Vsr A m := id rfl
theorem Vsr_up37 {A : Nat → Nat} {m : MH} {a : Nat} : Vsr (up A 37 a) m = Vsr A m := id rfl
theorem Vsr_up38 {A : Nat → Nat} {m : MH} {a : Nat} : Vsr (up A 38 a) m = Vsr A m := id rfl
theorem Vsr_up31 {A : Nat → Nat} {m : MH} {a : Nat} : Vsr (up A 31 a) m = Vsr A m := id rfl
theorem Vsr_up32 {A : Nat → Nat} {m : MH} {a : Nat} : Vsr (up A 32 a) m = Vsr A m := id rfl
theorem Vsr_up33 {A : Nat → Nat} {m : MH} {a : Nat} : Vsr (up A 33 a) m = Vsr A m := id rfl
theorem Vsr_up34 {A : Nat → Nat} {m : MH} {a : Nat} : Vsr (up A 34 a) m = Vsr A m := id rfl
theorem Vsr_up35 {A : Nat → Nat} {m : MH} {a : Nat} : Vsr (up A 35 a) m = Vsr A m := id rfl
theorem Vsr_up36 {A : Nat → Nat} {m : MH} {a : Nat} : Vsr (up A 36 a) m = Vsr A m := id rfl
end

section
/-! LOOPS: cells come to the front -/
theorem n_lt {a b : Nat} (ha : a < 2147483648) (hb : b < 2147483648) : (Int32.ofNat a < Int32.ofNat b) = (a < b) := by
  apply propext
  rw [Int32.lt_iff_toInt_lt, Int32.toInt_ofNat_of_lt (by omega), Int32.toInt_ofNat_of_lt (by omega)]
  omega
theorem n_add (a b : Nat) : Int32.ofNat a + Int32.ofNat b = Int32.ofNat (a + b) := (Int32.ofNat_add a b).symm
theorem n_cl {a : Nat} (ha : a < 2147483648) : (Int32.ofNat a).toNatClampNeg = a := by
  show (Int32.ofNat a).toInt.toNat = a
  rw [Int32.toInt_ofNat_of_lt (by omega)]
  omega
theorem n_sub {a b : Nat} (h : b ≤ a) (ha : a < 2147483648) : Int32.ofNat a - Int32.ofNat b = Int32.ofNat (a - b) := by
  apply Int32.toInt_inj.mp
  rw [Int32.toInt_sub, Int32.toInt_ofNat_of_lt (by omega), Int32.toInt_ofNat_of_lt (by omega), Int32.toInt_ofNat_of_lt (by omega), Int.bmod_eq_of_le (by omega) (by omega)]
  omega
theorem n_rdy {n a : Nat} (h : a < n) (hn : n < 2147483648) : rdy n (Int32.ofNat a) := by
  refine ⟨?_, ?_, ?_⟩
  · rw [show (0 : Int32) = Int32.ofNat 0 from rfl, n_lt (by omega) (by omega)]; omega
  · rw [n_lt (by omega) (by omega)]; exact h
  · unfold vp_in
    rw [n_cl (by omega), show (0 : Int32) = Int32.ofNat 0 from rfl, n_lt (by omega) (by omega)]
    omega
/-- longs of a row come to the front: n cells from f + p to f -/
def mvL (h : MH) (cs f p n : Nat) : MH := (h.1, h.2.1, h.2.2.1, fun b i => if b = cs ∧ f ≤ i ∧ i < f + n then g_l h cs (i + p) else g_l h b i, h.2.2.2.2)
def mvI (h : MH) (cs f p n : Nat) : MH := (h.1, h.2.1, fun b i => if b = cs ∧ f ≤ i ∧ i < f + n then g_i h cs (i + p) else g_i h b i, h.2.2.2)
theorem mvL_l {h : MH} {cs f p n b i : Nat} : g_l (mvL h cs f p n) b i = if b = cs ∧ f ≤ i ∧ i < f + n then g_l h cs (i + p) else g_l h b i := id rfl
theorem mvI_i {h : MH} {cs f p n b i : Nat} : g_i (mvI h cs f p n) b i = if b = cs ∧ f ≤ i ∧ i < f + n then g_i h cs (i + p) else g_i h b i := id rfl
section
variable {h : MH} {cs f p n b j : Nat}
theorem mvL_c : g_c (mvL h cs f p n) b = g_c h b := id rfl
theorem mvL_n : g_n (mvL h cs f p n) b = g_n h b := id rfl
theorem mvL_r : g_r (mvL h cs f p n) b j = g_r h b j := id rfl
theorem mvL_i : g_i (mvL h cs f p n) b j = g_i h b j := id rfl
theorem mvL_z : g_z (mvL h cs f p n) = g_z h := id rfl
theorem mvL_t : g_t (mvL h cs f p n) = g_t h := id rfl
theorem mvI_c : g_c (mvI h cs f p n) b = g_c h b := id rfl
theorem mvI_n : g_n (mvI h cs f p n) b = g_n h b := id rfl
theorem mvI_r : g_r (mvI h cs f p n) b j = g_r h b j := id rfl
theorem mvI_l : g_l (mvI h cs f p n) b j = g_l h b j := id rfl
theorem mvI_z : g_z (mvI h cs f p n) = g_z h := id rfl
theorem mvI_t : g_t (mvI h cs f p n) = g_t h := id rfl
end
theorem ml_ext {m n : MH} (e1 : ∀ b j, g_l m b j = g_l n b j) (e2 : (m.1, m.2.1, m.2.2.1, m.2.2.2.2) = (n.1, n.2.1, n.2.2.1, n.2.2.2.2)) : m = n := by
  obtain ⟨a1, a2, a3, a4, a5⟩ := m
  obtain ⟨b1, b2, b3, b4, b5⟩ := n
  simp only [Prod.mk.injEq] at e2
  obtain ⟨rfl, rfl, rfl, rfl⟩ := e2
  have : a4 = b4 := funext fun b => funext fun j => e1 b j
  rw [this]
theorem mvL_0 {h : MH} {cs f p : Nat} : mvL h cs f p 0 = h := by
  refine ml_ext (fun b j => ?_) rfl
  rw [mvL_l, if_neg (by omega)]
theorem mvI_0 {h : MH} {cs f p : Nat} : mvI h cs f p 0 = h := by
  refine mh_ext (fun b j => ?_) rfl
  rw [mvI_i, if_neg (by omega)]
theorem mvL_s {h : MH} {cs f p n : Nat} : p_l (mvL h cs f p n) cs (f + n) (g_l h cs (f + n + p)) = mvL h cs f p (n + 1) := by
  refine ml_ext (fun b j => ?_) rfl
  rw [ml_pl, mvL_l, mvL_l]
  by_cases hb : b = cs
  · subst hb
    by_cases hj : j = f + n
    · subst hj
      rw [if_pos ⟨rfl, rfl⟩, if_pos ⟨rfl, by omega, by omega⟩]
    · rw [if_neg (fun z => hj z.2)]
      by_cases hr : f ≤ j ∧ j < f + n
      · rw [if_pos ⟨rfl, hr.1, hr.2⟩, if_pos ⟨rfl, hr.1, by omega⟩]
      · rw [if_neg (fun z => hr z.2), if_neg (fun z => hr ⟨z.2.1, by omega⟩)]
  · rw [if_neg (fun z => hb z.1), if_neg (fun z => hb z.1), if_neg (fun z => hb z.1)]
theorem mvI_s {h : MH} {cs f p n : Nat} : p_i (mvI h cs f p n) cs (f + n) (g_i h cs (f + n + p)) = mvI h cs f p (n + 1) := by
  refine mh_ext (fun b j => ?_) rfl
  rw [mi_pi, mvI_i, mvI_i]
  by_cases hb : b = cs
  · subst hb
    by_cases hj : j = f + n
    · subst hj
      rw [if_pos ⟨rfl, rfl⟩, if_pos ⟨rfl, by omega, by omega⟩]
    · rw [if_neg (fun z => hj z.2)]
      by_cases hr : f ≤ j ∧ j < f + n
      · rw [if_pos ⟨rfl, hr.1, hr.2⟩, if_pos ⟨rfl, hr.1, by omega⟩]
      · rw [if_neg (fun z => hr z.2), if_neg (fun z => hr ⟨z.2.1, by omega⟩)]
  · rw [if_neg (fun z => hb z.1), if_neg (fun z => hb z.1), if_neg (fun z => hb z.1)]
theorem mvL_far {h : MH} {cs f p n j : Nat} (hj : n ≤ j) : g_l (mvL h cs f p n) cs (f + (p + j)) = g_l h cs (f + j + p) := by
  rw [mvL_l, if_neg (by omega)]
  congr 1
  omega
theorem mvI_far {h : MH} {cs f p n j : Nat} (hj : n ≤ j) : g_i (mvI h cs f p n) cs (f + p + j) = g_i h cs (f + j + p) := by
  rw [mvI_i, if_neg (by omega)]
  congr 1
  omega
theorem cmp_step {w rw cs R F N P L : Nat} {j n : Nat} {h : MH} {Q : MR → MH → Prop} (w1 : g_c h w = 4) (w2 : g_z h ≤ w) (w3 : g_r h w 0 = some rw) (r1 : g_c h rw = 3) (r2 : g_r h rw 0 = some cs) (r3 : g_c h cs = 102) (r4 : g_n h cs = R) (r5 : g_z h ≤ cs) (s0 : g_i h w 3 = 0) (a1 : g_i h w 1 = Int32.ofNat F) (a2 : g_i h w 2 = Int32.ofNat N) (a4 : g_i h w 4 = Int32.ofNat P) (a5 : g_i h w 5 = Int32.ofNat L) (b1 : P ≤ L) (b2 : L ≤ N) (b3 : F + N ≤ R) (b4 : R < 1000) (hj : j < n) (hn : n = L - P) : Ok 46 15 [.ref w, .int (Int32.ofNat n), .int (Int32.ofNat j)] [] (mvL h cs F P j) 0 0 Q ↔ Ok 46 15 [.ref w, .int (Int32.ofNat n), .int (Int32.ofNat (j + 1))] [] (mvL h cs F P (j + 1)) 0 0 Q := by
  have c1 : (Int32.ofNat j < Int32.ofNat n) = True := by rw [n_lt (by omega) (by omega)]; exact eq_true hj
  have c2 : ¬ Int32.ofNat (P + j) < 0 := (n_rdy (n := R) (by omega) (by omega)).1
  have c3 : Int32.ofNat (P + j) < Int32.ofNat N := by rw [n_lt (by omega) (by omega)]; omega
  have c4 : rdy R (Int32.ofNat (F + (P + j))) := n_rdy (by omega) (by omega)
  have c5 : ¬ Int32.ofNat j < 0 := (n_rdy (n := R) (by omega) (by omega)).1
  have c6 : Int32.ofNat j < Int32.ofNat N := by rw [n_lt (by omega) (by omega)]; omega
  have c7 : rdy R (Int32.ofNat (F + j)) := n_rdy (by omega) (by omega)
  have c8 : (Int32.ofNat (F + (P + j))).toNatClampNeg = F + (P + j) := n_cl (by omega)
  have c9 : (Int32.ofNat (F + j)).toNatClampNeg = F + j := n_cl (by omega)
  have c10 : Int32.ofNat j + 1 = Int32.ofNat (j + 1) := n_add j 1
  have c11 := mvL_far (h := h) (cs := cs) (f := F) (p := P) (n := j) (j := j) (Nat.le_refl _)
  rw [o46_15]
  simp only [o46_16, o46_17, o46_20, o46_21, o46_22, o46_23, o46_24, o46_27, o46_28, o46_29, o46_32, o46_35, o46_36, o46_39, c_X3_readAt (rw := rw) (cs := cs) (n := R), c_X3_writeAt (rw := rw) (cs := cs) (n := R), mcs_0, mcs_i, mcs_r, Kn_v, true_and, not_true_eq_false, not_false_eq_true, false_implies, forall_const, Nat.reduceLeDiff, Nat.reduceAdd, Nat.zero_le, lt_le, mvL_c, mvL_n, mvL_r, mvL_i, mvL_z, w1, w3, r1, r2, r3, r4, r5, s0, a1, a2, a4, n_add, c1, c2, c3, c4, c5, c6, c7, c8, c9, c10, c11, mvL_s]

theorem cmp_loop {w rw cs R F N P L : Nat} {n : Nat} {h : MH} {Q : MR → MH → Prop} (w1 : g_c h w = 4) (w2 : g_z h ≤ w) (w3 : g_r h w 0 = some rw) (r1 : g_c h rw = 3) (r2 : g_r h rw 0 = some cs) (r3 : g_c h cs = 102) (r4 : g_n h cs = R) (r5 : g_z h ≤ cs) (s0 : g_i h w 3 = 0) (a1 : g_i h w 1 = Int32.ofNat F) (a2 : g_i h w 2 = Int32.ofNat N) (a4 : g_i h w 4 = Int32.ofNat P) (a5 : g_i h w 5 = Int32.ofNat L) (b1 : P ≤ L) (b2 : L ≤ N) (b3 : F + N ≤ R) (b4 : R < 1000) (hn : n = L - P) : ∀ d j : Nat, j + d = n → (Ok 46 15 [.ref w, .int (Int32.ofNat n), .int (Int32.ofNat j)] [] (mvL h cs F P j) 0 0 Q ↔ Ok 46 15 [.ref w, .int (Int32.ofNat n), .int (Int32.ofNat n)] [] (mvL h cs F P n) 0 0 Q)
  | 0, j, hd => by
    have : j = n := by omega
    subst this
    exact Iff.rfl
  | d + 1, j, hd => (cmp_step (n := n) (j := j) w1 w2 w3 r1 r2 r3 r4 r5 s0 a1 a2 a4 a5 b1 b2 b3 b4 (by omega) hn).trans (cmp_loop w1 w2 w3 r1 r2 r3 r4 r5 s0 a1 a2 a4 a5 b1 b2 b3 b4 hn d (j + 1) (by omega))

theorem c_X3_compact {w rw cs R F N P L : Nat} {h : MH} {Q : MR → MH → Prop} (w1 : g_c h w = 4) (w2 : g_z h ≤ w) (w3 : g_r h w 0 = some rw) (r1 : g_c h rw = 3) (r2 : g_r h rw 0 = some cs) (r3 : g_c h cs = 102) (r4 : g_n h cs = R) (r5 : g_z h ≤ cs) (s0 : g_i h w 3 = 0) (a1 : g_i h w 1 = Int32.ofNat F) (a2 : g_i h w 2 = Int32.ofNat N) (a4 : g_i h w 4 = Int32.ofNat P) (a5 : g_i h w 5 = Int32.ofNat L) (b1 : P ≤ L) (b2 : L ≤ N) (b3 : F + N ≤ R) (b4 : R < 1000) : Ok 46 0 [.ref w, mk0, mk0] [] h 0 0 Q ↔ Q (.inl none) (p_i (p_i (p_i (p_i (mvL h cs F P (L - P)) w 4 0) w 5 (Int32.ofNat N)) w 6 (-1)) w 4 (Int32.ofNat (L - P))) := by
  have c0 : Int32.ofNat L - Int32.ofNat P = Int32.ofNat (L - P) := n_sub b1 (by omega)
  have c1 : (Int32.ofNat (L - P) < Int32.ofNat (L - P)) = False := by rw [n_lt (by omega) (by omega)]; exact eq_false (Nat.lt_irrefl _)
  simp only [o46_0, o46_1, o46_4, o46_7, o46_8, o46_9, o46_12, o46_13, o46_14, c_X3_rests, mcs_0, Kn_v, true_and, and_true, not_true_eq_false, false_implies, forall_const, Nat.zero_le, w1, s0, a4, a5, c0]
  have lp := cmp_loop (n := L - P) (Q := Q) w1 w2 w3 r1 r2 r3 r4 r5 s0 a1 a2 a4 a5 b1 b2 b3 b4 rfl (L - P) 0 (by omega)
  rw [mvL_0] at lp
  rw [show (0 : Int32) = Int32.ofNat 0 from rfl, lp, o46_15]
  simp only [o46_16, o46_17, o46_20, o46_21, o46_22, o46_23, o46_24, o46_27, o46_28, o46_29, o46_42, o46_43, o46_46, o46_47, o46_48, o46_51, o46_42, o46_43, o46_46, o46_47, o46_48, o46_51, c_X3_clear, mc_pi, mz_pi, mcs_0, mcs_i, mcs_r, Kn_0, kok_0, true_and, and_true, not_true_eq_false, not_false_eq_true, false_implies, forall_const, and_self, Nat.reduceLeDiff, Nat.reduceAdd, Nat.zero_le, lt_le, mvL_c, mvL_i, mvL_z, w1, w2, a2, a4, c1]
  all_goals (try exact Iff.rfl)
end

section
/-! turn, lensTurn -/
theorem mvI_w {h : MH} {cs f p n w k : Nat} (hw : ¬ w = cs) : g_i (mvI h cs f p n) w k = g_i h w k := by rw [mvI_i, if_neg (fun z => hw z.1)]
theorem mcm_step {m sr w F P L : Nat} {j n : Nat} {h : MH} {Q : MR → MH → Prop} (m1 : g_c h m = 9) (g1 : g_r h m 1 = some sr) (g2 : g_c h sr = 101) (g3 : g_n h sr = 36) (g4 : g_z h ≤ sr) (w1 : g_c h w = 8) (w2 : g_z h ≤ w) (nw : ¬ w = sr) (a1 : g_i h w 0 = Int32.ofNat F) (a4 : g_i h w 3 = Int32.ofNat P) (a5 : g_i h w 4 = Int32.ofNat L) (b1 : P ≤ L) (b3 : F + L ≤ 36) (hj : j < n) (hn : n = L - P) : Ok 212 7 [.ref m, .ref w, .int (Int32.ofNat n), .int (Int32.ofNat j)] [] (mvI h sr F P j) 0 0 Q ↔ Ok 212 7 [.ref m, .ref w, .int (Int32.ofNat n), .int (Int32.ofNat (j + 1))] [] (mvI h sr F P (j + 1)) 0 0 Q := by
  have c1 : (Int32.ofNat j < Int32.ofNat n) = True := by rw [n_lt (by omega) (by omega)]; exact eq_true hj
  have c4 : vp_in (Int32.ofNat (F + P + j)) 36 := (n_rdy (n := 36) (by omega) (by omega)).2.2
  have c7 : vp_in (Int32.ofNat (F + j)) 36 := (n_rdy (n := 36) (by omega) (by omega)).2.2
  have c8 : (Int32.ofNat (F + P + j)).toNatClampNeg = F + P + j := n_cl (by omega)
  have c9 : (Int32.ofNat (F + j)).toNatClampNeg = F + j := n_cl (by omega)
  have c10 : Int32.ofNat j + 1 = Int32.ofNat (j + 1) := n_add j 1
  have c11 := mvI_far (h := h) (cs := sr) (f := F) (p := P) (n := j) (j := j) (Nat.le_refl _)
  rw [o212_7]
  simp only [o212_8, o212_9, o212_12, o212_13, o212_16, o212_17, o212_20, o212_21, o212_22, o212_23, o212_26, o212_27, o212_30, o212_31, o212_34, o212_35, o212_36, o212_37, o212_38, o212_39, o212_42, mrf_some, true_and, not_true_eq_false, not_false_eq_true, false_implies, forall_const, and_self, lt_le, mvI_c, mvI_n, mvI_r, mvI_z, mvI_w nw, m1, g1, g2, g3, g4, w1, a1, a4, n_add, c1, c4, c7, c8, c9, c10, c11, mvI_s]

theorem mcm_loop {m sr w F P L : Nat} {n : Nat} {h : MH} {Q : MR → MH → Prop} (m1 : g_c h m = 9) (g1 : g_r h m 1 = some sr) (g2 : g_c h sr = 101) (g3 : g_n h sr = 36) (g4 : g_z h ≤ sr) (w1 : g_c h w = 8) (w2 : g_z h ≤ w) (nw : ¬ w = sr) (a1 : g_i h w 0 = Int32.ofNat F) (a4 : g_i h w 3 = Int32.ofNat P) (a5 : g_i h w 4 = Int32.ofNat L) (b1 : P ≤ L) (b3 : F + L ≤ 36) (hn : n = L - P) : ∀ d j : Nat, j + d = n → (Ok 212 7 [.ref m, .ref w, .int (Int32.ofNat n), .int (Int32.ofNat j)] [] (mvI h sr F P j) 0 0 Q ↔ Ok 212 7 [.ref m, .ref w, .int (Int32.ofNat n), .int (Int32.ofNat n)] [] (mvI h sr F P n) 0 0 Q)
  | 0, j, hd => by
    have : j = n := by omega
    subst this
    exact Iff.rfl
  | d + 1, j, hd => (mcm_step (n := n) (j := j) m1 g1 g2 g3 g4 w1 w2 nw a1 a4 a5 b1 b3 (by omega) hn).trans (mcm_loop m1 g1 g2 g3 g4 w1 w2 nw a1 a4 a5 b1 b3 hn d (j + 1) (by omega))

theorem c_X8_compacted {m sr w F P L : Nat} {h : MH} {Q : MR → MH → Prop} (m1 : g_c h m = 9) (g1 : g_r h m 1 = some sr) (g2 : g_c h sr = 101) (g3 : g_n h sr = 36) (g4 : g_z h ≤ sr) (w1 : g_c h w = 8) (w2 : g_z h ≤ w) (nw : ¬ w = sr) (a1 : g_i h w 0 = Int32.ofNat F) (a4 : g_i h w 3 = Int32.ofNat P) (a5 : g_i h w 4 = Int32.ofNat L) (b1 : P ≤ L) (b3 : F + L ≤ 36) : Ok 212 0 [.ref m, .ref w, mk0, mk0] [] h 0 0 Q ↔ Q (.inl none) (p_i (p_i (p_i (p_i (mvI h sr F P (L - P)) w 4 (g_i h w 1)) w 3 0) w 5 (-1)) w 3 (Int32.ofNat (L - P))) := by
  have c0 : Int32.ofNat L - Int32.ofNat P = Int32.ofNat (L - P) := n_sub b1 (by omega)
  have c1 : (Int32.ofNat (L - P) < Int32.ofNat (L - P)) = False := by rw [n_lt (by omega) (by omega)]; exact eq_false (Nat.lt_irrefl _)
  simp only [o212_0, o212_1, o212_4, o212_5, o212_6, c_X7_rests, mcs_0, Kn_v, true_and, Nat.zero_le, w1, a4, a5, c0]
  have lp := mcm_loop (n := L - P) (Q := Q) m1 g1 g2 g3 g4 w1 w2 nw a1 a4 a5 b1 b3 rfl (L - P) 0 (by omega)
  rw [mvI_0] at lp
  rw [show (0 : Int32) = Int32.ofNat 0 from rfl, lp, o212_7]
  simp only [o212_8, o212_9, o212_12, o212_13, o212_16, o212_17, o212_20, o212_21, o212_22, o212_23, o212_26, o212_27, o212_30, o212_31, o212_34, o212_35, o212_36, o212_37, o212_38, o212_39, o212_42, o212_45, o212_46, o212_49, o212_50, o212_51, o212_54, c_X7_cleared, mc_pi, mz_pi, mcs_0, Kn_0, mrf_some, kok_0, true_and, and_true, not_true_eq_false, not_false_eq_true, false_implies, forall_const, and_self, Nat.zero_le, lt_le, mvI_c, mvI_n, mvI_r, mvI_z, mvI_w nw, m1, g1, g2, g3, g4, w1, w2, a1, a4, c1]
  all_goals (try exact Iff.rfl)

theorem Vq0_mvI24 {A : Nat → Nat} {m : MH} {f p n : Nat} (hA : inj40 A) : Vq0 A (mvI m (A 24) f p n) = Vq0 A m := by
  simp only [Vq0, cT, mT, mvI_i, false_and, if_false, Nat.reduceEqDiff, (hA_5_24 hA), (hA_8_24 hA), (hA_9_24 hA), (hA_27_24 hA), (hA_31_24 hA), (hA_34_24 hA)]
theorem Vq0_mvL4 {A : Nat → Nat} {m : MH} {f p n : Nat} (hA : inj40 A) : Vq0 A (mvL m (A 4) f p n) = Vq0 A m := by
  simp only [Vq0, cT, mT, mvL_i]
theorem Vq1_mvI24 {A : Nat → Nat} {m : MH} {f p n : Nat} (hA : inj40 A) : Vq1 A (mvI m (A 24) f p n) = Vq1 A m := by
  simp only [Vq1, cT, mT, mvI_i, false_and, if_false, Nat.reduceEqDiff, (hA_6_24 hA), (hA_10_24 hA), (hA_11_24 hA), (hA_27_24 hA), (hA_32_24 hA), (hA_35_24 hA)]
theorem Vq1_mvL4 {A : Nat → Nat} {m : MH} {f p n : Nat} (hA : inj40 A) : Vq1 A (mvL m (A 4) f p n) = Vq1 A m := by
  simp only [Vq1, cT, mT, mvL_i]
theorem Vq2_mvI24 {A : Nat → Nat} {m : MH} {f p n : Nat} (hA : inj40 A) : Vq2 A (mvI m (A 24) f p n) = Vq2 A m := by
  simp only [Vq2, cT, mT, mvI_i, false_and, if_false, Nat.reduceEqDiff, (hA_7_24 hA), (hA_12_24 hA), (hA_13_24 hA), (hA_27_24 hA), (hA_33_24 hA), (hA_36_24 hA)]
theorem Vq2_mvL4 {A : Nat → Nat} {m : MH} {f p n : Nat} (hA : inj40 A) : Vq2 A (mvL m (A 4) f p n) = Vq2 A m := by
  simp only [Vq2, cT, mT, mvL_i]
theorem Vp_mvI24 {A : Nat → Nat} {m : MH} {f p n : Nat} (hA : inj40 A) : Vp A (mvI m (A 24) f p n) = Vp A m := by
  simp only [Vp, mvI_i, false_and, if_false, Nat.reduceEqDiff, (hA_14_24 hA), (hA_28_24 hA), (hA_0_24 hA), (hA_22_24 hA)]
theorem Vp_mvL4 {A : Nat → Nat} {m : MH} {f p n : Nat} (hA : inj40 A) : Vp A (mvL m (A 4) f p n) = Vp A m := by
  simp only [Vp, mvL_i]
theorem Vl0_mvI24 {A : Nat → Nat} {m : MH} {f p n : Nat} (hA : inj40 A) : Vl0 A (mvI m (A 24) f p n) = Vl0 A m := by
  simp only [Vl0, mvI_i, false_and, if_false, Nat.reduceEqDiff, (hA_15_24 hA), (hA_37_24 hA)]
theorem Vl0_mvL4 {A : Nat → Nat} {m : MH} {f p n : Nat} (hA : inj40 A) : Vl0 A (mvL m (A 4) f p n) = Vl0 A m := by
  simp only [Vl0, mvL_i]
theorem Vl1_mvI24 {A : Nat → Nat} {m : MH} {f p n : Nat} (hA : inj40 A) : Vl1 A (mvI m (A 24) f p n) = Vl1 A m := by
  simp only [Vl1, mvI_i, false_and, if_false, Nat.reduceEqDiff, (hA_16_24 hA), (hA_38_24 hA)]
theorem Vl1_mvL4 {A : Nat → Nat} {m : MH} {f p n : Nat} (hA : inj40 A) : Vl1 A (mvL m (A 4) f p n) = Vl1 A m := by
  simp only [Vl1, mvL_i]
theorem Vlr_mvI24 {A : Nat → Nat} {m : MH} {f p n : Nat} (hA : inj40 A) : Vlr A (mvI m (A 24) f p n) = Vlr A m := by
  simp only [Vlr, mvI_l]
theorem Vlr_mvL4 {A : Nat → Nat} {m : MH} {f p n : Nat} (hA : inj40 A) : Vlr A (mvL m (A 4) f p n) = Vlr A m := by
  simp only [Vlr, mvL_l, false_and, if_false, Nat.reduceEqDiff, (hA_3_4 hA), (hA_23_4 hA)]
theorem Cn_mvI24 {A : Nat → Nat} {m : MH} {f p n : Nat} (hA : inj40 A) : Cn A (mvI m (A 24) f p n) = Cn A m := by
  simp only [Cn, mvI_i, false_and, if_false, Nat.reduceEqDiff, (hA_5_24 hA), (hA_6_24 hA), (hA_7_24 hA), (hA_8_24 hA), (hA_9_24 hA), (hA_10_24 hA), (hA_11_24 hA), (hA_12_24 hA), (hA_13_24 hA), (hA_14_24 hA), (hA_28_24 hA), (hA_31_24 hA), (hA_32_24 hA), (hA_33_24 hA), (hA_34_24 hA), (hA_35_24 hA), (hA_36_24 hA)]
theorem Cn_mvL4 {A : Nat → Nat} {m : MH} {f p n : Nat} (hA : inj40 A) : Cn A (mvL m (A 4) f p n) = Cn A m := by
  simp only [Cn, mvL_i]
theorem Tx_mvI24 {A : Nat → Nat} {m : MH} {f p n : Nat} (hA : inj40 A) : Tx A (mvI m (A 24) f p n) = Tx A m := by
  simp only [Tx, mvI_i, mvI_r, mvI_c, mvI_n, mvI_z, mvI_t, false_and, if_false, Nat.reduceEqDiff, (hA_20_24 hA)]
theorem Tx_mvL4 {A : Nat → Nat} {m : MH} {f p n : Nat} (hA : inj40 A) : Tx A (mvL m (A 4) f p n) = Tx A m := by
  simp only [Tx, mvL_i, mvL_r, mvL_c, mvL_n, mvL_z, mvL_t]
theorem K_mvI {A : Nat → Nat} {m : MH} {a f p n : Nat} : K A (mvI m a f p n) = K A m := id rfl
theorem K_mvL {A : Nat → Nat} {m : MH} {a f p n : Nat} : K A (mvL m a f p n) = K A m := id rfl
theorem Vsr_mv {A : Nat → Nat} {h m : MH} {F P n : Nat} (v : Vsr A h) (hb : F + n + P ≤ 36) (e1 : ∀ k, g_l m (A 4) k = if F ≤ k ∧ k < F + n then g_l h (A 4) (k + P) else g_l h (A 4) k) (e2 : ∀ k, g_i m (A 24) k = if F ≤ k ∧ k < F + n then g_i h (A 24) (k + P) else g_i h (A 24) k) : Vsr A m := by
  intro k hk
  rw [e1, e2]
  by_cases c : F ≤ k ∧ k < F + n
  · rw [if_pos c, if_pos c]
    exact v (k + P) (by omega)
  · rw [if_neg c, if_neg c]
    exact v k hk
theorem on0 : Int32.ofNat 0 = 0 ∧ Int32.ofNat 1 = 1 ∧ Int32.ofNat 6 = 6 ∧ Int32.ofNat 9 = 9 ∧ Int32.ofNat 10 = 10 := by decide
set_option maxRecDepth 100000 in
theorem pN : ∀ t ∈ PS, (t.1 = Int32.ofNat t.1.toNatClampNeg ∧ t.2.1 = Int32.ofNat t.2.1.toNatClampNeg ∧ t.1.toNatClampNeg ≤ t.2.1.toNatClampNeg ∧ t.2.1.toNatClampNeg ≤ 10 ∧ (0, t.1, -1, 1) ∈ PS ∧ (Int32.ofNat (t.2.1.toNatClampNeg - t.1.toNatClampNeg), 10, -1, 0) ∈ PS) := by
  (try unfold rdy vp_in)
  decide +kernel
end

section
theorem op_turn {A : Nat → Nat} {h : MH} (R : Rl A h) : Ok 85 0 [.ref (A 0)] [] h 0 0 (fun r h1 => ∃ k : Int32, r = .inl (some (.int k)) ∧ g_c h1 (A 22) = 9 ∧ Ok 213 0 [.ref (A 22)] [] h1 0 0 (fun r2 h2 => ∃ b : Int32, r2 = .inl (some (.int b)) ∧ Rl A h2 ∧ g_i h2 (A 22) 9 = 0 ∧ k = b)) := by
  obtain ⟨vk, vcn, v0, v1, v2, vp, vl0, vl1, vlr, vsr, vc, tx⟩ := R
  have vk0 := vk
  have vcn0 := vcn
  (refine K_el vk0 ?_; intros hA kc0 kc1 kc2 kc3 kc4 kc5 kc6 kc7 kc8 kc9 kc10 kc11 kc12 kc13 kc14 kc15 kc16 kc17 kc18 kc19 kc20 kc21 kc22 kc23 kc24 kc25 kc26 kc27 kc28 kc29 kc30 kc31 kc32 kc33 kc34 kc35 kc36 kc37 kc38 kc39 kz kt kn3 kn4 kn18 kn21 kn23 kn24 kn25 kn26 kn27 kn29 kn30 kr0_0 kr0_1 kr0_2 kr0_3 kr0_4 kr0_5 kr0_7 kr0_8 kr0_9 kr0_10 kr1_0 kr2_0 kr5_0 kr5_1 kr6_0 kr6_1 kr7_0 kr7_1 kr8_0 kr9_0 kr10_0 kr11_0 kr12_0 kr13_0 kr14_0 kr15_0 kr16_0 kr17_0 kr19_0 kr19_1 kr22_0 kr22_1 kr22_2 kr22_3 kr22_4 kr22_5 kr22_7 kr22_8 kr25_0 kr25_1 kr25_2 kr26_0 kr26_1 kr26_2 kr29_0 kr29_1)
  (refine Cn_el vcn0 ?_; intros ki5_2 ki6_2 ki7_2 ki8_1 ki8_2 ki8_3 ki9_1 ki9_2 ki9_3 ki10_1 ki10_2 ki10_3 ki11_1 ki11_2 ki11_3 ki12_1 ki12_2 ki12_3 ki13_1 ki13_2 ki13_3 ki14_1 ki14_2 ki14_3 ki28_0 ki28_1 ki31_0 ki31_1 ki32_0 ki32_1 ki33_0 ki33_1 ki34_0 ki34_1 ki35_0 ki35_1 ki36_0 ki36_1)
  have hAe : ∀ i j, i < 40 → j < 40 → (A i = A j ↔ i = j) := hA
  have hp2 := vp
  obtain ⟨⟨p1, p2, p3, p4⟩, hpm⟩ := hp2
  replace p1 := p1.symm
  replace p2 := p2.symm
  replace p3 := p3.symm
  replace p4 := p4.symm
  rw [p1, p2, p3, p4] at hpm
  obtain ⟨pm, pd⟩ := pA _ hpm
  simp only at pm pd
  obtain ⟨e4, e5, hPL, hL10, hq8, hq9⟩ := pN _ hpm
  simp only at e4 e5 hPL hL10 hq8 hq9
  rcases pd with pd | pd
  · have hq9 := hq8
    simp only [o85_0, o85_1, o85_4, o85_7, o85_8, o85_11, o85_17, o85_18, o85_21, o85_24, o85_25, o85_26, o85_29, o85_32, o85_33, o85_36, o85_37, o85_40, o85_41, o85_44, o85_45, o85_48, o85_51, o85_54, o213_0, o213_1, o213_2, o213_5, o213_6, o213_9, o213_12, o213_13, o213_14, o213_17, o213_23, o213_24, o213_27, o213_30, o213_31, o213_32, o213_35, o213_38, o213_39, o213_42, o213_43, o213_46, o213_47, o213_48, o213_51, o213_54, o213_57, c_X3_flip, c_X7_flipped, c_X3_rests, c_X7_rests, c_X0_done (cs := A 18), c_X8_done (cs := A 30), mc_pi, mn_pi, mi_pi, mr_pi, mz_pi, mcs_0, mcs_r, Kn_v, Kn_0, mrf_some, kok_0, true_and, and_true, and_false, not_true_eq_false, false_implies, forall_const, if_true, if_false, and_self, Nat.reduceEqDiff, Nat.reduceLeDiff, Nat.reduceAdd, Nat.zero_le, kz0, kz1, Sum.inl.injEq, Option.some.injEq, Value.int.injEq, exists_eq_left', Nat.reduceLT, hAe, kc0, kc14, kc17, kc18, kc22, kc28, kc30, kn18, kn30, kr0_5, kr0_9, kr17_0, kr22_5, kr22_8, kz, p1, p2, p4, pco, pd, kz1, kz0]
    first | refine ⟨⟨?_, ?_, ?_, ?_, ?_, ?_, ?_, ?_, ?_, ?_, ?_, ?_⟩, rfl⟩ | refine ⟨?_, ?_, ?_, ?_, ?_, ?_, ?_, ?_, ?_, ?_, ?_, ?_⟩
    · (try simp only [K_pi])
      exact vk
    · (try simp only [Cn_pi_j18 hA, Cn_pi_j22 hA, Cn_pi_j30 hA, Cn_pi_j0 hA, Cn_14_4 hA, Cn_14_5 hA, Cn_14_6 hA, Cn_28_3 hA, Cn_28_4 hA, Cn_28_5 hA])
      exact vcn
    · (try simp only [Vq0_pi_j18 hA, Vq0_pi_j22 hA, Vq0_pi_j30 hA, Vq0_pi_j14 hA, Vq0_pi_j28 hA, Vq0_pi_j0 hA])
      exact v0
    · (try simp only [Vq1_pi_j18 hA, Vq1_pi_j22 hA, Vq1_pi_j30 hA, Vq1_pi_j14 hA, Vq1_pi_j28 hA, Vq1_pi_j0 hA])
      exact v1
    · (try simp only [Vq2_pi_j18 hA, Vq2_pi_j22 hA, Vq2_pi_j30 hA, Vq2_pi_j14 hA, Vq2_pi_j28 hA, Vq2_pi_j0 hA])
      exact v2
    · simp only [Vp, mi_pi, hAe, Nat.reduceLT, Nat.reduceEqDiff, and_false, true_and, and_true, if_false, if_true, p1, p2, p3, p4, true_and, and_self]
      first | exact hq9 | exact ⟨⟨rfl, rfl, rfl, rfl⟩, hq9⟩ | (refine ⟨⟨?_, ?_, ?_, ?_⟩, hq9⟩ <;> first | rfl | trivial)
    · (try simp only [Vl0_pi_j18 hA, Vl0_pi_j22 hA, Vl0_pi_j30 hA, Vl0_pi_j14 hA, Vl0_pi_j28 hA, Vl0_pi_j0 hA])
      exact vl0
    · (try simp only [Vl1_pi_j18 hA, Vl1_pi_j22 hA, Vl1_pi_j30 hA, Vl1_pi_j14 hA, Vl1_pi_j28 hA, Vl1_pi_j0 hA])
      exact vl1
    · (try simp only [Vlr_pi_j18 hA, Vlr_pi_j22 hA, Vlr_pi_j30 hA, Vlr_pi_j14 hA, Vlr_pi_j28 hA, Vlr_pi_j0 hA])
      exact vlr
    · (try simp only [Vsr_pi_j18 hA, Vsr_pi_j22 hA, Vsr_pi_j30 hA, Vsr_pi_j14 hA, Vsr_pi_j28 hA, Vsr_pi_j0 hA])
      exact vsr
    · refine Vc_of (c := 0) vc (by decide) (fun k => ?_) (fun k => ?_) <;> simp only [mi_pi, hAe, Nat.reduceLT, Nat.reduceEqDiff, false_and, true_and, if_false, pco]
    · (try simp only [Tx_pi_j18 hA, Tx_pi_j22 hA, Tx_pi_j30 hA, Tx_pi_j14 hA, Tx_pi_j28 hA, Tx_pi_j0 hA])
      exact tx
  · generalize hP : (g_i h (A 14) 4).toNatClampNeg = P at *
    generalize hL : (g_i h (A 14) 5).toNatClampNeg = L at *
    have c0 : (36 : Nat) < 1000 := by decide
    have c1 : 1 + L ≤ 36 := by omega
    have c2 : ¬ A 28 = A 24 := fun z => absurd ((hAe 28 24 (by decide) (by decide)).mp z) (by decide)
    simp only [o85_0, o85_1, o85_4, o85_7, o85_8, o85_11, o85_14, o85_17, o85_18, o85_21, o85_24, o85_25, o85_26, o85_29, o85_32, o85_33, o85_36, o85_37, o85_40, o85_41, o85_44, o85_45, o85_48, o85_51, o85_54, o213_0, o213_1, o213_2, o213_5, o213_6, o213_9, o213_12, o213_13, o213_14, o213_17, o213_20, o213_23, o213_24, o213_27, o213_30, o213_31, o213_32, o213_35, o213_38, o213_39, o213_42, o213_43, o213_46, o213_47, o213_48, o213_51, o213_54, o213_57, c_X3_compact (rw := A 2) (cs := A 4) (R := 36) (F := 1) (N := 10) (P := P) (L := L), c_X8_compacted (sr := A 24) (F := 1) (P := P) (L := L), c_X3_rests, c_X7_rests, c_X0_done (cs := A 18), c_X8_done (cs := A 30), mc_pi, mn_pi, mi_pi, mr_pi, mz_pi, mcs_0, mcs_r, Kn_v, Kn_0, mrf_some, kok_0, true_and, and_true, false_and, and_false, not_false_eq_true, false_implies, forall_const, if_true, if_false, and_self, Nat.reduceEqDiff, Nat.reduceLeDiff, Nat.reduceAdd, Nat.zero_le, i10, kz0, kz1, Sum.inl.injEq, Option.some.injEq, Value.int.injEq, exists_eq_left', Nat.reduceLT, hAe, kc0, kc2, kc4, kc14, kc17, kc18, kc22, kc24, kc28, kc30, kn4, kn18, kn24, kn30, kr0_5, kr0_9, kr2_0, kr14_0, kr17_0, kr22_1, kr22_5, kr22_8, kz, ki14_1, ki14_2, ki14_3, ki28_0, ki28_1, p1, p2, p4, pco, pd, kz1, kz0, e4, e5, hPL, hL10, c0, c1, on0, mvL_c, mvL_n, mvL_r, mvL_i, mvL_z, mvI_c, mvI_n, mvI_r, mvI_i, mvI_z]
    first | refine ⟨⟨?_, ?_, ?_, ?_, ?_, ?_, ?_, ?_, ?_, ?_, ?_, ?_⟩, rfl⟩ | refine ⟨?_, ?_, ?_, ?_, ?_, ?_, ?_, ?_, ?_, ?_, ?_, ?_⟩
    · (try simp only [K_pi, K_mvI, K_mvL])
      exact vk
    · (try simp only [Cn_pi_j18 hA, Cn_pi_j22 hA, Cn_pi_j30 hA, Cn_pi_j0 hA, Cn_14_4 hA, Cn_14_5 hA, Cn_14_6 hA, Cn_28_3 hA, Cn_28_4 hA, Cn_28_5 hA, Cn_mvI24 hA, Cn_mvL4 hA])
      exact vcn
    · (try simp only [Vq0_pi_j18 hA, Vq0_pi_j22 hA, Vq0_pi_j30 hA, Vq0_pi_j14 hA, Vq0_pi_j28 hA, Vq0_pi_j0 hA, Vq0_mvI24 hA, Vq0_mvL4 hA])
      exact v0
    · (try simp only [Vq1_pi_j18 hA, Vq1_pi_j22 hA, Vq1_pi_j30 hA, Vq1_pi_j14 hA, Vq1_pi_j28 hA, Vq1_pi_j0 hA, Vq1_mvI24 hA, Vq1_mvL4 hA])
      exact v1
    · (try simp only [Vq2_pi_j18 hA, Vq2_pi_j22 hA, Vq2_pi_j30 hA, Vq2_pi_j14 hA, Vq2_pi_j28 hA, Vq2_pi_j0 hA, Vq2_mvI24 hA, Vq2_mvL4 hA])
      exact v2
    · simp only [Vp, mi_pi, hAe, Nat.reduceLT, Nat.reduceEqDiff, false_and, and_false, true_and, and_true, if_false, if_true, mvL_i, mvI_i, p1, p2, p3, p4, true_and, and_self]
      first | exact hq9 | exact ⟨⟨rfl, rfl, rfl, rfl⟩, hq9⟩ | (refine ⟨⟨?_, ?_, ?_, ?_⟩, hq9⟩ <;> first | rfl | trivial)
    · (try simp only [Vl0_pi_j18 hA, Vl0_pi_j22 hA, Vl0_pi_j30 hA, Vl0_pi_j14 hA, Vl0_pi_j28 hA, Vl0_pi_j0 hA, Vl0_mvI24 hA, Vl0_mvL4 hA])
      exact vl0
    · (try simp only [Vl1_pi_j18 hA, Vl1_pi_j22 hA, Vl1_pi_j30 hA, Vl1_pi_j14 hA, Vl1_pi_j28 hA, Vl1_pi_j0 hA, Vl1_mvI24 hA, Vl1_mvL4 hA])
      exact vl1
    · (try simp only [Vlr_pi_j18 hA, Vlr_pi_j22 hA, Vlr_pi_j30 hA, Vlr_pi_j14 hA, Vlr_pi_j28 hA, Vlr_pi_j0 hA, Vlr_mvI24 hA, Vlr_mvL4 hA])
      exact vlr
    · refine Vsr_mv (F := 1) (P := P) (n := L - P) vsr (by omega) (fun k => ?_) (fun k => ?_) <;> simp only [mi_pi, ml_pi, hAe, Nat.reduceLT, Nat.reduceEqDiff, false_and, true_and, if_false, mvL_i, mvL_l, mvI_i, mvI_l]
    · refine Vc_of (c := 0) vc (by decide) (fun k => ?_) (fun k => ?_) <;> simp only [mi_pi, hAe, Nat.reduceLT, Nat.reduceEqDiff, false_and, true_and, if_false, mvL_i, mvI_i, pco]
    · (try simp only [Tx_pi_j18 hA, Tx_pi_j22 hA, Tx_pi_j30 hA, Tx_pi_j14 hA, Tx_pi_j28 hA, Tx_pi_j0 hA, Tx_mvI24 hA, Tx_mvL4 hA])
      exact tx
end

section
/-! lensTurn, squeeze -/
theorem lnC {lo hi : Int} {x : Nat} {f n s p l m : Int32} (k : lnOk lo hi x f n s p l m) : lnOk lo hi x f n s 0 n (-1) := by
  obtain ⟨k1, k2, k3, k4, k5, k6, k7, k8, k9, k10⟩ := k
  have z0 : (0 : Int32).toInt = 0 := rfl
  have zm : (-1 : Int32).toInt = -1 := rfl
  exact ⟨k1, k2, k3, k4, k5, by omega, by omega, by omega, by omega, by omega⟩
theorem lnFl {lo hi : Int} {x : Nat} {f n s p l m : Int32} (k : lnOk lo hi x f n s p l m) : lnOk lo hi x f n s 0 p (-1) := by
  obtain ⟨k1, k2, k3, k4, k5, k6, k7, k8, k9, k10⟩ := k
  have z0 : (0 : Int32).toInt = 0 := rfl
  have zm : (-1 : Int32).toInt = -1 := rfl
  exact ⟨k1, k2, k3, k4, k5, by omega, by omega, by omega, by omega, by omega⟩
theorem lnR {lo hi : Int} {x : Nat} {f n s p l m : Int32} (k : lnOk lo hi x f n s p l m) : lnOk lo hi x f n s 0 l (-1) := by
  obtain ⟨k1, k2, k3, k4, k5, k6, k7, k8, k9, k10⟩ := k
  have z0 : (0 : Int32).toInt = 0 := rfl
  have zm : (-1 : Int32).toInt = -1 := rfl
  exact ⟨k1, k2, k3, k4, k5, by omega, by omega, by omega, by omega, by omega⟩
theorem lnM {lo hi : Int} {x : Nat} {f n s p l m : Int32} (k : lnOk lo hi x f n s p l m) : lnOk lo hi x f n s p l p := by
  obtain ⟨k1, k2, k3, k4, k5, k6, k7, k8, k9, k10⟩ := k
  have z0 : (0 : Int32).toInt = 0 := rfl
  have zm : (-1 : Int32).toInt = -1 := rfl
  exact ⟨k1, k2, k3, k4, k5, by omega, by omega, by omega, by omega, by omega⟩
theorem lnB {lo hi : Int} {x : Nat} {f n s p l m : Int32} (k : lnOk lo hi x f n s p l m) (h : ¬ m < 0) : lnOk lo hi x f n s m l m := by
  obtain ⟨k1, k2, k3, k4, k5, k6, k7, k8, k9, k10⟩ := k
  have z0 : (0 : Int32).toInt = 0 := rfl
  have zm : (-1 : Int32).toInt = -1 := rfl
  rw [Int32.lt_iff_toInt_lt] at h
  exact ⟨k1, k2, k3, k4, k5, by omega, by omega, by omega, by omega, by omega⟩
theorem lnMk {lo hi : Int} {x : Nat} {f n s p l m : Int32} (k : lnOk lo hi x f n s p l m) : (m < 0 ∧ m = -1) ∨ (¬ m < 0 ∧ ¬ m = -1) := by
  obtain ⟨k1, k2, k3, k4, k5, k6, k7, k8, k9, k10⟩ := k
  have z0 : (0 : Int32).toInt = 0 := rfl
  have zm : (-1 : Int32).toInt = -1 := rfl
  rw [Int32.lt_iff_toInt_lt]
  by_cases h : m.toInt < (0 : Int32).toInt
  · exact Or.inl ⟨h, Int32.toInt_inj.mp (by omega)⟩
  · exact Or.inr ⟨h, fun z => h (by rw [z]; decide)⟩
theorem toNat_of {x : Int32} (h : 0 ≤ x.toInt) : x = Int32.ofNat x.toInt.toNat := by
  apply Int32.toInt_inj.mp
  have := x.toInt_lt
  rw [Int32.toInt_ofNat_of_lt (by omega)]
  omega
theorem lnNat {lo hi : Int} {x : Nat} {f n s p l m : Int32} (k : lnOk lo hi x f n s p l m) (h0 : 0 ≤ lo) (h1 : hi ≤ 35) : ∃ F N P L : Nat, f = Int32.ofNat F ∧ n = Int32.ofNat N ∧ p = Int32.ofNat P ∧ l = Int32.ofNat L ∧ P ≤ L ∧ L ≤ N ∧ F + N ≤ 35 ∧ lnOk lo hi x f n s (Int32.ofNat (L - P)) n (-1) := by
  obtain ⟨k1, k2, k3, k4, k5, k6, k7, k8, k9, k10⟩ := k
  have z0 : (0 : Int32).toInt = 0 := rfl
  have zm : (-1 : Int32).toInt = -1 := rfl
  refine ⟨f.toInt.toNat, n.toInt.toNat, p.toInt.toNat, l.toInt.toNat, toNat_of (by omega), toNat_of (by omega), toNat_of (by omega), toNat_of (by omega), by omega, by omega, by omega, ?_⟩
  have e : (Int32.ofNat (l.toInt.toNat - p.toInt.toNat)).toInt = l.toInt - p.toInt := by
    rw [Int32.toInt_ofNat_of_lt (by omega)]
    omega
  exact ⟨k1, k2, k3, k4, k5, by omega, by omega, by omega, by omega, by omega⟩
theorem hx_318_1 {l rest : List Value} {bc bs : Nat} {Q : MR → MH → Prop} {h : MH} : Kc Ok 318 4 7 l rest bc bs Q (.inr 1) h ↔ ∀ q : Nat, Ok 318 14 l [.ref q] h bc bs Q := Kc_x (by decide +kernel) (by decide +kernel)
theorem hx_318_2 {l rest : List Value} {bc bs : Nat} {Q : MR → MH → Prop} {h : MH} : Kc Ok 318 4 7 l rest bc bs Q (.inr 2) h ↔ ∀ q : Nat, Ok 318 18 l [.ref q] h bc bs Q := Kc_x (by decide +kernel) (by decide +kernel)
set_option maxHeartbeats 8000000 in
theorem op_lensTurn {A : Nat → Nat} {h : MH} (R : Rl A h) {e x : Int32} : Ok 318 0 [.ref (A 0), .int e, .int x, .ref (A 39), mk0] [] h 2 12 (fun r h1 => ∃ k : Int32, r = .inl (some (.int k)) ∧ g_c h1 (A 22) = 9 ∧ Ok 223 0 [.ref (A 22), .int e, .int x, mk0] [] h1 0 0 (fun r2 h2 => ∃ b : Int32, r2 = .inl (some (.int b)) ∧ Rl A h2 ∧ g_i h2 (A 22) 9 = k ∧ (k = 0 → g_l h2 (A 39) 0 = b.toInt64))) := by
  obtain ⟨vk, vcn, v0, v1, v2, vp, vl0, vl1, vlr, vsr, vc, tx⟩ := R
  have vk0 := vk
  have vcn0 := vcn
  (refine K_el vk0 ?_; intros hA kc0 kc1 kc2 kc3 kc4 kc5 kc6 kc7 kc8 kc9 kc10 kc11 kc12 kc13 kc14 kc15 kc16 kc17 kc18 kc19 kc20 kc21 kc22 kc23 kc24 kc25 kc26 kc27 kc28 kc29 kc30 kc31 kc32 kc33 kc34 kc35 kc36 kc37 kc38 kc39 kz kt kn3 kn4 kn18 kn21 kn23 kn24 kn25 kn26 kn27 kn29 kn30 kr0_0 kr0_1 kr0_2 kr0_3 kr0_4 kr0_5 kr0_7 kr0_8 kr0_9 kr0_10 kr1_0 kr2_0 kr5_0 kr5_1 kr6_0 kr6_1 kr7_0 kr7_1 kr8_0 kr9_0 kr10_0 kr11_0 kr12_0 kr13_0 kr14_0 kr15_0 kr16_0 kr17_0 kr19_0 kr19_1 kr22_0 kr22_1 kr22_2 kr22_3 kr22_4 kr22_5 kr22_7 kr22_8 kr25_0 kr25_1 kr25_2 kr26_0 kr26_1 kr26_2 kr29_0 kr29_1)
  (refine Cn_el vcn0 ?_; intros ki5_2 ki6_2 ki7_2 ki8_1 ki8_2 ki8_3 ki9_1 ki9_2 ki9_3 ki10_1 ki10_2 ki10_3 ki11_1 ki11_2 ki11_3 ki12_1 ki12_2 ki12_3 ki13_1 ki13_2 ki13_3 ki14_1 ki14_2 ki14_3 ki28_0 ki28_1 ki31_0 ki31_1 ki32_0 ki32_1 ki33_0 ki33_1 ki34_0 ki34_1 ki35_0 ki35_1 ki36_0 ki36_1)
  have hAe : ∀ i j, i < 40 → j < 40 → (A i = A j ↔ i = j) := hA
  by_cases bx0 : x < 0 <;> by_cases bx9 : 5 < x
  · exact absurd (Int32.lt_trans bx9 bx0) (by decide)
  · by_cases be : e < 0 ∨ ¬ e < 2
    · have be2 := e_bad be
      simp only [↓ar_ite, ↓ar_ite2, ↓reduceIte, o318_0, o318_1, o318_2, o318_3, o318_4, o318_14, o318_16, o318_17, o93_0, o93_1, o93_2, o223_0, o223_1, o223_2, o223_5, o223_8, o223_9, o223_13, o223_14, o223_22, o223_23, o223_27, o223_30, o223_33, o223_34, hx_318_1, c_X8_isThrown_, c_X8_isLens, c_lensOf_bad, mc_pT, mi_pi, ml_pi, ml_pT, mz_pT, mcs_0, mcs_r, Kn_v, Kn_x, true_and, and_true, false_implies, forall_const, and_self, Nat.reduceLeDiff, Nat.reduceSub, Nat.reduceAdd, Nat.zero_le, Nat.le_refl, i10, Sum.inl.injEq, Option.some.injEq, Value.int.injEq, exists_eq_left', Nat.reduceLT, kc0, kc22, kz, be, be2, bx0]
      (try simp only [ite_ar, implies_true, true_and, and_true, Classical.not_not])
      intro t ht
      first | refine ⟨⟨?_, ?_, ?_, ?_, ?_, ?_, ?_, ?_, ?_, ?_, ?_, ?_⟩, rfl⟩ | refine ⟨?_, ?_, ?_, ?_, ?_, ?_, ?_, ?_, ?_, ?_, ?_, ?_⟩
      · (try simp only [K_pi])
        exact K_pT ht vk
      · (try simp only [Cn_pi_j22 hA, Cn_pT])
        exact vcn
      · (try simp only [Vq0_pi_j22 hA, Vq0_pT])
        exact v0
      · (try simp only [Vq1_pi_j22 hA, Vq1_pT])
        exact v1
      · (try simp only [Vq2_pi_j22 hA, Vq2_pT])
        exact v2
      · (try simp only [Vp_thr hA, Vp_pT])
        exact vp
      · (try simp only [Vl0_pi_j22 hA, Vl0_pT])
        exact vl0
      · (try simp only [Vl1_pi_j22 hA, Vl1_pT])
        exact vl1
      · (try simp only [Vlr_pi_j22 hA, Vlr_pT])
        exact vlr
      · (try simp only [Vsr_pi_j22 hA, Vsr_pT])
        exact vsr
      · (try simp only [Vc_pi_j22 hA, Vc_pT])
        exact vc
      · (try simp only [Tx_pi_j22 hA])
        exact Tx_pT ht tx
    · have y1 : ¬ e < 0 := fun z => be (Or.inl z)
      have y2 : e < 2 := Classical.byContradiction fun z => be (Or.inr z)
      rcases e_cases y1 y2 with rfl | rfl
      · skip
        simp only [↓ar_ite, ↓ar_ite2, ↓reduceIte, o318_0, o318_1, o318_2, o318_3, o318_4, o318_18, o318_20, o318_21, o93_0, o93_1, o93_2, o93_5, o93_6, o93_7, o93_8, o223_0, o223_1, o223_2, o223_5, o223_12, o223_13, o223_14, o223_22, o223_23, o223_27, o223_30, o223_33, o223_34, hx_318_2, c_X8_isThrown_, c_X8_isLens, c_X5_checkChoice, c_lensOf_0, mc_pT, mi_pi, ml_pi, ml_pT, mz_pT, mcs_0, mcs_r, Kn_v, Kn_x, true_and, and_true, and_false, or_false, false_implies, forall_const, and_self, Nat.reduceLeDiff, Nat.reduceSub, Nat.reduceAdd, Nat.zero_le, Nat.le_refl, i10, i01, Sum.inl.injEq, Option.some.injEq, Value.int.injEq, exists_eq_left', Nat.reduceLT, i20, kc0, kc22, kr0_7, kz, bx0, bx9]
        (try simp only [ite_ar, implies_true, true_and, and_true, Classical.not_not])
        intro t ht
        first | refine ⟨⟨?_, ?_, ?_, ?_, ?_, ?_, ?_, ?_, ?_, ?_, ?_, ?_⟩, rfl⟩ | refine ⟨?_, ?_, ?_, ?_, ?_, ?_, ?_, ?_, ?_, ?_, ?_, ?_⟩
        · (try simp only [K_pi])
          exact K_pT ht vk
        · (try simp only [Cn_pi_j22 hA, Cn_pT])
          exact vcn
        · (try simp only [Vq0_pi_j22 hA, Vq0_pT])
          exact v0
        · (try simp only [Vq1_pi_j22 hA, Vq1_pT])
          exact v1
        · (try simp only [Vq2_pi_j22 hA, Vq2_pT])
          exact v2
        · (try simp only [Vp_thr hA, Vp_pT])
          exact vp
        · (try simp only [Vl0_pi_j22 hA, Vl0_pT])
          exact vl0
        · (try simp only [Vl1_pi_j22 hA, Vl1_pT])
          exact vl1
        · (try simp only [Vlr_pi_j22 hA, Vlr_pT])
          exact vlr
        · (try simp only [Vsr_pi_j22 hA, Vsr_pT])
          exact vsr
        · (try simp only [Vc_pi_j22 hA, Vc_pT])
          exact vc
        · (try simp only [Tx_pi_j22 hA])
          exact Tx_pT ht tx
      · skip
        simp only [↓ar_ite, ↓ar_ite2, ↓reduceIte, o318_0, o318_1, o318_2, o318_3, o318_4, o318_18, o318_20, o318_21, o93_0, o93_1, o93_2, o93_5, o93_6, o93_7, o93_8, o223_0, o223_1, o223_2, o223_5, o223_12, o223_13, o223_14, o223_22, o223_23, o223_27, o223_30, o223_33, o223_34, hx_318_2, c_X8_isThrown_, c_X8_isLens, c_X5_checkChoice, c_lensOf_1, mc_pT, mi_pi, ml_pi, ml_pT, mz_pT, mcs_0, mcs_r, Kn_v, Kn_x, true_and, and_true, and_false, or_true, or_false, false_implies, forall_const, and_self, Nat.reduceLeDiff, Nat.reduceSub, Nat.reduceAdd, Nat.zero_le, Nat.le_refl, i10, Sum.inl.injEq, Option.some.injEq, Value.int.injEq, exists_eq_left', Nat.reduceLT, i20, kc0, kc22, kr0_8, kz, bx0, bx9]
        (try simp only [ite_ar, implies_true, true_and, and_true, Classical.not_not])
        intro t ht
        first | refine ⟨⟨?_, ?_, ?_, ?_, ?_, ?_, ?_, ?_, ?_, ?_, ?_, ?_⟩, rfl⟩ | refine ⟨?_, ?_, ?_, ?_, ?_, ?_, ?_, ?_, ?_, ?_, ?_, ?_⟩
        · (try simp only [K_pi])
          exact K_pT ht vk
        · (try simp only [Cn_pi_j22 hA, Cn_pT])
          exact vcn
        · (try simp only [Vq0_pi_j22 hA, Vq0_pT])
          exact v0
        · (try simp only [Vq1_pi_j22 hA, Vq1_pT])
          exact v1
        · (try simp only [Vq2_pi_j22 hA, Vq2_pT])
          exact v2
        · (try simp only [Vp_thr hA, Vp_pT])
          exact vp
        · (try simp only [Vl0_pi_j22 hA, Vl0_pT])
          exact vl0
        · (try simp only [Vl1_pi_j22 hA, Vl1_pT])
          exact vl1
        · (try simp only [Vlr_pi_j22 hA, Vlr_pT])
          exact vlr
        · (try simp only [Vsr_pi_j22 hA, Vsr_pT])
          exact vsr
        · (try simp only [Vc_pi_j22 hA, Vc_pT])
          exact vc
        · (try simp only [Tx_pi_j22 hA])
          exact Tx_pT ht tx
  · by_cases be : e < 0 ∨ ¬ e < 2
    · have be2 := e_bad be
      simp only [↓ar_ite, ↓ar_ite2, ↓reduceIte, o318_0, o318_1, o318_2, o318_3, o318_4, o318_14, o318_16, o318_17, o93_0, o93_1, o93_2, o223_0, o223_1, o223_2, o223_5, o223_8, o223_9, o223_13, o223_14, o223_17, o223_18, o223_19, o223_22, o223_23, o223_27, o223_30, o223_33, o223_34, hx_318_1, c_X8_isThrown_, c_X8_isLens, c_lensOf_bad, mc_pT, mi_pi, ml_pi, ml_pT, mz_pT, mcs_0, mcs_r, Kn_v, Kn_x, true_and, and_true, not_true_eq_false, false_implies, forall_const, and_self, Nat.reduceLeDiff, Nat.reduceSub, Nat.reduceAdd, Nat.zero_le, Nat.le_refl, i10, lt_le, Sum.inl.injEq, Option.some.injEq, Value.int.injEq, exists_eq_left', Nat.reduceLT, kc0, kc22, kz, be, be2, bx0, bx9]
      (try simp only [ite_ar, implies_true, true_and, and_true, Classical.not_not])
      intro t ht
      first | refine ⟨⟨?_, ?_, ?_, ?_, ?_, ?_, ?_, ?_, ?_, ?_, ?_, ?_⟩, rfl⟩ | refine ⟨?_, ?_, ?_, ?_, ?_, ?_, ?_, ?_, ?_, ?_, ?_, ?_⟩
      · (try simp only [K_pi])
        exact K_pT ht vk
      · (try simp only [Cn_pi_j22 hA, Cn_pT])
        exact vcn
      · (try simp only [Vq0_pi_j22 hA, Vq0_pT])
        exact v0
      · (try simp only [Vq1_pi_j22 hA, Vq1_pT])
        exact v1
      · (try simp only [Vq2_pi_j22 hA, Vq2_pT])
        exact v2
      · (try simp only [Vp_thr hA, Vp_pT])
        exact vp
      · (try simp only [Vl0_pi_j22 hA, Vl0_pT])
        exact vl0
      · (try simp only [Vl1_pi_j22 hA, Vl1_pT])
        exact vl1
      · (try simp only [Vlr_pi_j22 hA, Vlr_pT])
        exact vlr
      · (try simp only [Vsr_pi_j22 hA, Vsr_pT])
        exact vsr
      · (try simp only [Vc_pi_j22 hA, Vc_pT])
        exact vc
      · (try simp only [Tx_pi_j22 hA])
        exact Tx_pT ht tx
    · have y1 : ¬ e < 0 := fun z => be (Or.inl z)
      have y2 : e < 2 := Classical.byContradiction fun z => be (Or.inr z)
      rcases e_cases y1 y2 with rfl | rfl
      · skip
        simp only [↓ar_ite, ↓ar_ite2, ↓reduceIte, o318_0, o318_1, o318_2, o318_3, o318_4, o318_18, o318_20, o318_21, o93_0, o93_1, o93_2, o93_5, o93_6, o93_7, o93_8, o223_0, o223_1, o223_2, o223_5, o223_12, o223_13, o223_14, o223_17, o223_18, o223_19, o223_22, o223_23, o223_27, o223_30, o223_33, o223_34, hx_318_2, c_X8_isThrown_, c_X8_isLens, c_X5_checkChoice, c_lensOf_0, mc_pT, mi_pi, ml_pi, ml_pT, mz_pT, mcs_0, mcs_r, Kn_v, Kn_x, true_and, and_true, and_false, or_true, or_false, not_true_eq_false, false_implies, forall_const, and_self, Nat.reduceLeDiff, Nat.reduceSub, Nat.reduceAdd, Nat.zero_le, Nat.le_refl, i10, i01, lt_le, Sum.inl.injEq, Option.some.injEq, Value.int.injEq, exists_eq_left', Nat.reduceLT, i20, kc0, kc22, kr0_7, kz, bx0, bx9]
        (try simp only [ite_ar, implies_true, true_and, and_true, Classical.not_not])
        intro t ht
        first | refine ⟨⟨?_, ?_, ?_, ?_, ?_, ?_, ?_, ?_, ?_, ?_, ?_, ?_⟩, rfl⟩ | refine ⟨?_, ?_, ?_, ?_, ?_, ?_, ?_, ?_, ?_, ?_, ?_, ?_⟩
        · (try simp only [K_pi])
          exact K_pT ht vk
        · (try simp only [Cn_pi_j22 hA, Cn_pT])
          exact vcn
        · (try simp only [Vq0_pi_j22 hA, Vq0_pT])
          exact v0
        · (try simp only [Vq1_pi_j22 hA, Vq1_pT])
          exact v1
        · (try simp only [Vq2_pi_j22 hA, Vq2_pT])
          exact v2
        · (try simp only [Vp_thr hA, Vp_pT])
          exact vp
        · (try simp only [Vl0_pi_j22 hA, Vl0_pT])
          exact vl0
        · (try simp only [Vl1_pi_j22 hA, Vl1_pT])
          exact vl1
        · (try simp only [Vlr_pi_j22 hA, Vlr_pT])
          exact vlr
        · (try simp only [Vsr_pi_j22 hA, Vsr_pT])
          exact vsr
        · (try simp only [Vc_pi_j22 hA, Vc_pT])
          exact vc
        · (try simp only [Tx_pi_j22 hA])
          exact Tx_pT ht tx
      · skip
        simp only [↓ar_ite, ↓ar_ite2, ↓reduceIte, o318_0, o318_1, o318_2, o318_3, o318_4, o318_18, o318_20, o318_21, o93_0, o93_1, o93_2, o93_5, o93_6, o93_7, o93_8, o223_0, o223_1, o223_2, o223_5, o223_12, o223_13, o223_14, o223_17, o223_18, o223_19, o223_22, o223_23, o223_27, o223_30, o223_33, o223_34, hx_318_2, c_X8_isThrown_, c_X8_isLens, c_X5_checkChoice, c_lensOf_1, mc_pT, mi_pi, ml_pi, ml_pT, mz_pT, mcs_0, mcs_r, Kn_v, Kn_x, true_and, and_true, and_false, or_true, not_true_eq_false, false_implies, forall_const, and_self, Nat.reduceLeDiff, Nat.reduceSub, Nat.reduceAdd, Nat.zero_le, Nat.le_refl, i10, lt_le, Sum.inl.injEq, Option.some.injEq, Value.int.injEq, exists_eq_left', Nat.reduceLT, i20, kc0, kc22, kr0_8, kz, bx0, bx9]
        (try simp only [ite_ar, implies_true, true_and, and_true, Classical.not_not])
        intro t ht
        first | refine ⟨⟨?_, ?_, ?_, ?_, ?_, ?_, ?_, ?_, ?_, ?_, ?_, ?_⟩, rfl⟩ | refine ⟨?_, ?_, ?_, ?_, ?_, ?_, ?_, ?_, ?_, ?_, ?_, ?_⟩
        · (try simp only [K_pi])
          exact K_pT ht vk
        · (try simp only [Cn_pi_j22 hA, Cn_pT])
          exact vcn
        · (try simp only [Vq0_pi_j22 hA, Vq0_pT])
          exact v0
        · (try simp only [Vq1_pi_j22 hA, Vq1_pT])
          exact v1
        · (try simp only [Vq2_pi_j22 hA, Vq2_pT])
          exact v2
        · (try simp only [Vp_thr hA, Vp_pT])
          exact vp
        · (try simp only [Vl0_pi_j22 hA, Vl0_pT])
          exact vl0
        · (try simp only [Vl1_pi_j22 hA, Vl1_pT])
          exact vl1
        · (try simp only [Vlr_pi_j22 hA, Vlr_pT])
          exact vlr
        · (try simp only [Vsr_pi_j22 hA, Vsr_pT])
          exact vsr
        · (try simp only [Vc_pi_j22 hA, Vc_pT])
          exact vc
        · (try simp only [Tx_pi_j22 hA])
          exact Tx_pT ht tx
  · by_cases be : e < 0 ∨ ¬ e < 2
    · have be2 := e_bad be
      simp only [↓ar_ite, ↓ar_ite2, ↓reduceIte, o318_0, o318_1, o318_2, o318_3, o318_4, o318_14, o318_16, o318_17, o93_0, o93_1, o93_2, o223_0, o223_1, o223_2, o223_5, o223_8, o223_9, o223_13, o223_14, o223_17, o223_18, o223_19, o223_26, o223_27, o223_30, o223_33, o223_34, hx_318_1, c_X8_isThrown_, c_X8_isLens, c_lensOf_bad, mc_pT, mi_pi, ml_pi, ml_pT, mz_pT, mcs_0, mcs_r, Kn_v, Kn_x, true_and, and_true, not_false_eq_true, false_implies, forall_const, and_self, Nat.reduceLeDiff, Nat.reduceSub, Nat.reduceAdd, Nat.zero_le, Nat.le_refl, i10, lt_le, Sum.inl.injEq, Option.some.injEq, Value.int.injEq, exists_eq_left', Nat.reduceLT, kc0, kc22, kz, be, be2, bx0, bx9]
      (try simp only [ite_ar, implies_true, true_and, and_true, Classical.not_not])
      intro t ht
      first | refine ⟨⟨?_, ?_, ?_, ?_, ?_, ?_, ?_, ?_, ?_, ?_, ?_, ?_⟩, rfl⟩ | refine ⟨?_, ?_, ?_, ?_, ?_, ?_, ?_, ?_, ?_, ?_, ?_, ?_⟩
      · (try simp only [K_pi])
        exact K_pT ht vk
      · (try simp only [Cn_pi_j22 hA, Cn_pT])
        exact vcn
      · (try simp only [Vq0_pi_j22 hA, Vq0_pT])
        exact v0
      · (try simp only [Vq1_pi_j22 hA, Vq1_pT])
        exact v1
      · (try simp only [Vq2_pi_j22 hA, Vq2_pT])
        exact v2
      · (try simp only [Vp_thr hA, Vp_pT])
        exact vp
      · (try simp only [Vl0_pi_j22 hA, Vl0_pT])
        exact vl0
      · (try simp only [Vl1_pi_j22 hA, Vl1_pT])
        exact vl1
      · (try simp only [Vlr_pi_j22 hA, Vlr_pT])
        exact vlr
      · (try simp only [Vsr_pi_j22 hA, Vsr_pT])
        exact vsr
      · (try simp only [Vc_pi_j22 hA, Vc_pT])
        exact vc
      · (try simp only [Tx_pi_j22 hA])
        exact Tx_pT ht tx
    · have y1 : ¬ e < 0 := fun z => be (Or.inl z)
      have y2 : e < 2 := Classical.byContradiction fun z => be (Or.inr z)
      rcases e_cases y1 y2 with rfl | rfl
      · have hl2 := vl0
        obtain ⟨⟨b1, b2, b3, b4, b5, b6⟩, ln⟩ := hl2
        replace b1 := b1.symm
        replace b2 := b2.symm
        replace b3 := b3.symm
        replace b4 := b4.symm
        replace b5 := b5.symm
        replace b6 := b6.symm
        rw [b1, b2, b3, b4, b5, b6] at ln
        rcases x_cases bx0 (x_le bx9 (by decide)) with rfl | rfl | rfl | rfl | rfl | rfl | rfl | rfl | rfl
        · have hq9 := lnC ln
          simp only [↓ar_ite, ↓ar_ite2, ↓ar_ok, ↓reduceIte, o318_0, o318_1, o318_2, o318_3, o318_4, o318_7, o318_8, o318_11, o318_22, o318_23, o93_0, o93_1, o93_2, o93_5, o93_6, o93_7, o93_8, o93_11, o93_12, o93_13, o93_32, o93_33, o93_34, o93_53, o93_54, o93_55, o93_58, o93_59, o93_62, o93_63, o93_66, o93_69, o223_0, o223_1, o223_2, o223_5, o223_12, o223_13, o223_14, o223_17, o223_18, o223_19, o223_26, o223_27, o223_30, o223_35, o223_36, o223_39, o223_40, o223_41, o223_42, o223_43, o223_44, o223_60, o223_61, o223_62, o223_78, o223_79, o223_82, o223_83, o223_86, o223_150, o223_151, o223_152, o223_155, o223_158, c_X8_isThrown_, c_X8_isLens, c_X5_checkChoice, c_lensOf_0, c_X3_clear, c_X7_cleared, c_X0_done (cs := A 18), c_X8_done (cs := A 30), mc_pi, mc_pl, mn_pi, mn_pl, mi_pi, mi_pl, ml_pi, ml_pl, mr_pi, mr_pl, mz_pi, mz_pl, mcs_0, mcs_r, Kn_v, Kn_0, mrf_some, true_and, and_true, and_false, or_false, not_false_eq_true, implies_true, and_self, Nat.reduceEqDiff, Nat.reduceLeDiff, Nat.reduceSub, Nat.reduceAdd, Nat.zero_le, Nat.le_refl, i10, i01, lt_le, Int32.reduceLT, cl0, Kc_v, Sum.inl.injEq, Option.some.injEq, Value.int.injEq, exists_eq_left', Nat.reduceLT, hAe, kc0, kc15, kc17, kc18, kc22, kc29, kc30, kc37, kc39, kn18, kn29, kn30, kr0_7, kr0_9, kr17_0, kr22_7, kr22_8, kr29_0, kz, be0, b2, lne, lti, Int.reduceLT, or_self, or_false, o135_0, o135_1, o135_36, o135_37, o135_40, o135_75, cl0]
          (try simp only [ite_ar, implies_true, true_and, and_true, Classical.not_not])
          first | refine ⟨⟨?_, ?_, ?_, ?_, ?_, ?_, ?_, ?_, ?_, ?_, ?_, ?_⟩, rfl⟩ | refine ⟨?_, ?_, ?_, ?_, ?_, ?_, ?_, ?_, ?_, ?_, ?_, ?_⟩
          · (try simp only [K_pi, K_pl])
            exact vk
          · (try simp only [Cn_pi_j18 hA, Cn_pi_j22 hA, Cn_pi_j30 hA, Cn_pi_j15 hA, Cn_pi_j37 hA, Cn_pl])
            exact vcn
          · (try simp only [Vq0_pi_j18 hA, Vq0_pi_j22 hA, Vq0_pi_j30 hA, Vq0_pi_j15 hA, Vq0_pi_j37 hA, Vq0_pl])
            exact v0
          · (try simp only [Vq1_pi_j18 hA, Vq1_pi_j22 hA, Vq1_pi_j30 hA, Vq1_pi_j15 hA, Vq1_pi_j37 hA, Vq1_pl])
            exact v1
          · (try simp only [Vq2_pi_j18 hA, Vq2_pi_j22 hA, Vq2_pi_j30 hA, Vq2_pi_j15 hA, Vq2_pi_j37 hA, Vq2_pl])
            exact v2
          · (try simp only [Vp_pi_j18 hA, Vp_pi_j30 hA, Vp_pi_j15 hA, Vp_pi_j37 hA, Vp_thr hA, Vp_pl])
            exact vp
          · simp only [Vl0, mi_pi, mi_pl, hAe, Nat.reduceLT, Nat.reduceEqDiff, and_false, true_and, and_true, if_false, if_true, b1, b2, b3, b4, b5, b6, true_and, and_self]
            first | exact hq9 | exact ⟨⟨rfl, rfl, rfl, rfl, rfl, rfl⟩, hq9⟩ | (refine ⟨⟨?_, ?_, ?_, ?_, ?_, ?_⟩, hq9⟩ <;> first | rfl | trivial)
          · (try simp only [Vl1_pi_j18 hA, Vl1_pi_j22 hA, Vl1_pi_j30 hA, Vl1_pi_j15 hA, Vl1_pi_j37 hA, Vl1_pl])
            exact vl1
          · (try simp only [Vlr_pi_j18 hA, Vlr_pi_j22 hA, Vlr_pi_j30 hA, Vlr_pi_j15 hA, Vlr_pi_j37 hA, Vlr_pl_j39 hA])
            exact vlr
          · (try simp only [Vsr_pi_j18 hA, Vsr_pi_j22 hA, Vsr_pi_j30 hA, Vsr_pi_j15 hA, Vsr_pi_j37 hA, Vsr_pl_j39 hA])
            exact vsr
          · refine Vc_of (c := 0) vc (by decide) (fun k => ?_) (fun k => ?_) <;> simp only [mi_pi, mi_pl, hAe, Nat.reduceLT, Nat.reduceEqDiff, false_and, true_and, if_false]
          · (try simp only [Tx_pi_j18 hA, Tx_pi_j22 hA, Tx_pi_j30 hA, Tx_pi_j15 hA, Tx_pi_j37 hA, Tx_pl])
            exact tx
        · have hq9 := lnFl ln
          simp only [↓ar_ite, ↓ar_ite2, ↓ar_ok, ↓reduceIte, o318_0, o318_1, o318_2, o318_3, o318_4, o318_7, o318_8, o318_11, o318_22, o318_23, o93_0, o93_1, o93_2, o93_5, o93_6, o93_7, o93_8, o93_11, o93_12, o93_13, o93_32, o93_33, o93_34, o93_53, o93_54, o93_55, o93_58, o93_59, o93_62, o93_63, o93_66, o93_69, o223_0, o223_1, o223_2, o223_5, o223_12, o223_13, o223_14, o223_17, o223_18, o223_19, o223_26, o223_27, o223_30, o223_35, o223_36, o223_39, o223_40, o223_41, o223_42, o223_43, o223_44, o223_60, o223_61, o223_62, o223_78, o223_79, o223_89, o223_90, o223_91, o223_94, o223_95, o223_98, o223_150, o223_151, o223_152, o223_155, o223_158, c_X8_isThrown_, c_X8_isLens, c_X5_checkChoice, c_lensOf_0, c_X3_flip, c_X7_flipped, c_X0_done (cs := A 18), c_X8_done (cs := A 30), mc_pi, mc_pl, mn_pi, mn_pl, mi_pi, mi_pl, ml_pi, ml_pl, mr_pi, mr_pl, mz_pi, mz_pl, mcs_0, mcs_r, Kn_v, Kn_0, mrf_some, true_and, and_true, and_false, or_false, not_false_eq_true, implies_true, and_self, Nat.reduceEqDiff, Nat.reduceLeDiff, Nat.reduceSub, Nat.reduceAdd, Nat.zero_le, Nat.le_refl, i10, i01, lt_le, Int32.reduceLT, cl0, Kc_v, Sum.inl.injEq, Option.some.injEq, Value.int.injEq, exists_eq_left', Nat.reduceLT, hAe, kc0, kc15, kc17, kc18, kc22, kc29, kc30, kc37, kc39, kn18, kn29, kn30, kr0_7, kr0_9, kr17_0, kr22_7, kr22_8, kr29_0, kz, be0, b4, lne, lti, Int.reduceLT, or_self, or_false, o135_0, o135_1, o135_43, o135_44, o135_47, o135_75, cl0]
          (try simp only [ite_ar, implies_true, true_and, and_true, Classical.not_not])
          first | refine ⟨⟨?_, ?_, ?_, ?_, ?_, ?_, ?_, ?_, ?_, ?_, ?_, ?_⟩, rfl⟩ | refine ⟨?_, ?_, ?_, ?_, ?_, ?_, ?_, ?_, ?_, ?_, ?_, ?_⟩
          · (try simp only [K_pi, K_pl])
            exact vk
          · (try simp only [Cn_pi_j18 hA, Cn_pi_j22 hA, Cn_pi_j30 hA, Cn_pi_j15 hA, Cn_pi_j37 hA, Cn_pl])
            exact vcn
          · (try simp only [Vq0_pi_j18 hA, Vq0_pi_j22 hA, Vq0_pi_j30 hA, Vq0_pi_j15 hA, Vq0_pi_j37 hA, Vq0_pl])
            exact v0
          · (try simp only [Vq1_pi_j18 hA, Vq1_pi_j22 hA, Vq1_pi_j30 hA, Vq1_pi_j15 hA, Vq1_pi_j37 hA, Vq1_pl])
            exact v1
          · (try simp only [Vq2_pi_j18 hA, Vq2_pi_j22 hA, Vq2_pi_j30 hA, Vq2_pi_j15 hA, Vq2_pi_j37 hA, Vq2_pl])
            exact v2
          · (try simp only [Vp_pi_j18 hA, Vp_pi_j30 hA, Vp_pi_j15 hA, Vp_pi_j37 hA, Vp_thr hA, Vp_pl])
            exact vp
          · simp only [Vl0, mi_pi, mi_pl, hAe, Nat.reduceLT, Nat.reduceEqDiff, and_false, true_and, and_true, if_false, if_true, b1, b2, b3, b4, b5, b6, true_and, and_self]
            first | exact hq9 | exact ⟨⟨rfl, rfl, rfl, rfl, rfl, rfl⟩, hq9⟩ | (refine ⟨⟨?_, ?_, ?_, ?_, ?_, ?_⟩, hq9⟩ <;> first | rfl | trivial)
          · (try simp only [Vl1_pi_j18 hA, Vl1_pi_j22 hA, Vl1_pi_j30 hA, Vl1_pi_j15 hA, Vl1_pi_j37 hA, Vl1_pl])
            exact vl1
          · (try simp only [Vlr_pi_j18 hA, Vlr_pi_j22 hA, Vlr_pi_j30 hA, Vlr_pi_j15 hA, Vlr_pi_j37 hA, Vlr_pl_j39 hA])
            exact vlr
          · (try simp only [Vsr_pi_j18 hA, Vsr_pi_j22 hA, Vsr_pi_j30 hA, Vsr_pi_j15 hA, Vsr_pi_j37 hA, Vsr_pl_j39 hA])
            exact vsr
          · refine Vc_of (c := 0) vc (by decide) (fun k => ?_) (fun k => ?_) <;> simp only [mi_pi, mi_pl, hAe, Nat.reduceLT, Nat.reduceEqDiff, false_and, true_and, if_false]
          · (try simp only [Tx_pi_j18 hA, Tx_pi_j22 hA, Tx_pi_j30 hA, Tx_pi_j15 hA, Tx_pi_j37 hA, Tx_pl])
            exact tx
        · have hq9 := lnR ln
          simp only [↓ar_ite, ↓ar_ite2, ↓ar_ok, ↓reduceIte, o318_0, o318_1, o318_2, o318_3, o318_4, o318_7, o318_8, o318_11, o318_22, o318_23, o93_0, o93_1, o93_2, o93_5, o93_6, o93_7, o93_8, o93_11, o93_12, o93_13, o93_32, o93_33, o93_34, o93_53, o93_54, o93_55, o93_58, o93_59, o93_62, o93_63, o93_66, o93_69, o223_0, o223_1, o223_2, o223_5, o223_12, o223_13, o223_14, o223_17, o223_18, o223_19, o223_26, o223_27, o223_30, o223_35, o223_36, o223_39, o223_40, o223_41, o223_42, o223_43, o223_44, o223_60, o223_61, o223_62, o223_78, o223_79, o223_89, o223_90, o223_91, o223_101, o223_102, o223_103, o223_106, o223_107, o223_110, o223_150, o223_151, o223_152, o223_155, o223_158, c_X8_isThrown_, c_X8_isLens, c_X5_checkChoice, c_lensOf_0, c_X3_rewind, c_X7_rewound, c_X0_done (cs := A 18), c_X8_done (cs := A 30), mc_pi, mc_pl, mn_pi, mn_pl, mi_pi, mi_pl, ml_pi, ml_pl, mr_pi, mr_pl, mz_pi, mz_pl, mcs_0, mcs_r, Kn_v, Kn_0, mrf_some, true_and, and_true, and_false, or_false, not_false_eq_true, implies_true, and_self, Nat.reduceEqDiff, Nat.reduceLeDiff, Nat.reduceSub, Nat.reduceAdd, Nat.zero_le, Nat.le_refl, i10, i01, lt_le, Int32.reduceLT, cl0, Kc_v, Sum.inl.injEq, Option.some.injEq, Value.int.injEq, exists_eq_left', Nat.reduceLT, hAe, i20, kc0, kc15, kc17, kc18, kc22, kc29, kc30, kc37, kc39, kn18, kn29, kn30, kr0_7, kr0_9, kr17_0, kr22_7, kr22_8, kr29_0, kz, be0, lne, lti, Int.reduceLT, or_self, or_false, o135_0, o135_1, o135_50, o135_51, o135_54, o135_75, cl0]
          (try simp only [ite_ar, implies_true, true_and, and_true, Classical.not_not])
          first | refine ⟨⟨?_, ?_, ?_, ?_, ?_, ?_, ?_, ?_, ?_, ?_, ?_, ?_⟩, rfl⟩ | refine ⟨?_, ?_, ?_, ?_, ?_, ?_, ?_, ?_, ?_, ?_, ?_, ?_⟩
          · (try simp only [K_pi, K_pl])
            exact vk
          · (try simp only [Cn_pi_j18 hA, Cn_pi_j22 hA, Cn_pi_j30 hA, Cn_pi_j15 hA, Cn_pi_j37 hA, Cn_pl])
            exact vcn
          · (try simp only [Vq0_pi_j18 hA, Vq0_pi_j22 hA, Vq0_pi_j30 hA, Vq0_pi_j15 hA, Vq0_pi_j37 hA, Vq0_pl])
            exact v0
          · (try simp only [Vq1_pi_j18 hA, Vq1_pi_j22 hA, Vq1_pi_j30 hA, Vq1_pi_j15 hA, Vq1_pi_j37 hA, Vq1_pl])
            exact v1
          · (try simp only [Vq2_pi_j18 hA, Vq2_pi_j22 hA, Vq2_pi_j30 hA, Vq2_pi_j15 hA, Vq2_pi_j37 hA, Vq2_pl])
            exact v2
          · (try simp only [Vp_pi_j18 hA, Vp_pi_j30 hA, Vp_pi_j15 hA, Vp_pi_j37 hA, Vp_thr hA, Vp_pl])
            exact vp
          · simp only [Vl0, mi_pi, mi_pl, hAe, Nat.reduceLT, Nat.reduceEqDiff, and_false, true_and, and_true, if_false, if_true, b1, b2, b3, b4, b5, b6, true_and, and_self]
            first | exact hq9 | exact ⟨⟨rfl, rfl, rfl, rfl, rfl, rfl⟩, hq9⟩ | (refine ⟨⟨?_, ?_, ?_, ?_, ?_, ?_⟩, hq9⟩ <;> first | rfl | trivial)
          · (try simp only [Vl1_pi_j18 hA, Vl1_pi_j22 hA, Vl1_pi_j30 hA, Vl1_pi_j15 hA, Vl1_pi_j37 hA, Vl1_pl])
            exact vl1
          · (try simp only [Vlr_pi_j18 hA, Vlr_pi_j22 hA, Vlr_pi_j30 hA, Vlr_pi_j15 hA, Vlr_pi_j37 hA, Vlr_pl_j39 hA])
            exact vlr
          · (try simp only [Vsr_pi_j18 hA, Vsr_pi_j22 hA, Vsr_pi_j30 hA, Vsr_pi_j15 hA, Vsr_pi_j37 hA, Vsr_pl_j39 hA])
            exact vsr
          · refine Vc_of (c := 0) vc (by decide) (fun k => ?_) (fun k => ?_) <;> simp only [mi_pi, mi_pl, hAe, Nat.reduceLT, Nat.reduceEqDiff, false_and, true_and, if_false]
          · (try simp only [Tx_pi_j18 hA, Tx_pi_j22 hA, Tx_pi_j30 hA, Tx_pi_j15 hA, Tx_pi_j37 hA, Tx_pl])
            exact tx
        · have hq9 := lnM ln
          simp only [↓ar_ite, ↓ar_ite2, ↓ar_ok, ↓reduceIte, o318_0, o318_1, o318_2, o318_3, o318_4, o318_7, o318_8, o318_11, o318_22, o318_23, o93_0, o93_1, o93_2, o93_5, o93_6, o93_7, o93_8, o93_11, o93_12, o93_13, o93_32, o93_33, o93_34, o93_53, o93_54, o93_55, o93_58, o93_59, o93_62, o93_63, o93_66, o93_69, o223_0, o223_1, o223_2, o223_5, o223_12, o223_13, o223_14, o223_17, o223_18, o223_19, o223_26, o223_27, o223_30, o223_35, o223_36, o223_39, o223_40, o223_41, o223_42, o223_43, o223_44, o223_60, o223_61, o223_62, o223_78, o223_79, o223_89, o223_90, o223_91, o223_101, o223_102, o223_103, o223_113, o223_114, o223_115, o223_118, o223_119, o223_120, o223_123, o223_126, o223_150, o223_151, o223_152, o223_155, o223_158, c_X8_isThrown_, c_X8_isLens, c_X5_checkChoice, c_lensOf_0, c_X3_setMark, c_X0_done (cs := A 18), c_X8_done (cs := A 30), mc_pi, mc_pl, mn_pi, mn_pl, mi_pi, mi_pl, ml_pi, ml_pl, mr_pi, mr_pl, mz_pi, mz_pl, mcs_0, mcs_r, Kn_v, Kn_0, mrf_some, kok_0, true_and, and_true, and_false, or_false, not_false_eq_true, implies_true, and_self, Nat.reduceEqDiff, Nat.reduceLeDiff, Nat.reduceSub, Nat.reduceAdd, Nat.zero_le, Nat.le_refl, i10, i01, lt_le, Int32.reduceLT, cl0, Kc_v, Sum.inl.injEq, Option.some.injEq, Value.int.injEq, exists_eq_left', Nat.reduceLT, hAe, i30, kc0, kc15, kc17, kc18, kc22, kc29, kc30, kc37, kc39, kn18, kn29, kn30, kr0_7, kr0_9, kr17_0, kr22_7, kr22_8, kr29_0, kz, be0, b4, lne, lti, Int.reduceLT, or_self, or_false, o135_0, o135_1, o135_57, o135_58, o135_61, o135_75, cl0]
          (try simp only [ite_ar, implies_true, true_and, and_true, Classical.not_not])
          first | refine ⟨⟨?_, ?_, ?_, ?_, ?_, ?_, ?_, ?_, ?_, ?_, ?_, ?_⟩, rfl⟩ | refine ⟨?_, ?_, ?_, ?_, ?_, ?_, ?_, ?_, ?_, ?_, ?_, ?_⟩
          · (try simp only [K_pi, K_pl])
            exact vk
          · (try simp only [Cn_pi_j18 hA, Cn_pi_j22 hA, Cn_pi_j30 hA, Cn_pi_j15 hA, Cn_pi_j37 hA, Cn_pl])
            exact vcn
          · (try simp only [Vq0_pi_j18 hA, Vq0_pi_j22 hA, Vq0_pi_j30 hA, Vq0_pi_j15 hA, Vq0_pi_j37 hA, Vq0_pl])
            exact v0
          · (try simp only [Vq1_pi_j18 hA, Vq1_pi_j22 hA, Vq1_pi_j30 hA, Vq1_pi_j15 hA, Vq1_pi_j37 hA, Vq1_pl])
            exact v1
          · (try simp only [Vq2_pi_j18 hA, Vq2_pi_j22 hA, Vq2_pi_j30 hA, Vq2_pi_j15 hA, Vq2_pi_j37 hA, Vq2_pl])
            exact v2
          · (try simp only [Vp_pi_j18 hA, Vp_pi_j30 hA, Vp_pi_j15 hA, Vp_pi_j37 hA, Vp_thr hA, Vp_pl])
            exact vp
          · simp only [Vl0, mi_pi, mi_pl, hAe, Nat.reduceLT, Nat.reduceEqDiff, and_false, true_and, and_true, if_false, if_true, b1, b2, b3, b4, b5, b6, true_and, and_self]
            first | exact hq9 | exact ⟨⟨rfl, rfl, rfl, rfl, rfl, rfl⟩, hq9⟩ | (refine ⟨⟨?_, ?_, ?_, ?_, ?_, ?_⟩, hq9⟩ <;> first | rfl | trivial)
          · (try simp only [Vl1_pi_j18 hA, Vl1_pi_j22 hA, Vl1_pi_j30 hA, Vl1_pi_j15 hA, Vl1_pi_j37 hA, Vl1_pl])
            exact vl1
          · (try simp only [Vlr_pi_j18 hA, Vlr_pi_j22 hA, Vlr_pi_j30 hA, Vlr_pi_j15 hA, Vlr_pi_j37 hA, Vlr_pl_j39 hA])
            exact vlr
          · (try simp only [Vsr_pi_j18 hA, Vsr_pi_j22 hA, Vsr_pi_j30 hA, Vsr_pi_j15 hA, Vsr_pi_j37 hA, Vsr_pl_j39 hA])
            exact vsr
          · refine Vc_of (c := 0) vc (by decide) (fun k => ?_) (fun k => ?_) <;> simp only [mi_pi, mi_pl, hAe, Nat.reduceLT, Nat.reduceEqDiff, false_and, true_and, if_false]
          · (try simp only [Tx_pi_j18 hA, Tx_pi_j22 hA, Tx_pi_j30 hA, Tx_pi_j15 hA, Tx_pi_j37 hA, Tx_pl])
            exact tx
        · rcases lnMk ln with ⟨m1, m2⟩ | ⟨m1, m2⟩
          · skip
            simp only [↓ar_ite, ↓ar_ite2, ↓reduceIte, o318_0, o318_1, o318_2, o318_3, o318_4, o318_7, o318_8, o318_11, o318_22, o318_23, o93_0, o93_1, o93_2, o93_5, o93_6, o93_7, o93_8, o93_11, o93_12, o93_13, o93_16, o93_17, o93_20, o93_23, o93_24, o93_27, o93_28, o93_31, o223_0, o223_1, o223_2, o223_5, o223_12, o223_13, o223_14, o223_17, o223_18, o223_19, o223_26, o223_27, o223_30, o223_35, o223_36, o223_39, o223_40, o223_41, o223_42, o223_43, o223_44, o223_47, o223_48, o223_51, o223_54, o223_55, o223_56, o223_59, c_X8_isThrown_, c_X8_isLens, c_X5_checkChoice, c_X3_hasMark, c_lensOf_0, c_ref_3 (cs := A 18), c_X8_no (cs := A 30), mc_pi, mc_pl, mn_pi, mn_pl, mi_pi, mi_pl, ml_pi, ml_pl, mr_pi, mr_pl, mz_pi, mz_pl, mcs_0, mcs_r, Kn_v, Kn_0, mrf_some, true_and, and_true, or_false, not_true_eq_false, not_false_eq_true, implies_true, and_self, Nat.reduceEqDiff, Nat.reduceLeDiff, Nat.reduceSub, Nat.reduceAdd, Nat.zero_le, Nat.le_refl, i10, i01, lt_le, Int32.reduceLT, Int32.reduceSub, cl0, cl3, Kc_v, Sum.inl.injEq, Option.some.injEq, Value.int.injEq, exists_eq_left', Nat.reduceLT, hAe, kc0, kc15, kc17, kc18, kc22, kc29, kc30, kc37, kc39, kn18, kn29, kn30, kr0_7, kr0_9, kr17_0, kr22_7, kr22_8, kr29_0, kz, be0, b6, or_self, or_false, cl0, m2, m1z, v18, cl3]
            (try simp only [ite_ar, implies_true, true_and, and_true, Classical.not_not])
            first | refine ⟨⟨?_, ?_, ?_, ?_, ?_, ?_, ?_, ?_, ?_, ?_, ?_, ?_⟩, rfl⟩ | refine ⟨?_, ?_, ?_, ?_, ?_, ?_, ?_, ?_, ?_, ?_, ?_, ?_⟩
            · (try simp only [K_pi, K_pl])
              exact vk
            · (try simp only [Cn_pi_j18 hA, Cn_pi_j22 hA, Cn_pi_j30 hA, Cn_pl])
              exact vcn
            · (try simp only [Vq0_pi_j18 hA, Vq0_pi_j22 hA, Vq0_pi_j30 hA, Vq0_pl])
              exact v0
            · (try simp only [Vq1_pi_j18 hA, Vq1_pi_j22 hA, Vq1_pi_j30 hA, Vq1_pl])
              exact v1
            · (try simp only [Vq2_pi_j18 hA, Vq2_pi_j22 hA, Vq2_pi_j30 hA, Vq2_pl])
              exact v2
            · (try simp only [Vp_pi_j18 hA, Vp_pi_j30 hA, Vp_thr hA, Vp_pl])
              exact vp
            · (try simp only [Vl0_pi_j18 hA, Vl0_pi_j22 hA, Vl0_pi_j30 hA, Vl0_pl])
              exact vl0
            · (try simp only [Vl1_pi_j18 hA, Vl1_pi_j22 hA, Vl1_pi_j30 hA, Vl1_pl])
              exact vl1
            · (try simp only [Vlr_pi_j18 hA, Vlr_pi_j22 hA, Vlr_pi_j30 hA, Vlr_pl_j39 hA])
              exact vlr
            · (try simp only [Vsr_pi_j18 hA, Vsr_pi_j22 hA, Vsr_pi_j30 hA, Vsr_pl_j39 hA])
              exact vsr
            · refine Vc_of (c := 3) vc (by decide) (fun k => ?_) (fun k => ?_) <;> simp only [mi_pi, mi_pl, hAe, Nat.reduceLT, Nat.reduceEqDiff, false_and, true_and, if_false]
            · (try simp only [Tx_pi_j18 hA, Tx_pi_j22 hA, Tx_pi_j30 hA, Tx_pl])
              exact tx
          · have hq9 := lnB ln m1
            simp only [↓ar_ite, ↓ar_ite2, ↓ar_ok, ↓reduceIte, o318_0, o318_1, o318_2, o318_3, o318_4, o318_7, o318_8, o318_11, o318_22, o318_23, o93_0, o93_1, o93_2, o93_5, o93_6, o93_7, o93_8, o93_11, o93_12, o93_13, o93_16, o93_17, o93_20, o93_32, o93_33, o93_34, o93_53, o93_54, o93_55, o93_58, o93_59, o93_62, o93_63, o93_66, o93_69, o223_0, o223_1, o223_2, o223_5, o223_12, o223_13, o223_14, o223_17, o223_18, o223_19, o223_26, o223_27, o223_30, o223_35, o223_36, o223_39, o223_40, o223_41, o223_42, o223_43, o223_44, o223_47, o223_48, o223_51, o223_60, o223_61, o223_62, o223_78, o223_79, o223_89, o223_90, o223_91, o223_101, o223_102, o223_103, o223_113, o223_114, o223_115, o223_129, o223_130, o223_131, o223_134, o223_135, o223_136, o223_139, o223_142, o223_150, o223_151, o223_152, o223_155, o223_158, c_X8_isThrown_, c_X8_isLens, c_X5_checkChoice, c_X3_hasMark, c_lensOf_0, c_X3_setBack, c_X0_done (cs := A 18), c_X8_done (cs := A 30), mc_pi, mc_pl, mn_pi, mn_pl, mi_pi, mi_pl, ml_pi, ml_pl, mr_pi, mr_pl, mz_pi, mz_pl, mcs_0, mcs_r, Kn_v, Kn_0, mrf_some, kok_0, true_and, and_true, or_false, not_false_eq_true, implies_true, and_self, Nat.reduceEqDiff, Nat.reduceLeDiff, Nat.reduceSub, Nat.reduceAdd, Nat.zero_le, Nat.le_refl, i10, i01, lt_le, Int32.reduceLT, cl0, Kc_v, Sum.inl.injEq, Option.some.injEq, Value.int.injEq, exists_eq_left', Nat.reduceLT, hAe, kc0, kc15, kc17, kc18, kc22, kc29, kc30, kc37, kc39, kn18, kn29, kn30, kr0_7, kr0_9, kr17_0, kr22_7, kr22_8, kr29_0, kz, be0, b6, lne, lti, Int.reduceLT, or_self, or_false, o135_0, o135_1, o135_64, o135_65, o135_68, o135_75, cl0, m1, m2]
            (try simp only [ite_ar, implies_true, true_and, and_true, Classical.not_not])
            first | refine ⟨⟨?_, ?_, ?_, ?_, ?_, ?_, ?_, ?_, ?_, ?_, ?_, ?_⟩, rfl⟩ | refine ⟨?_, ?_, ?_, ?_, ?_, ?_, ?_, ?_, ?_, ?_, ?_, ?_⟩
            · (try simp only [K_pi, K_pl])
              exact vk
            · (try simp only [Cn_pi_j18 hA, Cn_pi_j22 hA, Cn_pi_j30 hA, Cn_pi_j15 hA, Cn_pi_j37 hA, Cn_pl])
              exact vcn
            · (try simp only [Vq0_pi_j18 hA, Vq0_pi_j22 hA, Vq0_pi_j30 hA, Vq0_pi_j15 hA, Vq0_pi_j37 hA, Vq0_pl])
              exact v0
            · (try simp only [Vq1_pi_j18 hA, Vq1_pi_j22 hA, Vq1_pi_j30 hA, Vq1_pi_j15 hA, Vq1_pi_j37 hA, Vq1_pl])
              exact v1
            · (try simp only [Vq2_pi_j18 hA, Vq2_pi_j22 hA, Vq2_pi_j30 hA, Vq2_pi_j15 hA, Vq2_pi_j37 hA, Vq2_pl])
              exact v2
            · (try simp only [Vp_pi_j18 hA, Vp_pi_j30 hA, Vp_pi_j15 hA, Vp_pi_j37 hA, Vp_thr hA, Vp_pl])
              exact vp
            · simp only [Vl0, mi_pi, mi_pl, hAe, Nat.reduceLT, Nat.reduceEqDiff, and_false, true_and, and_true, if_false, if_true, b1, b2, b3, b4, b5, b6, true_and, and_self]
              first | exact hq9 | exact ⟨⟨rfl, rfl, rfl, rfl, rfl, rfl⟩, hq9⟩ | (refine ⟨⟨?_, ?_, ?_, ?_, ?_, ?_⟩, hq9⟩ <;> first | rfl | trivial)
            · (try simp only [Vl1_pi_j18 hA, Vl1_pi_j22 hA, Vl1_pi_j30 hA, Vl1_pi_j15 hA, Vl1_pi_j37 hA, Vl1_pl])
              exact vl1
            · (try simp only [Vlr_pi_j18 hA, Vlr_pi_j22 hA, Vlr_pi_j30 hA, Vlr_pi_j15 hA, Vlr_pi_j37 hA, Vlr_pl_j39 hA])
              exact vlr
            · (try simp only [Vsr_pi_j18 hA, Vsr_pi_j22 hA, Vsr_pi_j30 hA, Vsr_pi_j15 hA, Vsr_pi_j37 hA, Vsr_pl_j39 hA])
              exact vsr
            · refine Vc_of (c := 0) vc (by decide) (fun k => ?_) (fun k => ?_) <;> simp only [mi_pi, mi_pl, hAe, Nat.reduceLT, Nat.reduceEqDiff, false_and, true_and, if_false]
            · (try simp only [Tx_pi_j18 hA, Tx_pi_j22 hA, Tx_pi_j30 hA, Tx_pi_j15 hA, Tx_pi_j37 hA, Tx_pl])
              exact tx
        · have s0 := ln.2.2.2.2.1 rfl
          simp only [↓ar_ite, ↓ar_ite2, ↓reduceIte, o318_0, o318_1, o318_2, o318_3, o318_4, o318_7, o318_8, o318_11, o318_22, o318_23, o93_0, o93_1, o93_2, o93_5, o93_6, o93_7, o93_8, o93_11, o93_12, o93_13, o93_32, o93_33, o93_34, o93_37, o93_38, o93_41, o93_44, o93_45, o93_48, o93_49, o93_52, o223_0, o223_1, o223_2, o223_5, o223_12, o223_13, o223_14, o223_17, o223_18, o223_19, o223_26, o223_27, o223_30, o223_35, o223_36, o223_39, o223_40, o223_41, o223_42, o223_43, o223_44, o223_60, o223_61, o223_62, o223_65, o223_66, o223_69, o223_72, o223_73, o223_74, o223_77, c_X8_isThrown_, c_X8_isLens, c_X5_checkChoice, c_lensOf_0, c_ref_4 (cs := A 18), c_X8_no (cs := A 30), mc_pi, mc_pl, mn_pi, mn_pl, mi_pi, mi_pl, ml_pi, ml_pl, mr_pi, mr_pl, mz_pi, mz_pl, mcs_0, mcs_r, Kn_v, Kn_0, mrf_some, true_and, and_true, or_false, not_false_eq_true, implies_true, and_self, Nat.reduceEqDiff, Nat.reduceLeDiff, Nat.reduceSub, Nat.reduceAdd, Nat.zero_le, Nat.le_refl, i10, i01, lt_le, Int32.reduceLT, Int32.reduceSub, cl0, cl4, Kc_v, Sum.inl.injEq, Option.some.injEq, Value.int.injEq, exists_eq_left', Nat.reduceLT, hAe, kc0, kc15, kc17, kc18, kc22, kc29, kc30, kc37, kc39, kn18, kn29, kn30, kr0_7, kr0_9, kr17_0, kr22_7, kr22_8, kr29_0, kz, be0, b3, lne, or_self, or_false, cl0, s0, v18, cl4]
          (try simp only [ite_ar, implies_true, true_and, and_true, Classical.not_not])
          first | refine ⟨⟨?_, ?_, ?_, ?_, ?_, ?_, ?_, ?_, ?_, ?_, ?_, ?_⟩, rfl⟩ | refine ⟨?_, ?_, ?_, ?_, ?_, ?_, ?_, ?_, ?_, ?_, ?_, ?_⟩
          · (try simp only [K_pi, K_pl])
            exact vk
          · (try simp only [Cn_pi_j18 hA, Cn_pi_j22 hA, Cn_pi_j30 hA, Cn_pl])
            exact vcn
          · (try simp only [Vq0_pi_j18 hA, Vq0_pi_j22 hA, Vq0_pi_j30 hA, Vq0_pl])
            exact v0
          · (try simp only [Vq1_pi_j18 hA, Vq1_pi_j22 hA, Vq1_pi_j30 hA, Vq1_pl])
            exact v1
          · (try simp only [Vq2_pi_j18 hA, Vq2_pi_j22 hA, Vq2_pi_j30 hA, Vq2_pl])
            exact v2
          · (try simp only [Vp_pi_j18 hA, Vp_pi_j30 hA, Vp_thr hA, Vp_pl])
            exact vp
          · (try simp only [Vl0_pi_j18 hA, Vl0_pi_j22 hA, Vl0_pi_j30 hA, Vl0_pl])
            exact vl0
          · (try simp only [Vl1_pi_j18 hA, Vl1_pi_j22 hA, Vl1_pi_j30 hA, Vl1_pl])
            exact vl1
          · (try simp only [Vlr_pi_j18 hA, Vlr_pi_j22 hA, Vlr_pi_j30 hA, Vlr_pl_j39 hA])
            exact vlr
          · (try simp only [Vsr_pi_j18 hA, Vsr_pi_j22 hA, Vsr_pi_j30 hA, Vsr_pl_j39 hA])
            exact vsr
          · refine Vc_of (c := 4) vc (by decide) (fun k => ?_) (fun k => ?_) <;> simp only [mi_pi, mi_pl, hAe, Nat.reduceLT, Nat.reduceEqDiff, false_and, true_and, if_false]
          · (try simp only [Tx_pi_j18 hA, Tx_pi_j22 hA, Tx_pi_j30 hA, Tx_pl])
            exact tx
        · exact absurd (show (5 : Int32) < 6 by decide) bx9
        · exact absurd (show (5 : Int32) < 7 by decide) bx9
        · exact absurd (show (5 : Int32) < 8 by decide) bx9
      · have hl2 := vl1
        obtain ⟨⟨b1, b2, b3, b4, b5, b6⟩, ln⟩ := hl2
        replace b1 := b1.symm
        replace b2 := b2.symm
        replace b3 := b3.symm
        replace b4 := b4.symm
        replace b5 := b5.symm
        replace b6 := b6.symm
        rw [b1, b2, b3, b4, b5, b6] at ln
        rcases x_cases bx0 (x_le bx9 (by decide)) with rfl | rfl | rfl | rfl | rfl | rfl | rfl | rfl | rfl
        · have hq9 := lnC ln
          simp only [↓ar_ite, ↓ar_ite2, ↓ar_ok, ↓reduceIte, o318_0, o318_1, o318_2, o318_3, o318_4, o318_7, o318_8, o318_11, o318_22, o318_23, o93_0, o93_1, o93_2, o93_5, o93_6, o93_7, o93_8, o93_11, o93_12, o93_13, o93_32, o93_33, o93_34, o93_53, o93_54, o93_55, o93_58, o93_59, o93_62, o93_63, o93_66, o93_69, o223_0, o223_1, o223_2, o223_5, o223_12, o223_13, o223_14, o223_17, o223_18, o223_19, o223_26, o223_27, o223_30, o223_35, o223_36, o223_39, o223_40, o223_41, o223_42, o223_43, o223_44, o223_60, o223_61, o223_62, o223_78, o223_79, o223_82, o223_83, o223_86, o223_150, o223_151, o223_152, o223_155, o223_158, c_X8_isThrown_, c_X8_isLens, c_X5_checkChoice, c_lensOf_1, c_X3_clear, c_X7_cleared, c_X0_done (cs := A 18), c_X8_done (cs := A 30), mc_pi, mc_pl, mn_pi, mn_pl, mi_pi, mi_pl, ml_pi, ml_pl, mr_pi, mr_pl, mz_pi, mz_pl, mcs_0, mcs_r, Kn_v, Kn_0, mrf_some, true_and, and_true, and_false, or_true, not_false_eq_true, implies_true, and_self, Nat.reduceEqDiff, Nat.reduceLeDiff, Nat.reduceSub, Nat.reduceAdd, Nat.zero_le, Nat.le_refl, i10, i01, lt_le, Int32.reduceLT, cl1, Kc_v, Sum.inl.injEq, Option.some.injEq, Value.int.injEq, exists_eq_left', Nat.reduceLT, hAe, kc0, kc16, kc17, kc18, kc22, kc29, kc30, kc38, kc39, kn18, kn29, kn30, kr0_8, kr0_9, kr17_0, kr22_7, kr22_8, kr29_1, kz, be0, b2, lne, lti, Int.reduceLT, or_self, o135_0, o135_1, o135_36, o135_37, o135_40, o135_75, cl1]
          (try simp only [ite_ar, implies_true, true_and, and_true, Classical.not_not])
          first | refine ⟨⟨?_, ?_, ?_, ?_, ?_, ?_, ?_, ?_, ?_, ?_, ?_, ?_⟩, rfl⟩ | refine ⟨?_, ?_, ?_, ?_, ?_, ?_, ?_, ?_, ?_, ?_, ?_, ?_⟩
          · (try simp only [K_pi, K_pl])
            exact vk
          · (try simp only [Cn_pi_j18 hA, Cn_pi_j22 hA, Cn_pi_j30 hA, Cn_pi_j16 hA, Cn_pi_j38 hA, Cn_pl])
            exact vcn
          · (try simp only [Vq0_pi_j18 hA, Vq0_pi_j22 hA, Vq0_pi_j30 hA, Vq0_pi_j16 hA, Vq0_pi_j38 hA, Vq0_pl])
            exact v0
          · (try simp only [Vq1_pi_j18 hA, Vq1_pi_j22 hA, Vq1_pi_j30 hA, Vq1_pi_j16 hA, Vq1_pi_j38 hA, Vq1_pl])
            exact v1
          · (try simp only [Vq2_pi_j18 hA, Vq2_pi_j22 hA, Vq2_pi_j30 hA, Vq2_pi_j16 hA, Vq2_pi_j38 hA, Vq2_pl])
            exact v2
          · (try simp only [Vp_pi_j18 hA, Vp_pi_j30 hA, Vp_pi_j16 hA, Vp_pi_j38 hA, Vp_thr hA, Vp_pl])
            exact vp
          · (try simp only [Vl0_pi_j18 hA, Vl0_pi_j22 hA, Vl0_pi_j30 hA, Vl0_pi_j16 hA, Vl0_pi_j38 hA, Vl0_pl])
            exact vl0
          · simp only [Vl1, mi_pi, mi_pl, hAe, Nat.reduceLT, Nat.reduceEqDiff, and_false, true_and, and_true, if_false, if_true, b1, b2, b3, b4, b5, b6, true_and, and_self]
            first | exact hq9 | exact ⟨⟨rfl, rfl, rfl, rfl, rfl, rfl⟩, hq9⟩ | (refine ⟨⟨?_, ?_, ?_, ?_, ?_, ?_⟩, hq9⟩ <;> first | rfl | trivial)
          · (try simp only [Vlr_pi_j18 hA, Vlr_pi_j22 hA, Vlr_pi_j30 hA, Vlr_pi_j16 hA, Vlr_pi_j38 hA, Vlr_pl_j39 hA])
            exact vlr
          · (try simp only [Vsr_pi_j18 hA, Vsr_pi_j22 hA, Vsr_pi_j30 hA, Vsr_pi_j16 hA, Vsr_pi_j38 hA, Vsr_pl_j39 hA])
            exact vsr
          · refine Vc_of (c := 0) vc (by decide) (fun k => ?_) (fun k => ?_) <;> simp only [mi_pi, mi_pl, hAe, Nat.reduceLT, Nat.reduceEqDiff, false_and, true_and, if_false]
          · (try simp only [Tx_pi_j18 hA, Tx_pi_j22 hA, Tx_pi_j30 hA, Tx_pi_j16 hA, Tx_pi_j38 hA, Tx_pl])
            exact tx
        · have hq9 := lnFl ln
          simp only [↓ar_ite, ↓ar_ite2, ↓ar_ok, ↓reduceIte, o318_0, o318_1, o318_2, o318_3, o318_4, o318_7, o318_8, o318_11, o318_22, o318_23, o93_0, o93_1, o93_2, o93_5, o93_6, o93_7, o93_8, o93_11, o93_12, o93_13, o93_32, o93_33, o93_34, o93_53, o93_54, o93_55, o93_58, o93_59, o93_62, o93_63, o93_66, o93_69, o223_0, o223_1, o223_2, o223_5, o223_12, o223_13, o223_14, o223_17, o223_18, o223_19, o223_26, o223_27, o223_30, o223_35, o223_36, o223_39, o223_40, o223_41, o223_42, o223_43, o223_44, o223_60, o223_61, o223_62, o223_78, o223_79, o223_89, o223_90, o223_91, o223_94, o223_95, o223_98, o223_150, o223_151, o223_152, o223_155, o223_158, c_X8_isThrown_, c_X8_isLens, c_X5_checkChoice, c_lensOf_1, c_X3_flip, c_X7_flipped, c_X0_done (cs := A 18), c_X8_done (cs := A 30), mc_pi, mc_pl, mn_pi, mn_pl, mi_pi, mi_pl, ml_pi, ml_pl, mr_pi, mr_pl, mz_pi, mz_pl, mcs_0, mcs_r, Kn_v, Kn_0, mrf_some, true_and, and_true, and_false, or_true, not_false_eq_true, implies_true, and_self, Nat.reduceEqDiff, Nat.reduceLeDiff, Nat.reduceSub, Nat.reduceAdd, Nat.zero_le, Nat.le_refl, i10, lt_le, Int32.reduceLT, cl1, Kc_v, Sum.inl.injEq, Option.some.injEq, Value.int.injEq, exists_eq_left', Nat.reduceLT, hAe, kc0, kc16, kc17, kc18, kc22, kc29, kc30, kc38, kc39, kn18, kn29, kn30, kr0_8, kr0_9, kr17_0, kr22_7, kr22_8, kr29_1, kz, be0, b4, lne, lti, Int.reduceLT, or_self, o135_0, o135_1, o135_43, o135_44, o135_47, o135_75, cl1]
          (try simp only [ite_ar, implies_true, true_and, and_true, Classical.not_not])
          first | refine ⟨⟨?_, ?_, ?_, ?_, ?_, ?_, ?_, ?_, ?_, ?_, ?_, ?_⟩, rfl⟩ | refine ⟨?_, ?_, ?_, ?_, ?_, ?_, ?_, ?_, ?_, ?_, ?_, ?_⟩
          · (try simp only [K_pi, K_pl])
            exact vk
          · (try simp only [Cn_pi_j18 hA, Cn_pi_j22 hA, Cn_pi_j30 hA, Cn_pi_j16 hA, Cn_pi_j38 hA, Cn_pl])
            exact vcn
          · (try simp only [Vq0_pi_j18 hA, Vq0_pi_j22 hA, Vq0_pi_j30 hA, Vq0_pi_j16 hA, Vq0_pi_j38 hA, Vq0_pl])
            exact v0
          · (try simp only [Vq1_pi_j18 hA, Vq1_pi_j22 hA, Vq1_pi_j30 hA, Vq1_pi_j16 hA, Vq1_pi_j38 hA, Vq1_pl])
            exact v1
          · (try simp only [Vq2_pi_j18 hA, Vq2_pi_j22 hA, Vq2_pi_j30 hA, Vq2_pi_j16 hA, Vq2_pi_j38 hA, Vq2_pl])
            exact v2
          · (try simp only [Vp_pi_j18 hA, Vp_pi_j30 hA, Vp_pi_j16 hA, Vp_pi_j38 hA, Vp_thr hA, Vp_pl])
            exact vp
          · (try simp only [Vl0_pi_j18 hA, Vl0_pi_j22 hA, Vl0_pi_j30 hA, Vl0_pi_j16 hA, Vl0_pi_j38 hA, Vl0_pl])
            exact vl0
          · simp only [Vl1, mi_pi, mi_pl, hAe, Nat.reduceLT, Nat.reduceEqDiff, and_false, true_and, and_true, if_false, if_true, b1, b2, b3, b4, b5, b6, true_and, and_self]
            first | exact hq9 | exact ⟨⟨rfl, rfl, rfl, rfl, rfl, rfl⟩, hq9⟩ | (refine ⟨⟨?_, ?_, ?_, ?_, ?_, ?_⟩, hq9⟩ <;> first | rfl | trivial)
          · (try simp only [Vlr_pi_j18 hA, Vlr_pi_j22 hA, Vlr_pi_j30 hA, Vlr_pi_j16 hA, Vlr_pi_j38 hA, Vlr_pl_j39 hA])
            exact vlr
          · (try simp only [Vsr_pi_j18 hA, Vsr_pi_j22 hA, Vsr_pi_j30 hA, Vsr_pi_j16 hA, Vsr_pi_j38 hA, Vsr_pl_j39 hA])
            exact vsr
          · refine Vc_of (c := 0) vc (by decide) (fun k => ?_) (fun k => ?_) <;> simp only [mi_pi, mi_pl, hAe, Nat.reduceLT, Nat.reduceEqDiff, false_and, true_and, if_false]
          · (try simp only [Tx_pi_j18 hA, Tx_pi_j22 hA, Tx_pi_j30 hA, Tx_pi_j16 hA, Tx_pi_j38 hA, Tx_pl])
            exact tx
        · have hq9 := lnR ln
          simp only [↓ar_ite, ↓ar_ite2, ↓ar_ok, ↓reduceIte, o318_0, o318_1, o318_2, o318_3, o318_4, o318_7, o318_8, o318_11, o318_22, o318_23, o93_0, o93_1, o93_2, o93_5, o93_6, o93_7, o93_8, o93_11, o93_12, o93_13, o93_32, o93_33, o93_34, o93_53, o93_54, o93_55, o93_58, o93_59, o93_62, o93_63, o93_66, o93_69, o223_0, o223_1, o223_2, o223_5, o223_12, o223_13, o223_14, o223_17, o223_18, o223_19, o223_26, o223_27, o223_30, o223_35, o223_36, o223_39, o223_40, o223_41, o223_42, o223_43, o223_44, o223_60, o223_61, o223_62, o223_78, o223_79, o223_89, o223_90, o223_91, o223_101, o223_102, o223_103, o223_106, o223_107, o223_110, o223_150, o223_151, o223_152, o223_155, o223_158, c_X8_isThrown_, c_X8_isLens, c_X5_checkChoice, c_lensOf_1, c_X3_rewind, c_X7_rewound, c_X0_done (cs := A 18), c_X8_done (cs := A 30), mc_pi, mc_pl, mn_pi, mn_pl, mi_pi, mi_pl, ml_pi, ml_pl, mr_pi, mr_pl, mz_pi, mz_pl, mcs_0, mcs_r, Kn_v, Kn_0, mrf_some, true_and, and_true, and_false, or_true, not_false_eq_true, implies_true, and_self, Nat.reduceEqDiff, Nat.reduceLeDiff, Nat.reduceSub, Nat.reduceAdd, Nat.zero_le, Nat.le_refl, i10, lt_le, Int32.reduceLT, cl1, Kc_v, Sum.inl.injEq, Option.some.injEq, Value.int.injEq, exists_eq_left', Nat.reduceLT, hAe, i20, kc0, kc16, kc17, kc18, kc22, kc29, kc30, kc38, kc39, kn18, kn29, kn30, kr0_8, kr0_9, kr17_0, kr22_7, kr22_8, kr29_1, kz, be0, lne, lti, Int.reduceLT, or_self, o135_0, o135_1, o135_50, o135_51, o135_54, o135_75, cl1]
          (try simp only [ite_ar, implies_true, true_and, and_true, Classical.not_not])
          first | refine ⟨⟨?_, ?_, ?_, ?_, ?_, ?_, ?_, ?_, ?_, ?_, ?_, ?_⟩, rfl⟩ | refine ⟨?_, ?_, ?_, ?_, ?_, ?_, ?_, ?_, ?_, ?_, ?_, ?_⟩
          · (try simp only [K_pi, K_pl])
            exact vk
          · (try simp only [Cn_pi_j18 hA, Cn_pi_j22 hA, Cn_pi_j30 hA, Cn_pi_j16 hA, Cn_pi_j38 hA, Cn_pl])
            exact vcn
          · (try simp only [Vq0_pi_j18 hA, Vq0_pi_j22 hA, Vq0_pi_j30 hA, Vq0_pi_j16 hA, Vq0_pi_j38 hA, Vq0_pl])
            exact v0
          · (try simp only [Vq1_pi_j18 hA, Vq1_pi_j22 hA, Vq1_pi_j30 hA, Vq1_pi_j16 hA, Vq1_pi_j38 hA, Vq1_pl])
            exact v1
          · (try simp only [Vq2_pi_j18 hA, Vq2_pi_j22 hA, Vq2_pi_j30 hA, Vq2_pi_j16 hA, Vq2_pi_j38 hA, Vq2_pl])
            exact v2
          · (try simp only [Vp_pi_j18 hA, Vp_pi_j30 hA, Vp_pi_j16 hA, Vp_pi_j38 hA, Vp_thr hA, Vp_pl])
            exact vp
          · (try simp only [Vl0_pi_j18 hA, Vl0_pi_j22 hA, Vl0_pi_j30 hA, Vl0_pi_j16 hA, Vl0_pi_j38 hA, Vl0_pl])
            exact vl0
          · simp only [Vl1, mi_pi, mi_pl, hAe, Nat.reduceLT, Nat.reduceEqDiff, and_false, true_and, and_true, if_false, if_true, b1, b2, b3, b4, b5, b6, true_and, and_self]
            first | exact hq9 | exact ⟨⟨rfl, rfl, rfl, rfl, rfl, rfl⟩, hq9⟩ | (refine ⟨⟨?_, ?_, ?_, ?_, ?_, ?_⟩, hq9⟩ <;> first | rfl | trivial)
          · (try simp only [Vlr_pi_j18 hA, Vlr_pi_j22 hA, Vlr_pi_j30 hA, Vlr_pi_j16 hA, Vlr_pi_j38 hA, Vlr_pl_j39 hA])
            exact vlr
          · (try simp only [Vsr_pi_j18 hA, Vsr_pi_j22 hA, Vsr_pi_j30 hA, Vsr_pi_j16 hA, Vsr_pi_j38 hA, Vsr_pl_j39 hA])
            exact vsr
          · refine Vc_of (c := 0) vc (by decide) (fun k => ?_) (fun k => ?_) <;> simp only [mi_pi, mi_pl, hAe, Nat.reduceLT, Nat.reduceEqDiff, false_and, true_and, if_false]
          · (try simp only [Tx_pi_j18 hA, Tx_pi_j22 hA, Tx_pi_j30 hA, Tx_pi_j16 hA, Tx_pi_j38 hA, Tx_pl])
            exact tx
        · have hq9 := lnM ln
          simp only [↓ar_ite, ↓ar_ite2, ↓ar_ok, ↓reduceIte, o318_0, o318_1, o318_2, o318_3, o318_4, o318_7, o318_8, o318_11, o318_22, o318_23, o93_0, o93_1, o93_2, o93_5, o93_6, o93_7, o93_8, o93_11, o93_12, o93_13, o93_32, o93_33, o93_34, o93_53, o93_54, o93_55, o93_58, o93_59, o93_62, o93_63, o93_66, o93_69, o223_0, o223_1, o223_2, o223_5, o223_12, o223_13, o223_14, o223_17, o223_18, o223_19, o223_26, o223_27, o223_30, o223_35, o223_36, o223_39, o223_40, o223_41, o223_42, o223_43, o223_44, o223_60, o223_61, o223_62, o223_78, o223_79, o223_89, o223_90, o223_91, o223_101, o223_102, o223_103, o223_113, o223_114, o223_115, o223_118, o223_119, o223_120, o223_123, o223_126, o223_150, o223_151, o223_152, o223_155, o223_158, c_X8_isThrown_, c_X8_isLens, c_X5_checkChoice, c_lensOf_1, c_X3_setMark, c_X0_done (cs := A 18), c_X8_done (cs := A 30), mc_pi, mc_pl, mn_pi, mn_pl, mi_pi, mi_pl, ml_pi, ml_pl, mr_pi, mr_pl, mz_pi, mz_pl, mcs_0, mcs_r, Kn_v, Kn_0, mrf_some, kok_0, true_and, and_true, and_false, or_true, not_false_eq_true, implies_true, and_self, Nat.reduceEqDiff, Nat.reduceLeDiff, Nat.reduceSub, Nat.reduceAdd, Nat.zero_le, Nat.le_refl, i10, lt_le, Int32.reduceLT, cl1, Kc_v, Sum.inl.injEq, Option.some.injEq, Value.int.injEq, exists_eq_left', Nat.reduceLT, hAe, i30, kc0, kc16, kc17, kc18, kc22, kc29, kc30, kc38, kc39, kn18, kn29, kn30, kr0_8, kr0_9, kr17_0, kr22_7, kr22_8, kr29_1, kz, be0, b4, lne, lti, Int.reduceLT, or_self, o135_0, o135_1, o135_57, o135_58, o135_61, o135_75, cl1]
          (try simp only [ite_ar, implies_true, true_and, and_true, Classical.not_not])
          first | refine ⟨⟨?_, ?_, ?_, ?_, ?_, ?_, ?_, ?_, ?_, ?_, ?_, ?_⟩, rfl⟩ | refine ⟨?_, ?_, ?_, ?_, ?_, ?_, ?_, ?_, ?_, ?_, ?_, ?_⟩
          · (try simp only [K_pi, K_pl])
            exact vk
          · (try simp only [Cn_pi_j18 hA, Cn_pi_j22 hA, Cn_pi_j30 hA, Cn_pi_j16 hA, Cn_pi_j38 hA, Cn_pl])
            exact vcn
          · (try simp only [Vq0_pi_j18 hA, Vq0_pi_j22 hA, Vq0_pi_j30 hA, Vq0_pi_j16 hA, Vq0_pi_j38 hA, Vq0_pl])
            exact v0
          · (try simp only [Vq1_pi_j18 hA, Vq1_pi_j22 hA, Vq1_pi_j30 hA, Vq1_pi_j16 hA, Vq1_pi_j38 hA, Vq1_pl])
            exact v1
          · (try simp only [Vq2_pi_j18 hA, Vq2_pi_j22 hA, Vq2_pi_j30 hA, Vq2_pi_j16 hA, Vq2_pi_j38 hA, Vq2_pl])
            exact v2
          · (try simp only [Vp_pi_j18 hA, Vp_pi_j30 hA, Vp_pi_j16 hA, Vp_pi_j38 hA, Vp_thr hA, Vp_pl])
            exact vp
          · (try simp only [Vl0_pi_j18 hA, Vl0_pi_j22 hA, Vl0_pi_j30 hA, Vl0_pi_j16 hA, Vl0_pi_j38 hA, Vl0_pl])
            exact vl0
          · simp only [Vl1, mi_pi, mi_pl, hAe, Nat.reduceLT, Nat.reduceEqDiff, and_false, true_and, and_true, if_false, if_true, b1, b2, b3, b4, b5, b6, true_and, and_self]
            first | exact hq9 | exact ⟨⟨rfl, rfl, rfl, rfl, rfl, rfl⟩, hq9⟩ | (refine ⟨⟨?_, ?_, ?_, ?_, ?_, ?_⟩, hq9⟩ <;> first | rfl | trivial)
          · (try simp only [Vlr_pi_j18 hA, Vlr_pi_j22 hA, Vlr_pi_j30 hA, Vlr_pi_j16 hA, Vlr_pi_j38 hA, Vlr_pl_j39 hA])
            exact vlr
          · (try simp only [Vsr_pi_j18 hA, Vsr_pi_j22 hA, Vsr_pi_j30 hA, Vsr_pi_j16 hA, Vsr_pi_j38 hA, Vsr_pl_j39 hA])
            exact vsr
          · refine Vc_of (c := 0) vc (by decide) (fun k => ?_) (fun k => ?_) <;> simp only [mi_pi, mi_pl, hAe, Nat.reduceLT, Nat.reduceEqDiff, false_and, true_and, if_false]
          · (try simp only [Tx_pi_j18 hA, Tx_pi_j22 hA, Tx_pi_j30 hA, Tx_pi_j16 hA, Tx_pi_j38 hA, Tx_pl])
            exact tx
        · rcases lnMk ln with ⟨m1, m2⟩ | ⟨m1, m2⟩
          · skip
            simp only [↓ar_ite, ↓ar_ite2, ↓reduceIte, o318_0, o318_1, o318_2, o318_3, o318_4, o318_7, o318_8, o318_11, o318_22, o318_23, o93_0, o93_1, o93_2, o93_5, o93_6, o93_7, o93_8, o93_11, o93_12, o93_13, o93_16, o93_17, o93_20, o93_23, o93_24, o93_27, o93_28, o93_31, o223_0, o223_1, o223_2, o223_5, o223_12, o223_13, o223_14, o223_17, o223_18, o223_19, o223_26, o223_27, o223_30, o223_35, o223_36, o223_39, o223_40, o223_41, o223_42, o223_43, o223_44, o223_47, o223_48, o223_51, o223_54, o223_55, o223_56, o223_59, c_X8_isThrown_, c_X8_isLens, c_X5_checkChoice, c_X3_hasMark, c_lensOf_1, c_ref_3 (cs := A 18), c_X8_no (cs := A 30), mc_pi, mc_pl, mn_pi, mn_pl, mi_pi, mi_pl, ml_pi, ml_pl, mr_pi, mr_pl, mz_pi, mz_pl, mcs_0, mcs_r, Kn_v, Kn_0, mrf_some, true_and, and_true, or_true, not_true_eq_false, not_false_eq_true, implies_true, and_self, Nat.reduceEqDiff, Nat.reduceLeDiff, Nat.reduceSub, Nat.reduceAdd, Nat.zero_le, Nat.le_refl, i10, lt_le, Int32.reduceLT, Int32.reduceSub, cl1, cl3, Kc_v, Sum.inl.injEq, Option.some.injEq, Value.int.injEq, exists_eq_left', Nat.reduceLT, hAe, kc0, kc16, kc17, kc18, kc22, kc29, kc30, kc38, kc39, kn18, kn29, kn30, kr0_8, kr0_9, kr17_0, kr22_7, kr22_8, kr29_1, kz, be0, b6, or_self, cl1, m2, m1z, v18, cl3]
            (try simp only [ite_ar, implies_true, true_and, and_true, Classical.not_not])
            first | refine ⟨⟨?_, ?_, ?_, ?_, ?_, ?_, ?_, ?_, ?_, ?_, ?_, ?_⟩, rfl⟩ | refine ⟨?_, ?_, ?_, ?_, ?_, ?_, ?_, ?_, ?_, ?_, ?_, ?_⟩
            · (try simp only [K_pi, K_pl])
              exact vk
            · (try simp only [Cn_pi_j18 hA, Cn_pi_j22 hA, Cn_pi_j30 hA, Cn_pl])
              exact vcn
            · (try simp only [Vq0_pi_j18 hA, Vq0_pi_j22 hA, Vq0_pi_j30 hA, Vq0_pl])
              exact v0
            · (try simp only [Vq1_pi_j18 hA, Vq1_pi_j22 hA, Vq1_pi_j30 hA, Vq1_pl])
              exact v1
            · (try simp only [Vq2_pi_j18 hA, Vq2_pi_j22 hA, Vq2_pi_j30 hA, Vq2_pl])
              exact v2
            · (try simp only [Vp_pi_j18 hA, Vp_pi_j30 hA, Vp_thr hA, Vp_pl])
              exact vp
            · (try simp only [Vl0_pi_j18 hA, Vl0_pi_j22 hA, Vl0_pi_j30 hA, Vl0_pl])
              exact vl0
            · (try simp only [Vl1_pi_j18 hA, Vl1_pi_j22 hA, Vl1_pi_j30 hA, Vl1_pl])
              exact vl1
            · (try simp only [Vlr_pi_j18 hA, Vlr_pi_j22 hA, Vlr_pi_j30 hA, Vlr_pl_j39 hA])
              exact vlr
            · (try simp only [Vsr_pi_j18 hA, Vsr_pi_j22 hA, Vsr_pi_j30 hA, Vsr_pl_j39 hA])
              exact vsr
            · refine Vc_of (c := 3) vc (by decide) (fun k => ?_) (fun k => ?_) <;> simp only [mi_pi, mi_pl, hAe, Nat.reduceLT, Nat.reduceEqDiff, false_and, true_and, if_false]
            · (try simp only [Tx_pi_j18 hA, Tx_pi_j22 hA, Tx_pi_j30 hA, Tx_pl])
              exact tx
          · have hq9 := lnB ln m1
            simp only [↓ar_ite, ↓ar_ite2, ↓ar_ok, ↓reduceIte, o318_0, o318_1, o318_2, o318_3, o318_4, o318_7, o318_8, o318_11, o318_22, o318_23, o93_0, o93_1, o93_2, o93_5, o93_6, o93_7, o93_8, o93_11, o93_12, o93_13, o93_16, o93_17, o93_20, o93_32, o93_33, o93_34, o93_53, o93_54, o93_55, o93_58, o93_59, o93_62, o93_63, o93_66, o93_69, o223_0, o223_1, o223_2, o223_5, o223_12, o223_13, o223_14, o223_17, o223_18, o223_19, o223_26, o223_27, o223_30, o223_35, o223_36, o223_39, o223_40, o223_41, o223_42, o223_43, o223_44, o223_47, o223_48, o223_51, o223_60, o223_61, o223_62, o223_78, o223_79, o223_89, o223_90, o223_91, o223_101, o223_102, o223_103, o223_113, o223_114, o223_115, o223_129, o223_130, o223_131, o223_134, o223_135, o223_136, o223_139, o223_142, o223_150, o223_151, o223_152, o223_155, o223_158, c_X8_isThrown_, c_X8_isLens, c_X5_checkChoice, c_X3_hasMark, c_lensOf_1, c_X3_setBack, c_X0_done (cs := A 18), c_X8_done (cs := A 30), mc_pi, mc_pl, mn_pi, mn_pl, mi_pi, mi_pl, ml_pi, ml_pl, mr_pi, mr_pl, mz_pi, mz_pl, mcs_0, mcs_r, Kn_v, Kn_0, mrf_some, kok_0, true_and, and_true, or_true, not_false_eq_true, implies_true, and_self, Nat.reduceEqDiff, Nat.reduceLeDiff, Nat.reduceSub, Nat.reduceAdd, Nat.zero_le, Nat.le_refl, i10, lt_le, Int32.reduceLT, cl1, Kc_v, Sum.inl.injEq, Option.some.injEq, Value.int.injEq, exists_eq_left', Nat.reduceLT, hAe, kc0, kc16, kc17, kc18, kc22, kc29, kc30, kc38, kc39, kn18, kn29, kn30, kr0_8, kr0_9, kr17_0, kr22_7, kr22_8, kr29_1, kz, be0, b6, lne, lti, Int.reduceLT, or_self, o135_0, o135_1, o135_64, o135_65, o135_68, o135_75, cl1, m1, m2]
            (try simp only [ite_ar, implies_true, true_and, and_true, Classical.not_not])
            first | refine ⟨⟨?_, ?_, ?_, ?_, ?_, ?_, ?_, ?_, ?_, ?_, ?_, ?_⟩, rfl⟩ | refine ⟨?_, ?_, ?_, ?_, ?_, ?_, ?_, ?_, ?_, ?_, ?_, ?_⟩
            · (try simp only [K_pi, K_pl])
              exact vk
            · (try simp only [Cn_pi_j18 hA, Cn_pi_j22 hA, Cn_pi_j30 hA, Cn_pi_j16 hA, Cn_pi_j38 hA, Cn_pl])
              exact vcn
            · (try simp only [Vq0_pi_j18 hA, Vq0_pi_j22 hA, Vq0_pi_j30 hA, Vq0_pi_j16 hA, Vq0_pi_j38 hA, Vq0_pl])
              exact v0
            · (try simp only [Vq1_pi_j18 hA, Vq1_pi_j22 hA, Vq1_pi_j30 hA, Vq1_pi_j16 hA, Vq1_pi_j38 hA, Vq1_pl])
              exact v1
            · (try simp only [Vq2_pi_j18 hA, Vq2_pi_j22 hA, Vq2_pi_j30 hA, Vq2_pi_j16 hA, Vq2_pi_j38 hA, Vq2_pl])
              exact v2
            · (try simp only [Vp_pi_j18 hA, Vp_pi_j30 hA, Vp_pi_j16 hA, Vp_pi_j38 hA, Vp_thr hA, Vp_pl])
              exact vp
            · (try simp only [Vl0_pi_j18 hA, Vl0_pi_j22 hA, Vl0_pi_j30 hA, Vl0_pi_j16 hA, Vl0_pi_j38 hA, Vl0_pl])
              exact vl0
            · simp only [Vl1, mi_pi, mi_pl, hAe, Nat.reduceLT, Nat.reduceEqDiff, and_false, true_and, and_true, if_false, if_true, b1, b2, b3, b4, b5, b6, true_and, and_self]
              first | exact hq9 | exact ⟨⟨rfl, rfl, rfl, rfl, rfl, rfl⟩, hq9⟩ | (refine ⟨⟨?_, ?_, ?_, ?_, ?_, ?_⟩, hq9⟩ <;> first | rfl | trivial)
            · (try simp only [Vlr_pi_j18 hA, Vlr_pi_j22 hA, Vlr_pi_j30 hA, Vlr_pi_j16 hA, Vlr_pi_j38 hA, Vlr_pl_j39 hA])
              exact vlr
            · (try simp only [Vsr_pi_j18 hA, Vsr_pi_j22 hA, Vsr_pi_j30 hA, Vsr_pi_j16 hA, Vsr_pi_j38 hA, Vsr_pl_j39 hA])
              exact vsr
            · refine Vc_of (c := 0) vc (by decide) (fun k => ?_) (fun k => ?_) <;> simp only [mi_pi, mi_pl, hAe, Nat.reduceLT, Nat.reduceEqDiff, false_and, true_and, if_false]
            · (try simp only [Tx_pi_j18 hA, Tx_pi_j22 hA, Tx_pi_j30 hA, Tx_pi_j16 hA, Tx_pi_j38 hA, Tx_pl])
              exact tx
        · rcases ln.2.2.2.1 with s0 | s0
          · obtain ⟨F, N, P, L, q1, q2, q4, q5, hPL, hLN, hFN, hq9⟩ := lnNat ln (by decide) (by decide)
            have c0 : (36 : Nat) < 1000 := by decide
            have c1 : F + N ≤ 36 := by omega
            have c2 : ¬ A 38 = A 24 := fun z => absurd ((hAe 38 24 (by decide) (by decide)).mp z) (by decide)
            have c3 : F + L ≤ 36 := by omega
            simp only [↓ar_ite, ↓ar_ite2, ↓ar_ok, ↓reduceIte, o318_0, o318_1, o318_2, o318_3, o318_4, o318_7, o318_8, o318_11, o318_22, o318_23, o93_0, o93_1, o93_2, o93_5, o93_6, o93_7, o93_8, o93_11, o93_12, o93_13, o93_32, o93_33, o93_34, o93_37, o93_38, o93_41, o93_53, o93_54, o93_55, o93_58, o93_59, o93_62, o93_63, o93_66, o93_69, o223_0, o223_1, o223_2, o223_5, o223_12, o223_13, o223_14, o223_17, o223_18, o223_19, o223_26, o223_27, o223_30, o223_35, o223_36, o223_39, o223_40, o223_41, o223_42, o223_43, o223_44, o223_60, o223_61, o223_62, o223_65, o223_66, o223_69, o223_78, o223_79, o223_89, o223_90, o223_91, o223_101, o223_102, o223_103, o223_113, o223_114, o223_115, o223_129, o223_130, o223_131, o223_145, o223_146, o223_147, o223_150, o223_151, o223_152, o223_155, o223_158, c_X8_isThrown_, c_X8_isLens, c_X5_checkChoice, c_lensOf_1, c_X3_compact (rw := A 2) (cs := A 4) (R := 36) (F := F) (N := N) (P := P) (L := L), c_X8_compacted (sr := A 24) (F := F) (P := P) (L := L), c_X0_done (cs := A 18), c_X8_done (cs := A 30), mc_pi, mc_pl, mn_pi, mn_pl, mi_pi, mi_pl, ml_pi, ml_pl, mr_pi, mr_pl, mz_pi, mz_pl, mcs_0, mcs_r, Kn_v, Kn_0, mrf_some, true_and, and_true, false_and, or_true, not_false_eq_true, implies_true, and_self, Nat.reduceEqDiff, Nat.reduceLeDiff, Nat.reduceSub, Nat.reduceAdd, Nat.zero_le, Nat.le_refl, i10, lt_le, Int32.reduceLT, cl1, Kc_v, Sum.inl.injEq, Option.some.injEq, Value.int.injEq, exists_eq_left', Nat.reduceLT, hAe, kc0, kc2, kc4, kc16, kc17, kc18, kc22, kc24, kc29, kc30, kc38, kc39, kn4, kn18, kn24, kn29, kn30, kr0_8, kr0_9, kr2_0, kr16_0, kr17_0, kr22_1, kr22_7, kr22_8, kr29_1, kz, be0, b1, b2, b3, b4, b5, lne, lti, Int.reduceLT, or_self, o135_0, o135_1, o135_71, o135_72, o135_75, cl1, s0, q1, q2, q4, q5, hPL, hLN, c0, c1, c3, mvL_c, mvL_n, mvL_r, mvL_i, mvL_z, mvI_c, mvI_n, mvI_r, mvI_i, mvI_l, mvI_z]
            (try simp only [ite_ar, implies_true, true_and, and_true, Classical.not_not])
            rw [q1, q2] at hq9
            first | refine ⟨⟨?_, ?_, ?_, ?_, ?_, ?_, ?_, ?_, ?_, ?_, ?_, ?_⟩, rfl⟩ | refine ⟨?_, ?_, ?_, ?_, ?_, ?_, ?_, ?_, ?_, ?_, ?_, ?_⟩
            · (try simp only [K_pi, K_pl, K_mvI, K_mvL])
              exact vk
            · (try simp only [Cn_pi_j18 hA, Cn_pi_j22 hA, Cn_pi_j30 hA, Cn_pi_j16 hA, Cn_pi_j38 hA, Cn_pl, Cn_mvI24 hA, Cn_mvL4 hA])
              exact vcn
            · (try simp only [Vq0_pi_j18 hA, Vq0_pi_j22 hA, Vq0_pi_j30 hA, Vq0_pi_j16 hA, Vq0_pi_j38 hA, Vq0_pl, Vq0_mvI24 hA, Vq0_mvL4 hA])
              exact v0
            · (try simp only [Vq1_pi_j18 hA, Vq1_pi_j22 hA, Vq1_pi_j30 hA, Vq1_pi_j16 hA, Vq1_pi_j38 hA, Vq1_pl, Vq1_mvI24 hA, Vq1_mvL4 hA])
              exact v1
            · (try simp only [Vq2_pi_j18 hA, Vq2_pi_j22 hA, Vq2_pi_j30 hA, Vq2_pi_j16 hA, Vq2_pi_j38 hA, Vq2_pl, Vq2_mvI24 hA, Vq2_mvL4 hA])
              exact v2
            · (try simp only [Vp_pi_j18 hA, Vp_pi_j30 hA, Vp_pi_j16 hA, Vp_pi_j38 hA, Vp_thr hA, Vp_pl, Vp_mvI24 hA, Vp_mvL4 hA])
              exact vp
            · (try simp only [Vl0_pi_j18 hA, Vl0_pi_j22 hA, Vl0_pi_j30 hA, Vl0_pi_j16 hA, Vl0_pi_j38 hA, Vl0_pl, Vl0_mvI24 hA, Vl0_mvL4 hA])
              exact vl0
            · simp only [Vl1, mi_pi, mi_pl, hAe, Nat.reduceLT, Nat.reduceEqDiff, false_and, and_false, true_and, and_true, if_false, if_true, mvL_i, mvI_i, b1, b2, b3, b4, b5, b6, true_and, and_self, q1, q2, s0]
              rw [s0] at hq9
              first | exact hq9 | exact ⟨⟨rfl, rfl, rfl, rfl, rfl, rfl⟩, hq9⟩ | (refine ⟨⟨?_, ?_, ?_, ?_, ?_, ?_⟩, hq9⟩ <;> first | rfl | trivial)
            · (try simp only [Vlr_pi_j18 hA, Vlr_pi_j22 hA, Vlr_pi_j30 hA, Vlr_pi_j16 hA, Vlr_pi_j38 hA, Vlr_pl_j39 hA, Vlr_mvI24 hA, Vlr_mvL4 hA])
              exact vlr
            · refine Vsr_mv (F := F) (P := P) (n := L - P) vsr (by omega) (fun k => ?_) (fun k => ?_) <;> simp only [mi_pi, mi_pl, ml_pi, ml_pl, hAe, Nat.reduceLT, Nat.reduceEqDiff, false_and, true_and, if_false, mvL_i, mvL_l, mvI_i, mvI_l]
            · refine Vc_of (c := 0) vc (by decide) (fun k => ?_) (fun k => ?_) <;> simp only [mi_pi, mi_pl, hAe, Nat.reduceLT, Nat.reduceEqDiff, false_and, true_and, if_false, mvL_i, mvI_i]
            · (try simp only [Tx_pi_j18 hA, Tx_pi_j22 hA, Tx_pi_j30 hA, Tx_pi_j16 hA, Tx_pi_j38 hA, Tx_pl, Tx_mvI24 hA, Tx_mvL4 hA])
              exact tx
          · skip
            simp only [↓ar_ite, ↓ar_ite2, ↓reduceIte, o318_0, o318_1, o318_2, o318_3, o318_4, o318_7, o318_8, o318_11, o318_22, o318_23, o93_0, o93_1, o93_2, o93_5, o93_6, o93_7, o93_8, o93_11, o93_12, o93_13, o93_32, o93_33, o93_34, o93_37, o93_38, o93_41, o93_44, o93_45, o93_48, o93_49, o93_52, o223_0, o223_1, o223_2, o223_5, o223_12, o223_13, o223_14, o223_17, o223_18, o223_19, o223_26, o223_27, o223_30, o223_35, o223_36, o223_39, o223_40, o223_41, o223_42, o223_43, o223_44, o223_60, o223_61, o223_62, o223_65, o223_66, o223_69, o223_72, o223_73, o223_74, o223_77, c_X8_isThrown_, c_X8_isLens, c_X5_checkChoice, c_lensOf_1, c_ref_4 (cs := A 18), c_X8_no (cs := A 30), mc_pi, mc_pl, mn_pi, mn_pl, mi_pi, mi_pl, ml_pi, ml_pl, mr_pi, mr_pl, mz_pi, mz_pl, mcs_0, mcs_r, Kn_v, Kn_0, mrf_some, true_and, and_true, or_true, not_false_eq_true, implies_true, and_self, Nat.reduceEqDiff, Nat.reduceLeDiff, Nat.reduceSub, Nat.reduceAdd, Nat.zero_le, Nat.le_refl, i10, lt_le, Int32.reduceLT, Int32.reduceSub, cl1, cl4, Kc_v, Sum.inl.injEq, Option.some.injEq, Value.int.injEq, exists_eq_left', Nat.reduceLT, hAe, kc0, kc16, kc17, kc18, kc22, kc29, kc30, kc38, kc39, kn18, kn29, kn30, kr0_8, kr0_9, kr17_0, kr22_7, kr22_8, kr29_1, kz, be0, b3, lne, or_self, cl1, s0, v18, cl4]
            (try simp only [ite_ar, implies_true, true_and, and_true, Classical.not_not])
            first | refine ⟨⟨?_, ?_, ?_, ?_, ?_, ?_, ?_, ?_, ?_, ?_, ?_, ?_⟩, rfl⟩ | refine ⟨?_, ?_, ?_, ?_, ?_, ?_, ?_, ?_, ?_, ?_, ?_, ?_⟩
            · (try simp only [K_pi, K_pl])
              exact vk
            · (try simp only [Cn_pi_j18 hA, Cn_pi_j22 hA, Cn_pi_j30 hA, Cn_pl])
              exact vcn
            · (try simp only [Vq0_pi_j18 hA, Vq0_pi_j22 hA, Vq0_pi_j30 hA, Vq0_pl])
              exact v0
            · (try simp only [Vq1_pi_j18 hA, Vq1_pi_j22 hA, Vq1_pi_j30 hA, Vq1_pl])
              exact v1
            · (try simp only [Vq2_pi_j18 hA, Vq2_pi_j22 hA, Vq2_pi_j30 hA, Vq2_pl])
              exact v2
            · (try simp only [Vp_pi_j18 hA, Vp_pi_j30 hA, Vp_thr hA, Vp_pl])
              exact vp
            · (try simp only [Vl0_pi_j18 hA, Vl0_pi_j22 hA, Vl0_pi_j30 hA, Vl0_pl])
              exact vl0
            · (try simp only [Vl1_pi_j18 hA, Vl1_pi_j22 hA, Vl1_pi_j30 hA, Vl1_pl])
              exact vl1
            · (try simp only [Vlr_pi_j18 hA, Vlr_pi_j22 hA, Vlr_pi_j30 hA, Vlr_pl_j39 hA])
              exact vlr
            · (try simp only [Vsr_pi_j18 hA, Vsr_pi_j22 hA, Vsr_pi_j30 hA, Vsr_pl_j39 hA])
              exact vsr
            · refine Vc_of (c := 4) vc (by decide) (fun k => ?_) (fun k => ?_) <;> simp only [mi_pi, mi_pl, hAe, Nat.reduceLT, Nat.reduceEqDiff, false_and, true_and, if_false]
            · (try simp only [Tx_pi_j18 hA, Tx_pi_j22 hA, Tx_pi_j30 hA, Tx_pl])
              exact tx
        · exact absurd (show (5 : Int32) < 6 by decide) bx9
        · exact absurd (show (5 : Int32) < 7 by decide) bx9
        · exact absurd (show (5 : Int32) < 8 by decide) bx9
end

section
/-! squeeze -/
theorem mvL_pi {h : MH} {a k cs f p n : Nat} {v : Int32} : mvL (p_i h a k v) cs f p n = p_i (mvL h cs f p n) a k v := id rfl
theorem mT_mvL {h : MH} {a k w r cs f p n : Nat} : mT (mvL h cs f p n) a k w r = mT h a k w r := id rfl
theorem mvL_far2 {h : MH} {cs f p n j : Nat} (hj : n ≤ j) : g_l (mvL h cs f p n) cs (f + p + j) = g_l h cs (f + j + p) := by
  rw [mvL_l, if_neg (by omega)]
  congr 1
  omega
theorem n_irr {a : Nat} : (Int32.ofNat a < Int32.ofNat a) = False := by
  apply eq_false
  rw [Int32.lt_iff_toInt_lt]
  omega
theorem n_m1 {a : Nat} (h : a < 2147483648) : (Int32.ofNat a < -1) = False := by
  apply eq_false
  rw [Int32.lt_iff_toInt_lt, Int32.toInt_ofNat_of_lt (by omega)]
  have : (-1 : Int32).toInt = -1 := rfl
  omega
theorem n_z {a : Nat} (h : a < 2147483648) : (Int32.ofNat a < 0) = False := by
  apply eq_false
  rw [Int32.lt_iff_toInt_lt, Int32.toInt_ofNat_of_lt (by omega)]
  have : (0 : Int32).toInt = 0 := rfl
  omega
theorem c_X1_compact {q w r rw cs R F N P L : Nat} {h : MH} {Q : MR → MH → Prop} (q1 : g_c h q = 5) (q3 : g_r h q 0 = some w) (q4 : g_r h q 1 = some r) (w1 : g_c h w = 4) (v1 : g_c h r = 4) (q2 : g_z h ≤ q) (w2 : g_z h ≤ w) (v2 : g_z h ≤ r) (s1 : g_i h w 2 = Int32.ofNat N) (s2 : g_i h r 2 = Int32.ofNat N) (s3 : g_i h q 2 = 0) (n1 : ¬ w = r) (n2 : ¬ r = w) (n3 : ¬ q = w) (n4 : ¬ w = q) (n5 : ¬ q = r) (n6 : ¬ r = q) (w3 : g_r h w 0 = some rw) (r1 : g_c h rw = 3) (r2 : g_r h rw 0 = some cs) (r3 : g_c h cs = 102) (r4 : g_n h cs = R) (r5 : g_z h ≤ cs) (s0 : g_i h w 3 = 0) (a1 : g_i h w 1 = Int32.ofNat F) (a4 : g_i h w 4 = Int32.ofNat L) (a6 : g_i h w 6 = -1) (c4 : g_i h r 4 = Int32.ofNat P) (c5 : g_i h r 5 = Int32.ofNat L) (ar : g_i h q 3 = 0) (b1 : P ≤ L) (b2 : L ≤ N) (b3 : F + N ≤ R) (b4 : R < 1000) : Ok 20 0 [.ref q] [] h 0 0 Q ↔ Q (.inl none) (cW (mvL h cs F P (L - P)) q w r (Int32.ofNat (L - P), Int32.ofNat N, -1, 0, Int32.ofNat (L - P), -1, 0)) := by
  have d1 : (Int32.ofNat L < Int32.ofNat L) = False := n_irr
  have d2 : (Int32.ofNat L < -1) = False := n_m1 (by omega)
  have d3 : (Int32.ofNat P < -1) = False := n_m1 (by omega)
  have d4 : (Int32.ofNat N < Int32.ofNat (L - P)) = False := by rw [n_lt (by omega) (by omega)]; exact eq_false (by omega)
  have d5 : (Int32.ofNat (L - P) < 0) = False := n_z (by omega)
  have d6 : (Int32.ofNat (L - P) < -1) = False := n_m1 (by omega)
  have d7 : (Int32.ofNat N < -1) = False := n_m1 (by omega)
  simp only [o20_0, o20_1, o20_4, o20_5, o20_8, o20_11, o20_14, o20_15, o20_18, o20_19, o20_22, o20_25, o20_28, o20_29, o20_32, o20_35, o20_36, o20_39, o20_42, o20_43, o20_46, c_X3_setLimit, c_X3_setPlace, c_X3_rewind, c_X3_compact (rw := rw) (cs := cs) (R := R) (F := F) (N := N) (P := P) (L := L), c_X1_settle (w := w) (r := r) (sz := Int32.ofNat N) (ring := 0), mc_pi, mn_pi, mi_pi, mr_pi, mz_pi, mcs_0, Kn_0, mrf_some, true_and, and_true, and_false, not_false_eq_true, if_true, if_false, and_self, Nat.reduceEqDiff, Nat.zero_le, mvL_c, mvL_r, mvL_i, mvL_z, q1, q3, q4, w1, v1, q2, w2, v2, s1, s2, s3, n1, n2, n3, n4, n5, n6, w3, r1, r2, r3, r4, r5, s0, a1, a4, a6, c4, c5, b1, b2, b3, b4, d1, d2, d3]
  simp only [seF, enF, cT, liP, liM, mi_pi, and_true, and_false, if_true, if_false, and_self, Nat.reduceEqDiff, Int32.reduceLT, mvL_i, n1, n2, n3, n5, a4, a6, c4, c5, ar, mvL_pi, cW_0, cW_1, cW_2, cW_3, cW_5, d4, d5, d6, d7]
  all_goals (try exact Iff.rfl)

theorem msq_step {m lr P n j : Nat} {h : MH} {Q : MR → MH → Prop} (m1 : g_c h m = 9) (g1 : g_r h m 0 = some lr) (g2 : g_c h lr = 102) (g3 : g_n h lr = 16) (g4 : g_z h ≤ lr) (b1 : 9 + P + n ≤ 16) (hj : j < n) : Ok 194 23 [.ref m, .int (Int32.ofNat P), .int (Int32.ofNat n), .int (Int32.ofNat j)] [] (mvL h lr 9 P j) 0 0 Q ↔ Ok 194 23 [.ref m, .int (Int32.ofNat P), .int (Int32.ofNat n), .int (Int32.ofNat (j + 1))] [] (mvL h lr 9 P (j + 1)) 0 0 Q := by
  have c1 : (Int32.ofNat j < Int32.ofNat n) = True := by rw [n_lt (by omega) (by omega)]; exact eq_true hj
  have e1 : 9 + Int32.ofNat j = Int32.ofNat (9 + j) := n_add 9 j
  have e2 : 9 + Int32.ofNat P = Int32.ofNat (9 + P) := n_add 9 P
  have c4 : vp_in (Int32.ofNat (9 + P + j)) 16 := (n_rdy (n := 16) (by omega) (by omega)).2.2
  have c7 : vp_in (Int32.ofNat (9 + j)) 16 := (n_rdy (n := 16) (by omega) (by omega)).2.2
  have c8 : (Int32.ofNat (9 + P + j)).toNatClampNeg = 9 + P + j := n_cl (by omega)
  have c9 : (Int32.ofNat (9 + j)).toNatClampNeg = 9 + j := n_cl (by omega)
  have c10 : Int32.ofNat j + 1 = Int32.ofNat (j + 1) := n_add j 1
  have c11 := mvL_far2 (h := h) (cs := lr) (f := 9) (p := P) (n := j) (j := j) (Nat.le_refl _)
  rw [o194_23]
  simp only [o194_24, o194_25, o194_28, o194_29, o194_32, o194_34, o194_35, o194_36, o194_37, o194_40, o194_42, o194_43, o194_44, o194_45, o194_46, o194_47, o194_48, o194_51, mvL_c, mvL_n, mvL_r, mvL_z, mrf_some, true_and, not_true_eq_false, not_false_eq_true, false_implies, forall_const, and_self, lt_le, m1, g1, g2, g3, g4, e1, e2, n_add, c1, c4, c7, c8, c9, c10, c11, mvL_s]

theorem msq_loop {m lr P n : Nat} {h : MH} {Q : MR → MH → Prop} (m1 : g_c h m = 9) (g1 : g_r h m 0 = some lr) (g2 : g_c h lr = 102) (g3 : g_n h lr = 16) (g4 : g_z h ≤ lr) (b1 : 9 + P + n ≤ 16) : ∀ d j : Nat, j + d = n → (Ok 194 23 [.ref m, .int (Int32.ofNat P), .int (Int32.ofNat n), .int (Int32.ofNat j)] [] (mvL h lr 9 P j) 0 0 Q ↔ Ok 194 23 [.ref m, .int (Int32.ofNat P), .int (Int32.ofNat n), .int (Int32.ofNat n)] [] (mvL h lr 9 P n) 0 0 Q)
  | 0, j, hd => by
    have : j = n := by omega
    subst this
    exact Iff.rfl
  | d + 1, j, hd => (msq_step (n := n) (j := j) m1 g1 g2 g3 g4 b1 (by omega)).trans (msq_loop m1 g1 g2 g3 g4 b1 d (j + 1) (by omega))

theorem msq_all {m lr P n : Nat} {h : MH} {Q : MR → MH → Prop} (m1 : g_c h m = 9) (g1 : g_r h m 0 = some lr) (g2 : g_c h lr = 102) (g3 : g_n h lr = 16) (g4 : g_z h ≤ lr) (b1 : 9 + P + n ≤ 16) : Ok 194 23 [.ref m, .int (Int32.ofNat P), .int (Int32.ofNat n), .int 0] [] h 0 0 Q ↔ Ok 194 54 [.ref m, .int (Int32.ofNat P), .int (Int32.ofNat n), .int (Int32.ofNat n)] [] (mvL h lr 9 P n) 0 0 Q := by
  have lp := msq_loop (Q := Q) m1 g1 g2 g3 g4 b1 n 0 (by omega)
  rw [mvL_0] at lp
  rw [show (0 : Int32) = Int32.ofNat 0 from rfl, lp, o194_23]
  simp only [o194_24, o194_25, and_true, not_true_eq_false, not_false_eq_true, false_implies, forall_const, lt_le, n_irr]
  all_goals (try exact Iff.rfl)

theorem Vq0_mvL3 {A : Nat → Nat} {m : MH} {f p n : Nat} (hA : inj40 A) : Vq0 A (mvL m (A 3) f p n) = Vq0 A m := by
  simp only [Vq0, cT, mT, mvL_i]
theorem Vq0_mvL23 {A : Nat → Nat} {m : MH} {f p n : Nat} (hA : inj40 A) : Vq0 A (mvL m (A 23) f p n) = Vq0 A m := by
  simp only [Vq0, cT, mT, mvL_i]
theorem Vq1_mvL3 {A : Nat → Nat} {m : MH} {f p n : Nat} (hA : inj40 A) : Vq1 A (mvL m (A 3) f p n) = Vq1 A m := by
  simp only [Vq1, cT, mT, mvL_i]
theorem Vq1_mvL23 {A : Nat → Nat} {m : MH} {f p n : Nat} (hA : inj40 A) : Vq1 A (mvL m (A 23) f p n) = Vq1 A m := by
  simp only [Vq1, cT, mT, mvL_i]
theorem Vp_mvL3 {A : Nat → Nat} {m : MH} {f p n : Nat} (hA : inj40 A) : Vp A (mvL m (A 3) f p n) = Vp A m := by
  simp only [Vp, mvL_i]
theorem Vp_mvL23 {A : Nat → Nat} {m : MH} {f p n : Nat} (hA : inj40 A) : Vp A (mvL m (A 23) f p n) = Vp A m := by
  simp only [Vp, mvL_i]
theorem Vl0_mvL3 {A : Nat → Nat} {m : MH} {f p n : Nat} (hA : inj40 A) : Vl0 A (mvL m (A 3) f p n) = Vl0 A m := by
  simp only [Vl0, mvL_i]
theorem Vl0_mvL23 {A : Nat → Nat} {m : MH} {f p n : Nat} (hA : inj40 A) : Vl0 A (mvL m (A 23) f p n) = Vl0 A m := by
  simp only [Vl0, mvL_i]
theorem Vl1_mvL3 {A : Nat → Nat} {m : MH} {f p n : Nat} (hA : inj40 A) : Vl1 A (mvL m (A 3) f p n) = Vl1 A m := by
  simp only [Vl1, mvL_i]
theorem Vl1_mvL23 {A : Nat → Nat} {m : MH} {f p n : Nat} (hA : inj40 A) : Vl1 A (mvL m (A 23) f p n) = Vl1 A m := by
  simp only [Vl1, mvL_i]
theorem Vsr_mvL3 {A : Nat → Nat} {m : MH} {f p n : Nat} (hA : inj40 A) : Vsr A (mvL m (A 3) f p n) = Vsr A m := by
  simp only [Vsr, mvL_i, mvL_l, false_and, if_false, Nat.reduceEqDiff, (hA_4_3 hA)]
theorem Vsr_mvL23 {A : Nat → Nat} {m : MH} {f p n : Nat} (hA : inj40 A) : Vsr A (mvL m (A 23) f p n) = Vsr A m := by
  simp only [Vsr, mvL_i, mvL_l, false_and, if_false, Nat.reduceEqDiff, (hA_4_23 hA)]
theorem Cn_mvL3 {A : Nat → Nat} {m : MH} {f p n : Nat} (hA : inj40 A) : Cn A (mvL m (A 3) f p n) = Cn A m := by
  simp only [Cn, mvL_i]
theorem Cn_mvL23 {A : Nat → Nat} {m : MH} {f p n : Nat} (hA : inj40 A) : Cn A (mvL m (A 23) f p n) = Cn A m := by
  simp only [Cn, mvL_i]
theorem Tx_mvL3 {A : Nat → Nat} {m : MH} {f p n : Nat} (hA : inj40 A) : Tx A (mvL m (A 3) f p n) = Tx A m := by
  simp only [Tx, mvL_i, mvL_r, mvL_c, mvL_n, mvL_z, mvL_t]
theorem Tx_mvL23 {A : Nat → Nat} {m : MH} {f p n : Nat} (hA : inj40 A) : Tx A (mvL m (A 23) f p n) = Tx A m := by
  simp only [Tx, mvL_i, mvL_r, mvL_c, mvL_n, mvL_z, mvL_t]
theorem Cn_33_3 {A : Nat → Nat} {h : MH} {v : Int32} (hA : inj40 A) : Cn A (p_i h (A 33) 3 v) = Cn A h := by
  simp only [Cn, mi_pi, Nat.reduceEqDiff, and_false, if_false, false_and, (hA_5_33 hA), (hA_6_33 hA), (hA_7_33 hA), (hA_8_33 hA), (hA_9_33 hA), (hA_10_33 hA), (hA_11_33 hA), (hA_12_33 hA), (hA_13_33 hA), (hA_14_33 hA), (hA_28_33 hA), (hA_31_33 hA), (hA_32_33 hA), (hA_34_33 hA), (hA_35_33 hA), (hA_36_33 hA)]
theorem Cn_36_3 {A : Nat → Nat} {h : MH} {v : Int32} (hA : inj40 A) : Cn A (p_i h (A 36) 3 v) = Cn A h := by
  simp only [Cn, mi_pi, Nat.reduceEqDiff, and_false, if_false, false_and, (hA_5_36 hA), (hA_6_36 hA), (hA_7_36 hA), (hA_8_36 hA), (hA_9_36 hA), (hA_10_36 hA), (hA_11_36 hA), (hA_12_36 hA), (hA_13_36 hA), (hA_14_36 hA), (hA_28_36 hA), (hA_31_36 hA), (hA_32_36 hA), (hA_33_36 hA), (hA_34_36 hA), (hA_35_36 hA)]
theorem Cn_36_4 {A : Nat → Nat} {h : MH} {v : Int32} (hA : inj40 A) : Cn A (p_i h (A 36) 4 v) = Cn A h := by
  simp only [Cn, mi_pi, Nat.reduceEqDiff, and_false, if_false, (hA_5_36 hA), (hA_6_36 hA), (hA_7_36 hA), (hA_8_36 hA), (hA_9_36 hA), (hA_10_36 hA), (hA_11_36 hA), (hA_12_36 hA), (hA_13_36 hA), (hA_14_36 hA), (hA_28_36 hA), (hA_31_36 hA), (hA_32_36 hA), (hA_33_36 hA), (hA_34_36 hA), (hA_35_36 hA)]
theorem Cn_36_5 {A : Nat → Nat} {h : MH} {v : Int32} (hA : inj40 A) : Cn A (p_i h (A 36) 5 v) = Cn A h := by
  simp only [Cn, mi_pi, Nat.reduceEqDiff, and_false, if_false, (hA_5_36 hA), (hA_6_36 hA), (hA_7_36 hA), (hA_8_36 hA), (hA_9_36 hA), (hA_10_36 hA), (hA_11_36 hA), (hA_12_36 hA), (hA_13_36 hA), (hA_14_36 hA), (hA_28_36 hA), (hA_31_36 hA), (hA_32_36 hA), (hA_33_36 hA), (hA_34_36 hA), (hA_35_36 hA)]
theorem Vlr_mv {A : Nat → Nat} {h m : MH} {F P n : Nat} (v : Vlr A h) (hb : F + n + P ≤ 16) (e1 : ∀ k, g_l m (A 3) k = if F ≤ k ∧ k < F + n then g_l h (A 3) (k + P) else g_l h (A 3) k) (e2 : ∀ k, g_l m (A 23) k = if F ≤ k ∧ k < F + n then g_l h (A 23) (k + P) else g_l h (A 23) k) : Vlr A m := by
  intro k hk
  rw [e1, e2]
  by_cases c : F ≤ k ∧ k < F + n
  · rw [if_pos c, if_pos c]
    exact v (k + P) (by omega)
  · rw [if_neg c, if_neg c]
    exact v k hk
set_option maxRecDepth 100000 in
theorem qSq : ∀ t ∈ QS2, t.1 = Int32.ofNat t.1.toNatClampNeg ∧ t.2.1 = 6 ∧ t.2.2.1 = -1 ∧ t.2.2.2.1 = Int32.ofNat t.2.2.2.1.toNatClampNeg ∧ t.2.2.2.2.1 = t.1 ∧ t.2.2.2.2.2.2 = 0 ∧ t.2.2.2.1.toNatClampNeg ≤ t.1.toNatClampNeg ∧ t.1.toNatClampNeg ≤ 6 ∧ lyF t = Int32.ofNat (t.1.toNatClampNeg - t.2.2.2.1.toNatClampNeg) ∧ (Int32.ofNat (t.1.toNatClampNeg - t.2.2.2.1.toNatClampNeg), 6, -1, 0, Int32.ofNat (t.1.toNatClampNeg - t.2.2.2.1.toNatClampNeg), -1, 0) ∈ QS2 := by
  decide +kernel
end

section
theorem op_squeeze {A : Nat → Nat} {h : MH} (R : Rl A h) : Ok 71 0 [.ref (A 0), mk0] [] h 0 0 (fun r h1 => ∃ k : Int32, r = .inl (some (.int k)) ∧ g_c h1 (A 22) = 9 ∧ Ok 194 0 [.ref (A 22), mk0, mk0, mk0] [] h1 0 0 (fun r2 h2 => ∃ b : Int32, r2 = .inl (some (.int b)) ∧ Rl A h2 ∧ g_i h2 (A 22) 9 = 0 ∧ k = b)) := by
  obtain ⟨vk, vcn, v0, v1, v2, vp, vl0, vl1, vlr, vsr, vc, tx⟩ := R
  have vk0 := vk
  have vcn0 := vcn
  (refine K_el vk0 ?_; intros hA kc0 kc1 kc2 kc3 kc4 kc5 kc6 kc7 kc8 kc9 kc10 kc11 kc12 kc13 kc14 kc15 kc16 kc17 kc18 kc19 kc20 kc21 kc22 kc23 kc24 kc25 kc26 kc27 kc28 kc29 kc30 kc31 kc32 kc33 kc34 kc35 kc36 kc37 kc38 kc39 kz kt kn3 kn4 kn18 kn21 kn23 kn24 kn25 kn26 kn27 kn29 kn30 kr0_0 kr0_1 kr0_2 kr0_3 kr0_4 kr0_5 kr0_7 kr0_8 kr0_9 kr0_10 kr1_0 kr2_0 kr5_0 kr5_1 kr6_0 kr6_1 kr7_0 kr7_1 kr8_0 kr9_0 kr10_0 kr11_0 kr12_0 kr13_0 kr14_0 kr15_0 kr16_0 kr17_0 kr19_0 kr19_1 kr22_0 kr22_1 kr22_2 kr22_3 kr22_4 kr22_5 kr22_7 kr22_8 kr25_0 kr25_1 kr25_2 kr26_0 kr26_1 kr26_2 kr29_0 kr29_1)
  (refine Cn_el vcn0 ?_; intros ki5_2 ki6_2 ki7_2 ki8_1 ki8_2 ki8_3 ki9_1 ki9_2 ki9_3 ki10_1 ki10_2 ki10_3 ki11_1 ki11_2 ki11_3 ki12_1 ki12_2 ki12_3 ki13_1 ki13_2 ki13_3 ki14_1 ki14_2 ki14_3 ki28_0 ki28_1 ki31_0 ki31_1 ki32_0 ki32_1 ki33_0 ki33_1 ki34_0 ki34_1 ki35_0 ki35_1 ki36_0 ki36_1)
  have hAe : ∀ i j, i < 40 → j < 40 → (A i = A j ↔ i = j) := hA
  have he := v2.1
  have hm := v2.2
  have hT : mT h (A 27) 2 (A 33) (A 36) = cT h (A 7) (A 12) (A 13) := he.symm
  have he2 := he
  simp only [cT, mT, Prod.mk.injEq] at he2
  obtain ⟨g1, g2, g3, g4, g5, g6, g7⟩ := he2
  replace g1 := g1.symm
  replace g2 := g2.symm
  replace g3 := g3.symm
  replace g4 := g4.symm
  replace g5 := g5.symm
  replace g6 := g6.symm
  replace g7 := g7.symm
  obtain ⟨hmk, har, hl0, hl9⟩ := qA_2 _ hm
  have hark : arok 2 (g_i h (A 7) 3) := fun _ => har
  have n1 : ¬ A 12 = A 13 := fun z => absurd ((hAe 12 13 (by decide) (by decide)).mp z) (by decide)
  obtain ⟨t1, t2, t3, t4, t5, t7, hPL, hL6, hly, hq9⟩ := qSq _ hm
  have hlc : lyF (cT h (A 7) (A 12) (A 13)) = Int32.ofNat ((g_i h (A 12) 4).toNatClampNeg - (g_i h (A 13) 4).toNatClampNeg) := hly
  clear hly
  simp only [cT] at t1 t2 t3 t4 t5 t7 hPL hL6 hq9
  rw [t1] at t5
  generalize hP : (g_i h (A 13) 4).toNatClampNeg = P at *
  generalize hL : (g_i h (A 12) 4).toNatClampNeg = L at *
  have c0 : (16 : Nat) < 1000 := by decide
  have c1 : 9 + P + (L - P) ≤ 16 := by omega
  have ns : ∀ i, i < 40 → ¬ i = 36 → (A 36 = A i) = False := fun i hi hn => eq_false (fun z => hn ((hAe 36 i (by decide) hi).mp z).symm)
  simp only [o71_0, o71_1, o71_4, o71_7, o71_10, o71_11, o71_12, o71_15, o71_18, o71_19, o71_22, o71_23, o71_26, o194_0, o194_1, o194_2, o194_5, o194_6, o194_9, o194_10, o194_11, o194_14, o194_15, o194_16, o194_17, o194_20, o194_21, o194_22, o194_54, o194_55, o194_58, o194_59, o194_60, o194_61, o194_64, o194_65, o194_68, o194_69, o194_70, o194_73, o194_74, o194_77, o194_78, o194_79, o194_80, o194_83, o194_84, o194_85, o194_88, c_X1_compact (w := A 12) (r := A 13) (rw := A 1) (cs := A 3) (R := 16) (F := 9) (N := 6) (P := P) (L := L), msq_all (lr := A 23), c_X8_liesOf (x2 := A 25) (x3 := A 26) (a := A 27) (w := A 33) (r := A 36), c_X7_rewound, c_X0_done (cs := A 18), c_X8_done (cs := A 30), mc_pi, mn_pi, mi_pi, mr_pi, mz_pi, mcs_0, Kn_v, Kn_0, mrf_some, kok_0, true_and, and_true, not_false_eq_true, if_true, if_false, and_self, Nat.reduceEqDiff, Nat.reduceLeDiff, Nat.reduceAdd, Nat.zero_le, cl2, Sum.inl.injEq, Option.some.injEq, Value.int.injEq, exists_eq_left', Nat.reduceLT, hAe, kc0, kc1, kc3, kc7, kc12, kc13, kc17, kc18, kc22, kc23, kc25, kc26, kc27, kc30, kc33, kc36, kn3, kn18, kn23, kn25, kn26, kn27, kn30, kr0_4, kr0_9, kr1_0, kr7_0, kr7_1, kr12_0, kr17_0, kr22_0, kr22_2, kr22_3, kr22_4, kr22_8, kr25_2, kr26_2, kz, ki7_2, ki12_1, ki12_2, ki12_3, ki13_2, hT, g4, cl2, c_cW, n_cW, r_cW, z_cW, icw2_j18 hA, icw2_j22 hA, icw2_j30 hA, icw2_j36 hA, mvL_c, mvL_n, mvL_r, mvL_i, mvL_z, mT2_pi_j18 hA, mT2_pi_j22 hA, mT2_cW hA, vq3, on0, t1, t3, t4, t5, t7, hPL, hL6, hlc, c0, c1, mT_mvL]
  first | refine ⟨⟨?_, ?_, ?_, ?_, ?_, ?_, ?_, ?_, ?_, ?_, ?_, ?_⟩, rfl⟩ | refine ⟨?_, ?_, ?_, ?_, ?_, ?_, ?_, ?_, ?_, ?_, ?_, ?_⟩
  · (try simp only [K_pi, K_mvL, K_cW])
    exact vk
  · (try simp only [Cn_pi_j18 hA, Cn_pi_j22 hA, Cn_pi_j30 hA, Cn_cW2 hA, Cn_mvL3 hA, Cn_mvL23 hA, Cn_33_3 hA, Cn_36_3 hA, Cn_36_4 hA, Cn_36_5 hA])
    exact vcn
  · (try simp only [Vq0_pi_j18 hA, Vq0_pi_j22 hA, Vq0_pi_j30 hA, Vq0_pi_j33 hA, Vq0_pi_j36 hA, Vq0_cW2 hA, Vq0_mvL3 hA, Vq0_mvL23 hA])
    exact v0
  · (try simp only [Vq1_pi_j18 hA, Vq1_pi_j22 hA, Vq1_pi_j30 hA, Vq1_pi_j33 hA, Vq1_pi_j36 hA, Vq1_cW2 hA, Vq1_mvL3 hA, Vq1_mvL23 hA])
    exact v1
  · simp only [Vq2, cT, mT, icx2_0 hA, icx2_1 hA, icx2_2 hA, icx2_3 hA, icx2_4 hA, icx2_5 hA, icx2_6 hA, mi_pi, hAe, Nat.reduceLT, Nat.reduceEqDiff, and_false, and_true, if_false, if_true, mvL_i, icw2_j27 hA, icw2_j33 hA, icw2_j36 hA, g7, g3, t3, t7]
    exact ⟨by simp only [g2, t2], hq9⟩
  · (try simp only [Vp_pi_j18 hA, Vp_pi_j30 hA, Vp_pi_j33 hA, Vp_pi_j36 hA, Vp_thr hA, Vp_cW2 hA, Vp_mvL3 hA, Vp_mvL23 hA])
    exact vp
  · (try simp only [Vl0_pi_j18 hA, Vl0_pi_j22 hA, Vl0_pi_j30 hA, Vl0_pi_j33 hA, Vl0_pi_j36 hA, Vl0_cW2 hA, Vl0_mvL3 hA, Vl0_mvL23 hA])
    exact vl0
  · (try simp only [Vl1_pi_j18 hA, Vl1_pi_j22 hA, Vl1_pi_j30 hA, Vl1_pi_j33 hA, Vl1_pi_j36 hA, Vl1_cW2 hA, Vl1_mvL3 hA, Vl1_mvL23 hA])
    exact vl1
  · refine Vlr_mv (F := 9) (P := P) (n := L - P) vlr (by omega) (fun k => ?_) (fun k => ?_) <;> simp only [l_cW, ml_pi, hAe, Nat.reduceLT, Nat.reduceEqDiff, false_and, true_and, if_false, mvL_l]
  · (try simp only [Vsr_pi_j18 hA, Vsr_pi_j22 hA, Vsr_pi_j30 hA, Vsr_pi_j33 hA, Vsr_pi_j36 hA, Vsr_cW2 hA, Vsr_mvL3 hA, Vsr_mvL23 hA])
    exact vsr
  · refine Vc_of (c := 0) vc (by decide) (fun k => ?_) (fun k => ?_) <;> simp only [mi_pi, hAe, Nat.reduceLT, Nat.reduceEqDiff, false_and, true_and, if_false, mvL_i, icw2_j18 hA, icw2_j30 hA]
  · (try simp only [Tx_pi_j18 hA, Tx_pi_j22 hA, Tx_pi_j30 hA, Tx_pi_j33 hA, Tx_pi_j36 hA, Tx_cW2 hA, Tx_mvL3 hA, Tx_mvL23 hA])
    exact tx
end

section
/-! cells are copied within a row -/
def cpL (h : MH) (cs d s n : Nat) : MH := (h.1, h.2.1, h.2.2.1, fun b i => if b = cs ∧ d ≤ i ∧ i < d + n then g_l h cs (i - d + s) else g_l h b i, h.2.2.2.2)
def cpI (h : MH) (cs d s n : Nat) : MH := (h.1, h.2.1, fun b i => if b = cs ∧ d ≤ i ∧ i < d + n then g_i h cs (i - d + s) else g_i h b i, h.2.2.2)
theorem cpL_l {h : MH} {cs d s n b i : Nat} : g_l (cpL h cs d s n) b i = if b = cs ∧ d ≤ i ∧ i < d + n then g_l h cs (i - d + s) else g_l h b i := id rfl
theorem cpI_i {h : MH} {cs d s n b i : Nat} : g_i (cpI h cs d s n) b i = if b = cs ∧ d ≤ i ∧ i < d + n then g_i h cs (i - d + s) else g_i h b i := id rfl
section
variable {h : MH} {cs d s n b j : Nat}
theorem cpL_c : g_c (cpL h cs d s n) b = g_c h b := id rfl
theorem cpL_n : g_n (cpL h cs d s n) b = g_n h b := id rfl
theorem cpL_r : g_r (cpL h cs d s n) b j = g_r h b j := id rfl
theorem cpL_i : g_i (cpL h cs d s n) b j = g_i h b j := id rfl
theorem cpL_z : g_z (cpL h cs d s n) = g_z h := id rfl
theorem cpL_t : g_t (cpL h cs d s n) = g_t h := id rfl
theorem cpI_c : g_c (cpI h cs d s n) b = g_c h b := id rfl
theorem cpI_n : g_n (cpI h cs d s n) b = g_n h b := id rfl
theorem cpI_r : g_r (cpI h cs d s n) b j = g_r h b j := id rfl
theorem cpI_l : g_l (cpI h cs d s n) b j = g_l h b j := id rfl
theorem cpI_z : g_z (cpI h cs d s n) = g_z h := id rfl
theorem cpI_t : g_t (cpI h cs d s n) = g_t h := id rfl
end
theorem cpL_0 {h : MH} {cs d s : Nat} : cpL h cs d s 0 = h := by
  refine ml_ext (fun b j => ?_) rfl
  rw [cpL_l, if_neg (by omega)]
theorem cpI_0 {h : MH} {cs d s : Nat} : cpI h cs d s 0 = h := by
  refine mh_ext (fun b j => ?_) rfl
  rw [cpI_i, if_neg (by omega)]
theorem cpL_s {h : MH} {cs d s n i : Nat} {v : Int64} (e : i = d + n) (ev : v = g_l h cs (s + n)) : p_l (cpL h cs d s n) cs i v = cpL h cs d s (n + 1) := by
  subst e ev
  refine ml_ext (fun b j => ?_) rfl
  rw [ml_pl, cpL_l, cpL_l]
  by_cases hb : b = cs
  · subst hb
    by_cases hj : j = d + n
    · subst hj
      rw [if_pos ⟨rfl, rfl⟩, if_pos ⟨rfl, by omega, by omega⟩]
      congr 1
      omega
    · rw [if_neg (fun z => hj z.2)]
      by_cases hr : d ≤ j ∧ j < d + n
      · rw [if_pos ⟨rfl, hr.1, hr.2⟩, if_pos ⟨rfl, hr.1, by omega⟩]
      · rw [if_neg (fun z => hr z.2), if_neg (fun z => hr ⟨z.2.1, by omega⟩)]
  · rw [if_neg (fun z => hb z.1), if_neg (fun z => hb z.1), if_neg (fun z => hb z.1)]
theorem cpI_s {h : MH} {cs d s n i : Nat} {v : Int32} (e : i = d + n) (ev : v = g_i h cs (s + n)) : p_i (cpI h cs d s n) cs i v = cpI h cs d s (n + 1) := by
  subst e ev
  refine mh_ext (fun b j => ?_) rfl
  rw [mi_pi, cpI_i, cpI_i]
  by_cases hb : b = cs
  · subst hb
    by_cases hj : j = d + n
    · subst hj
      rw [if_pos ⟨rfl, rfl⟩, if_pos ⟨rfl, by omega, by omega⟩]
      congr 1
      omega
    · rw [if_neg (fun z => hj z.2)]
      by_cases hr : d ≤ j ∧ j < d + n
      · rw [if_pos ⟨rfl, hr.1, hr.2⟩, if_pos ⟨rfl, hr.1, by omega⟩]
      · rw [if_neg (fun z => hr z.2), if_neg (fun z => hr ⟨z.2.1, by omega⟩)]
  · rw [if_neg (fun z => hb z.1), if_neg (fun z => hb z.1), if_neg (fun z => hb z.1)]
theorem cpL_o {h : MH} {cs d s n i : Nat} (e : i < d ∨ d + n ≤ i) : g_l (cpL h cs d s n) cs i = g_l h cs i := by
  rw [cpL_l, if_neg (by omega)]
theorem cpI_o {h : MH} {cs d s n i : Nat} (e : i < d ∨ d + n ≤ i) : g_i (cpI h cs d s n) cs i = g_i h cs i := by
  rw [cpI_i, if_neg (by omega)]
theorem cpI_w {h : MH} {cs d s n w i : Nat} (hw : ¬ w = cs) : g_i (cpI h cs d s n) w i = g_i h w i := by rw [cpI_i, if_neg (fun z => hw z.1)]
theorem p_ii {h : MH} {a k : Nat} {u v : Int32} : p_i (p_i h a k u) a k v = p_i h a k v := by
  refine mh_ext (fun b j => ?_) rfl
  rw [mi_pi, mi_pi, mi_pi]
  by_cases hb : b = a ∧ j = k
  · rw [if_pos hb, if_pos hb]
  · rw [if_neg hb, if_neg hb, if_neg hb]
theorem p_li {h : MH} {a k b j : Nat} {u : Int32} {v : Int64} : p_l (p_i h a k u) b j v = p_i (p_l h b j v) a k u := id rfl
theorem p_i_c {h : MH} {a k b j : Nat} {u v : Int32} (n : ¬ a = b) : p_i (p_i h a k u) b j v = p_i (p_i h b j v) a k u := by
  refine mh_ext (fun c i => ?_) rfl
  rw [mi_pi, mi_pi, mi_pi, mi_pi]
  by_cases h1 : c = b ∧ i = j
  · rw [if_pos h1, if_neg (fun z => n (z.1.symm.trans h1.1)), if_pos h1]
  · rw [if_neg h1]
    by_cases h2 : c = a ∧ i = k
    · rw [if_pos h2, if_pos h2]
    · rw [if_neg h2, if_neg h2, if_neg h1]
theorem n_mul (a b : Nat) : Int32.ofNat a * Int32.ofNat b = Int32.ofNat (a * b) := (Int32.ofNat_mul a b).symm
theorem Vsr_cp {A : Nat → Nat} {h m : MH} {d s n : Nat} (v : Vsr A h) (hb : s + n ≤ 36) (e1 : ∀ k, g_l m (A 4) k = if d ≤ k ∧ k < d + n then g_l h (A 4) (k - d + s) else g_l h (A 4) k) (e2 : ∀ k, g_i m (A 24) k = if d ≤ k ∧ k < d + n then g_i h (A 24) (k - d + s) else g_i h (A 24) k) : Vsr A m := by
  intro k hk
  rw [e1, e2]
  by_cases c : d ≤ k ∧ k < d + n
  · rw [if_pos c, if_pos c]
    exact v _ (by omega)
  · rw [if_neg c, if_neg c]
    exact v k hk
theorem K_cpI {A : Nat → Nat} {m : MH} {a f p n : Nat} : K A (cpI m a f p n) = K A m := id rfl
theorem K_cpL {A : Nat → Nat} {m : MH} {a f p n : Nat} : K A (cpL m a f p n) = K A m := id rfl
theorem Vq0_cpI24 {A : Nat → Nat} {m : MH} {f p n : Nat} (hA : inj40 A) : Vq0 A (cpI m (A 24) f p n) = Vq0 A m := by
  simp only [Vq0, cT, mT, cpI_i, false_and, if_false, Nat.reduceEqDiff, (hA_5_24 hA), (hA_8_24 hA), (hA_9_24 hA), (hA_27_24 hA), (hA_31_24 hA), (hA_34_24 hA)]
theorem Vq0_cpL4 {A : Nat → Nat} {m : MH} {f p n : Nat} (hA : inj40 A) : Vq0 A (cpL m (A 4) f p n) = Vq0 A m := by
  simp only [Vq0, cT, mT, cpL_i]
theorem Vq1_cpI24 {A : Nat → Nat} {m : MH} {f p n : Nat} (hA : inj40 A) : Vq1 A (cpI m (A 24) f p n) = Vq1 A m := by
  simp only [Vq1, cT, mT, cpI_i, false_and, if_false, Nat.reduceEqDiff, (hA_6_24 hA), (hA_10_24 hA), (hA_11_24 hA), (hA_27_24 hA), (hA_32_24 hA), (hA_35_24 hA)]
theorem Vq1_cpL4 {A : Nat → Nat} {m : MH} {f p n : Nat} (hA : inj40 A) : Vq1 A (cpL m (A 4) f p n) = Vq1 A m := by
  simp only [Vq1, cT, mT, cpL_i]
theorem Vq2_cpI24 {A : Nat → Nat} {m : MH} {f p n : Nat} (hA : inj40 A) : Vq2 A (cpI m (A 24) f p n) = Vq2 A m := by
  simp only [Vq2, cT, mT, cpI_i, false_and, if_false, Nat.reduceEqDiff, (hA_7_24 hA), (hA_12_24 hA), (hA_13_24 hA), (hA_27_24 hA), (hA_33_24 hA), (hA_36_24 hA)]
theorem Vq2_cpL4 {A : Nat → Nat} {m : MH} {f p n : Nat} (hA : inj40 A) : Vq2 A (cpL m (A 4) f p n) = Vq2 A m := by
  simp only [Vq2, cT, mT, cpL_i]
theorem Vl0_cpI24 {A : Nat → Nat} {m : MH} {f p n : Nat} (hA : inj40 A) : Vl0 A (cpI m (A 24) f p n) = Vl0 A m := by
  simp only [Vl0, cpI_i, false_and, if_false, Nat.reduceEqDiff, (hA_15_24 hA), (hA_37_24 hA)]
theorem Vl0_cpL4 {A : Nat → Nat} {m : MH} {f p n : Nat} (hA : inj40 A) : Vl0 A (cpL m (A 4) f p n) = Vl0 A m := by
  simp only [Vl0, cpL_i]
theorem Vl1_cpI24 {A : Nat → Nat} {m : MH} {f p n : Nat} (hA : inj40 A) : Vl1 A (cpI m (A 24) f p n) = Vl1 A m := by
  simp only [Vl1, cpI_i, false_and, if_false, Nat.reduceEqDiff, (hA_16_24 hA), (hA_38_24 hA)]
theorem Vl1_cpL4 {A : Nat → Nat} {m : MH} {f p n : Nat} (hA : inj40 A) : Vl1 A (cpL m (A 4) f p n) = Vl1 A m := by
  simp only [Vl1, cpL_i]
theorem Vlr_cpI24 {A : Nat → Nat} {m : MH} {f p n : Nat} (hA : inj40 A) : Vlr A (cpI m (A 24) f p n) = Vlr A m := by
  simp only [Vlr, cpI_l]
theorem Vlr_cpL4 {A : Nat → Nat} {m : MH} {f p n : Nat} (hA : inj40 A) : Vlr A (cpL m (A 4) f p n) = Vlr A m := by
  simp only [Vlr, cpL_l, false_and, if_false, Nat.reduceEqDiff, (hA_3_4 hA), (hA_23_4 hA)]
theorem Cn_cpI24 {A : Nat → Nat} {m : MH} {f p n : Nat} (hA : inj40 A) : Cn A (cpI m (A 24) f p n) = Cn A m := by
  simp only [Cn, cpI_i, false_and, if_false, Nat.reduceEqDiff, (hA_5_24 hA), (hA_6_24 hA), (hA_7_24 hA), (hA_8_24 hA), (hA_9_24 hA), (hA_10_24 hA), (hA_11_24 hA), (hA_12_24 hA), (hA_13_24 hA), (hA_14_24 hA), (hA_28_24 hA), (hA_31_24 hA), (hA_32_24 hA), (hA_33_24 hA), (hA_34_24 hA), (hA_35_24 hA), (hA_36_24 hA)]
theorem Cn_cpL4 {A : Nat → Nat} {m : MH} {f p n : Nat} (hA : inj40 A) : Cn A (cpL m (A 4) f p n) = Cn A m := by
  simp only [Cn, cpL_i]
theorem Tx_cpI24 {A : Nat → Nat} {m : MH} {f p n : Nat} (hA : inj40 A) : Tx A (cpI m (A 24) f p n) = Tx A m := by
  simp only [Tx, cpI_i, cpI_r, cpI_c, cpI_n, cpI_z, cpI_t, false_and, if_false, Nat.reduceEqDiff, (hA_20_24 hA)]
theorem Tx_cpL4 {A : Nat → Nat} {m : MH} {f p n : Nat} (hA : inj40 A) : Tx A (cpL m (A 4) f p n) = Tx A m := by
  simp only [Tx, cpL_i, cpL_r, cpL_c, cpL_n, cpL_z, cpL_t]
set_option maxRecDepth 100000 in
theorem pD : ∀ t ∈ PS, (t.2.2.2 = 0 → t.1 = Int32.ofNat t.1.toNatClampNeg ∧ t.2.1 = 10 ∧ t.1.toNatClampNeg ≤ 10 ∧ ∀ n ∈ List.range 5, t.1.toNatClampNeg + n ≤ 10 → (Int32.ofNat (t.1.toNatClampNeg + n), 10, t.2.2.1, 0) ∈ PS) := by
  have z : ∀ t ∈ PS, (t.2.2.2 = 0 → t.1 = Int32.ofNat t.1.toNatClampNeg ∧ t.2.1 = 10 ∧ t.1.toNatClampNeg ≤ 10 ∧ ∀ n ∈ List.range 5, t.1.toNatClampNeg + n ≤ 10 → cPS (Int32.ofNat (t.1.toNatClampNeg + n), 10, t.2.2.1, 0)) := by
    (try unfold rdy vp_in)
    unfold cPS
    decide +kernel
  exact fun t ht e => ⟨(z t ht e).1, (z t ht e).2.1, (z t ht e).2.2.1, fun n hn hp => cPS_mem ((z t ht e).2.2.2 n hn hp)⟩
set_option maxRecDepth 100000 in
theorem pE : ∀ t ∈ PS, (t.2.2.2 = 1 → t.1 = Int32.ofNat t.1.toNatClampNeg ∧ t.2.1 = Int32.ofNat t.2.1.toNatClampNeg ∧ t.1.toNatClampNeg ≤ t.2.1.toNatClampNeg ∧ t.2.1.toNatClampNeg ≤ 10 ∧ ∀ n ∈ List.range 5, t.1.toNatClampNeg + n ≤ t.2.1.toNatClampNeg → (Int32.ofNat (t.1.toNatClampNeg + n), t.2.1, t.2.2.1, 1) ∈ PS) := by
  have z : ∀ t ∈ PS, (t.2.2.2 = 1 → t.1 = Int32.ofNat t.1.toNatClampNeg ∧ t.2.1 = Int32.ofNat t.2.1.toNatClampNeg ∧ t.1.toNatClampNeg ≤ t.2.1.toNatClampNeg ∧ t.2.1.toNatClampNeg ≤ 10 ∧ ∀ n ∈ List.range 5, t.1.toNatClampNeg + n ≤ t.2.1.toNatClampNeg → cPS (Int32.ofNat (t.1.toNatClampNeg + n), t.2.1, t.2.2.1, 1)) := by
    (try unfold rdy vp_in)
    unfold cPS
    decide +kernel
  exact fun t ht e => ⟨(z t ht e).1, (z t ht e).2.1, (z t ht e).2.2.1, (z t ht e).2.2.2.1, fun n hn hp => cPS_mem ((z t ht e).2.2.2.2 n hn hp)⟩
theorem s_nat {s : Int32} (h1 : ¬ s < 0) (h2 : s < 6) : ∃ S : Nat, s = Int32.ofNat S ∧ S < 6 := by
  rw [Int32.lt_iff_toInt_lt] at h1 h2
  have e1 : (0 : Int32).toInt = 0 := rfl
  have e2 : (6 : Int32).toInt = 6 := rfl
  exact ⟨s.toInt.toNat, toNat_of (by omega), by omega⟩
theorem f_nat {s : Int32} (h1 : ¬ s < 0) (h2 : s < 4) : ∃ S : Nat, s = Int32.ofNat S ∧ S < 4 := by
  rw [Int32.lt_iff_toInt_lt] at h1 h2
  have e1 : (0 : Int32).toInt = 0 := rfl
  have e2 : (4 : Int32).toInt = 4 := rfl
  exact ⟨s.toInt.toNat, toNat_of (by omega), by omega⟩
end

section
theorem cpo_step {x rw cs w S F P n : Nat} {j : Nat} {h : MH} {Q : MR → MH → Prop} (x1 : g_c h x = 7) (x2 : g_r h x 1 = some rw) (x6 : g_r h x 5 = some w) (r1 : g_c h rw = 3) (r2 : g_r h rw 0 = some cs) (r3 : g_c h cs = 102) (r4 : g_n h cs = 36) (r5 : g_z h ≤ cs) (w1 : g_c h w = 4) (w2 : g_z h ≤ w) (w3 : g_r h w 0 = some rw) (s0 : g_i h w 3 = 0) (a1 : g_i h w 1 = 1) (a2 : g_i h w 2 = 10) (a5 : g_i h w 5 = 10) (vs : ∀ k, k < 36 → (g_l h cs k).toInt32.toInt64 = g_l h cs k) (hS : S < 6) (hF : F + n ≤ 4) (hP : P + n ≤ 10) (hj : j < n) : Ok 82 29 [.ref x, .int (Int32.ofNat S), .int (Int32.ofNat F), .int (Int32.ofNat n), .int (Int32.ofNat j)] [] (p_i (cpL h cs (1 + P) (11 + 4 * S + F) j) w 4 (Int32.ofNat (P + j))) 0 0 Q ↔ Ok 82 29 [.ref x, .int (Int32.ofNat S), .int (Int32.ofNat F), .int (Int32.ofNat n), .int (Int32.ofNat (j + 1))] [] (p_i (cpL h cs (1 + P) (11 + 4 * S + F) (j + 1)) w 4 (Int32.ofNat (P + (j + 1)))) 0 0 Q := by
  have c1 : (Int32.ofNat j < Int32.ofNat n) = True := by rw [n_lt (by omega) (by omega)]; exact eq_true hj
  have e4 : 4 * Int32.ofNat S = Int32.ofNat (4 * S) := n_mul 4 S
  have e11 : 11 + Int32.ofNat (4 * S) = Int32.ofNat (11 + 4 * S) := n_add 11 (4 * S)
  have e1 : 1 + Int32.ofNat (P + j) = Int32.ofNat (1 + (P + j)) := n_add 1 (P + j)
  have e2 : Int32.ofNat (P + j) + 1 = Int32.ofNat (P + (j + 1)) := n_add (P + j) 1
  have e3 : Int32.ofNat j + 1 = Int32.ofNat (j + 1) := n_add j 1
  have c2 : (Int32.ofNat (P + j) < 0) = False := n_z (by omega)
  have c3 : (Int32.ofNat (P + j) < 10) = True := by rw [show (10 : Int32) = Int32.ofNat 10 from rfl, n_lt (by omega) (by omega)]; exact eq_true (by omega)
  have c4 : (10 - Int32.ofNat (P + j) = 0) = False := by
    rw [show (10 : Int32) = Int32.ofNat 10 from rfl, n_sub (by omega) (by omega), show (0 : Int32) = Int32.ofNat 0 from rfl]
    exact eq_false (fun z => by have := congrArg Int32.toNatClampNeg z; rw [n_cl (by omega), n_cl (by omega)] at this; omega)
  have c5 : rdy 36 (Int32.ofNat (11 + 4 * S + (F + j))) := n_rdy (by omega) (by omega)
  have c6 : rdy 36 (Int32.ofNat (1 + (P + j))) := n_rdy (by omega) (by omega)
  have c7 : (Int32.ofNat (11 + 4 * S + (F + j))).toNatClampNeg = 11 + 4 * S + (F + j) := n_cl (by omega)
  have c8 : (Int32.ofNat (1 + (P + j))).toNatClampNeg = 1 + (P + j) := n_cl (by omega)
  have c9 := cpL_o (h := h) (cs := cs) (d := 1 + P) (s := 11 + 4 * S + F) (n := j) (i := 11 + 4 * S + (F + j)) (by omega)
  have c10 := vs (11 + 4 * S + (F + j)) (by omega)
  have c11 := cpL_s (h := h) (cs := cs) (d := 1 + P) (s := 11 + 4 * S + F) (n := j) (i := 1 + (P + j)) (v := g_l h cs (11 + 4 * S + (F + j))) (by omega) (by rw [Nat.add_assoc (11 + 4 * S) F j])
  rw [o82_29]
  simp only [o82_31, o82_32, o82_35, o82_36, o82_39, o82_40, o82_41, o82_42, o82_44, o82_45, o82_48, o82_49, o82_52, o82_53, o82_56, c_X5_fourthIn (rw := rw) (cs := cs), c_X3_writeNext (rw := rw) (cs := cs) (n := 36), mc_pi, mn_pi, mi_pi, ml_pi, mr_pi, mz_pi, mcs_0, mcs_r, Kn_v, mrf_some, true_and, and_false, not_true_eq_false, not_false_eq_true, false_implies, forall_const, if_true, if_false, and_self, Nat.reduceEqDiff, Nat.reduceLeDiff, Nat.reduceAdd, Nat.zero_le, lt_le, cpL_c, cpL_n, cpL_r, cpL_i, cpL_z, x1, x2, x6, r1, r2, r3, r4, r5, w1, w2, w3, s0, a1, a2, a5, e4, e11, n_add, c1, c2, c3, c4, c5, c6, c7, c8, c9, c10, e1, e2, e3, p_li, c11, p_ii]

theorem cpo_loop {x rw cs w S F P n : Nat} {h : MH} {Q : MR → MH → Prop} (x1 : g_c h x = 7) (x2 : g_r h x 1 = some rw) (x6 : g_r h x 5 = some w) (r1 : g_c h rw = 3) (r2 : g_r h rw 0 = some cs) (r3 : g_c h cs = 102) (r4 : g_n h cs = 36) (r5 : g_z h ≤ cs) (w1 : g_c h w = 4) (w2 : g_z h ≤ w) (w3 : g_r h w 0 = some rw) (s0 : g_i h w 3 = 0) (a1 : g_i h w 1 = 1) (a2 : g_i h w 2 = 10) (a5 : g_i h w 5 = 10) (vs : ∀ k, k < 36 → (g_l h cs k).toInt32.toInt64 = g_l h cs k) (hS : S < 6) (hF : F + n ≤ 4) (hP : P + n ≤ 10) : ∀ d j : Nat, j + d = n → (Ok 82 29 [.ref x, .int (Int32.ofNat S), .int (Int32.ofNat F), .int (Int32.ofNat n), .int (Int32.ofNat j)] [] (p_i (cpL h cs (1 + P) (11 + 4 * S + F) j) w 4 (Int32.ofNat (P + j))) 0 0 Q ↔ Ok 82 29 [.ref x, .int (Int32.ofNat S), .int (Int32.ofNat F), .int (Int32.ofNat n), .int (Int32.ofNat n)] [] (p_i (cpL h cs (1 + P) (11 + 4 * S + F) n) w 4 (Int32.ofNat (P + n))) 0 0 Q)
  | 0, j, hd => by
    have : j = n := by omega
    subst this
    exact Iff.rfl
  | d + 1, j, hd => (cpo_step (n := n) (j := j) x1 x2 x6 r1 r2 r3 r4 r5 w1 w2 w3 s0 a1 a2 a5 vs hS hF hP (by omega)).trans (cpo_loop x1 x2 x6 r1 r2 r3 r4 r5 w1 w2 w3 s0 a1 a2 a5 vs hS hF hP d (j + 1) (by omega))

theorem cpo_all {x rw cs w S F P n : Nat} {h : MH} {Q : MR → MH → Prop} (x1 : g_c h x = 7) (x2 : g_r h x 1 = some rw) (x6 : g_r h x 5 = some w) (r1 : g_c h rw = 3) (r2 : g_r h rw 0 = some cs) (r3 : g_c h cs = 102) (r4 : g_n h cs = 36) (r5 : g_z h ≤ cs) (w1 : g_c h w = 4) (w2 : g_z h ≤ w) (w3 : g_r h w 0 = some rw) (s0 : g_i h w 3 = 0) (a1 : g_i h w 1 = 1) (a2 : g_i h w 2 = 10) (a5 : g_i h w 5 = 10) (vs : ∀ k, k < 36 → (g_l h cs k).toInt32.toInt64 = g_l h cs k) (hS : S < 6) (hF : F + n ≤ 4) (hP : P + n ≤ 10) (a4 : g_i h w 4 = Int32.ofNat P) : Ok 82 29 [.ref x, .int (Int32.ofNat S), .int (Int32.ofNat F), .int (Int32.ofNat n), .int 0] [] h 0 0 Q ↔ Ok 82 59 [.ref x, .int (Int32.ofNat S), .int (Int32.ofNat F), .int (Int32.ofNat n), .int (Int32.ofNat n)] [] (p_i (cpL h cs (1 + P) (11 + 4 * S + F) n) w 4 (Int32.ofNat (P + n))) 0 0 Q := by
  have lp := cpo_loop (Q := Q) x1 x2 x6 r1 r2 r3 r4 r5 w1 w2 w3 s0 a1 a2 a5 vs hS hF hP n 0 (by omega)
  rw [cpL_0, Nat.add_zero, ← a4, p_i_self] at lp
  rw [show (0 : Int32) = Int32.ofNat 0 from rfl, lp, o82_29]
  simp only [o82_31, o82_32, and_true, not_true_eq_false, not_false_eq_true, false_implies, forall_const, lt_le, n_irr]
  all_goals (try exact Iff.rfl)

theorem mpo_step {m sr w S F P n : Nat} {j : Nat} {h : MH} {Q : MR → MH → Prop} (m1 : g_c h m = 9) (g1 : g_r h m 1 = some sr) (g2 : g_c h sr = 101) (g3 : g_n h sr = 36) (g4 : g_z h ≤ sr) (m5 : g_r h m 5 = some w) (w1 : g_c h w = 8) (w2 : g_z h ≤ w) (nw : ¬ w = sr) (nw2 : ¬ sr = w) (a5 : g_i h w 4 = 10) (hS : S < 6) (hF : F + n ≤ 4) (hP : P + n ≤ 10) (hj : j < n) : Ok 209 42 [.ref m, .int (Int32.ofNat S), .int (Int32.ofNat F), .int (Int32.ofNat j), .int (Int32.ofNat (F + j))] [] (p_i (cpI h sr (1 + P) (11 + 4 * S + F) j) w 3 (Int32.ofNat (P + j))) 0 0 Q ↔ Ok 209 42 [.ref m, .int (Int32.ofNat S), .int (Int32.ofNat F), .int (Int32.ofNat (j + 1)), .int (Int32.ofNat (F + (j + 1)))] [] (p_i (cpI h sr (1 + P) (11 + 4 * S + F) (j + 1)) w 3 (Int32.ofNat (P + (j + 1)))) 0 0 Q := by
  have c1 : (Int32.ofNat (F + j) < 4) = True := by rw [show (4 : Int32) = Int32.ofNat 4 from rfl, n_lt (by omega) (by omega)]; exact eq_true (by omega)
  have e4 : 4 * Int32.ofNat S = Int32.ofNat (4 * S) := n_mul 4 S
  have e11 : 11 + Int32.ofNat (4 * S) = Int32.ofNat (11 + 4 * S) := n_add 11 (4 * S)
  have e1 : 1 + Int32.ofNat (P + j) = Int32.ofNat (1 + (P + j)) := n_add 1 (P + j)
  have e2 : Int32.ofNat (P + j) + 1 = Int32.ofNat (P + (j + 1)) := n_add (P + j) 1
  have e3 : Int32.ofNat j + 1 = Int32.ofNat (j + 1) := n_add j 1
  have e5 : Int32.ofNat (F + j) + 1 = Int32.ofNat (F + (j + 1)) := n_add (F + j) 1
  have c4 : (0 < 10 - Int32.ofNat (P + j)) = True := by
    rw [show (10 : Int32) = Int32.ofNat 10 from rfl, n_sub (by omega) (by omega), show (0 : Int32) = Int32.ofNat 0 from rfl, n_lt (by omega) (by omega)]
    exact eq_true (by omega)
  have c5 : vp_in (Int32.ofNat (11 + 4 * S + (F + j))) 36 := (n_rdy (n := 36) (by omega) (by omega)).2.2
  have c6 : vp_in (Int32.ofNat (1 + (P + j))) 36 := (n_rdy (n := 36) (by omega) (by omega)).2.2
  have c7 : (Int32.ofNat (11 + 4 * S + (F + j))).toNatClampNeg = 11 + 4 * S + (F + j) := n_cl (by omega)
  have c8 : (Int32.ofNat (1 + (P + j))).toNatClampNeg = 1 + (P + j) := n_cl (by omega)
  have c9 := cpI_o (h := h) (cs := sr) (d := 1 + P) (s := 11 + 4 * S + F) (n := j) (i := 11 + 4 * S + (F + j)) (by omega)
  have c11 := cpI_s (h := h) (cs := sr) (d := 1 + P) (s := 11 + 4 * S + F) (n := j) (i := 1 + (P + j)) (v := g_i h sr (11 + 4 * S + (F + j))) (by omega) (by rw [Nat.add_assoc (11 + 4 * S) F j])
  rw [o209_42]
  simp only [o209_44, o209_45, o209_48, o209_49, o209_52, o209_55, o209_58, o209_59, o209_60, o209_63, o209_65, o209_66, o209_67, o209_68, o209_69, o209_71, o209_72, o209_73, o209_76, o209_79, o209_82, c_X7_rests, o206_0, o206_1, o206_4, o206_5, o206_6, o206_9, o206_12, o206_13, o206_14, o206_15, o206_16, o206_19, o206_20, o206_23, o206_24, o206_25, o206_28, mc_pi, mn_pi, mi_pi, mr_pi, mz_pi, mcs_0, Kn_v, Kn_0, mrf_some, kok_0, true_and, false_and, and_false, not_true_eq_false, not_false_eq_true, false_implies, forall_const, if_true, if_false, and_self, Nat.reduceEqDiff, Nat.zero_le, lt_le, cpI_c, cpI_n, cpI_r, cpI_z, m1, g1, g2, g3, g4, m5, w1, w2, nw2, a5, cpI_w nw, e4, e11, n_add, c1, c4, c5, c6, c7, c8, c9, e1, e2, e3, e5, p_i_c nw, c11, p_ii, false_and]

theorem mpo_loop {m sr w S F P n : Nat} {h : MH} {Q : MR → MH → Prop} (m1 : g_c h m = 9) (g1 : g_r h m 1 = some sr) (g2 : g_c h sr = 101) (g3 : g_n h sr = 36) (g4 : g_z h ≤ sr) (m5 : g_r h m 5 = some w) (w1 : g_c h w = 8) (w2 : g_z h ≤ w) (nw : ¬ w = sr) (nw2 : ¬ sr = w) (a5 : g_i h w 4 = 10) (hS : S < 6) (hF : F + n ≤ 4) (hP : P + n ≤ 10) : ∀ d j : Nat, j + d = n → (Ok 209 42 [.ref m, .int (Int32.ofNat S), .int (Int32.ofNat F), .int (Int32.ofNat j), .int (Int32.ofNat (F + j))] [] (p_i (cpI h sr (1 + P) (11 + 4 * S + F) j) w 3 (Int32.ofNat (P + j))) 0 0 Q ↔ Ok 209 42 [.ref m, .int (Int32.ofNat S), .int (Int32.ofNat F), .int (Int32.ofNat n), .int (Int32.ofNat (F + n))] [] (p_i (cpI h sr (1 + P) (11 + 4 * S + F) n) w 3 (Int32.ofNat (P + n))) 0 0 Q)
  | 0, j, hd => by
    have : j = n := by omega
    subst this
    exact Iff.rfl
  | d + 1, j, hd => (mpo_step (n := n) (j := j) m1 g1 g2 g3 g4 m5 w1 w2 nw nw2 a5 hS hF hP (by omega)).trans (mpo_loop m1 g1 g2 g3 g4 m5 w1 w2 nw nw2 a5 hS hF hP d (j + 1) (by omega))

theorem mpo_all {m sr w S F P n : Nat} {h : MH} {Q : MR → MH → Prop} (m1 : g_c h m = 9) (g1 : g_r h m 1 = some sr) (g2 : g_c h sr = 101) (g3 : g_n h sr = 36) (g4 : g_z h ≤ sr) (m5 : g_r h m 5 = some w) (w1 : g_c h w = 8) (w2 : g_z h ≤ w) (nw : ¬ w = sr) (nw2 : ¬ sr = w) (a5 : g_i h w 4 = 10) (hS : S < 6) (hF : F + n ≤ 4) (hP : P + n ≤ 10) (a4 : g_i h w 3 = Int32.ofNat P) (he : F + n = 4 ∨ P + n = 10) : Ok 209 42 [.ref m, .int (Int32.ofNat S), .int (Int32.ofNat F), .int 0, .int (Int32.ofNat F)] [] h 0 0 Q ↔ Ok 209 85 [.ref m, .int (Int32.ofNat S), .int (Int32.ofNat F), .int (Int32.ofNat n), .int (Int32.ofNat (F + n))] [] (p_i (cpI h sr (1 + P) (11 + 4 * S + F) n) w 3 (Int32.ofNat (P + n))) 0 0 Q := by
  have lp := mpo_loop (Q := Q) m1 g1 g2 g3 g4 m5 w1 w2 nw nw2 a5 hS hF hP n 0 (by omega)
  rw [cpI_0, Nat.add_zero, Nat.add_zero, ← a4, p_i_self] at lp
  rw [show (0 : Int32) = Int32.ofNat 0 from rfl, lp, o209_42]
  by_cases hf : F + n = 4
  · have c1 : (Int32.ofNat (F + n) < 4) = False := by rw [hf]; decide
    simp only [o209_44, o209_45, o209_48, o209_49, mc_pi, mr_pi, and_true, not_true_eq_false, not_false_eq_true, false_implies, forall_const, lt_le, c1]
    all_goals (try exact Iff.rfl)
  · have c1 : (Int32.ofNat (F + n) < 4) = True := by rw [show (4 : Int32) = Int32.ofNat 4 from rfl, n_lt (by omega) (by omega)]; exact eq_true (by omega)
    have c2 : P + n = 10 := he.resolve_left hf
    have c3 : (0 < 10 - Int32.ofNat (P + n)) = False := by rw [c2]; decide
    have c4 : ¬ w = sr := nw
    simp only [o209_44, o209_45, o209_48, o209_49, o209_52, o209_55, c_X7_rests, mc_pi, mi_pi, mr_pi, mcs_0, Kn_v, mrf_some, true_and, and_true, and_false, not_true_eq_false, not_false_eq_true, false_implies, forall_const, if_true, if_false, and_self, Nat.reduceEqDiff, Nat.zero_le, lt_le, cpI_c, cpI_r, cpI_w nw, m1, m5, w1, a5, c1, c3]
    all_goals (try exact Iff.rfl)
end

/-! THE OPS of the lenses -/
theorem t_add {x y : Int32} (h1 : -2147483648 ≤ x.toInt + y.toInt) (h2 : x.toInt + y.toInt < 2147483648) : (x + y).toInt = x.toInt + y.toInt := by
  rw [Int32.toInt_add, Int.bmod_eq_of_le (by omega) (by omega)]
theorem t_sub {x y : Int32} (h1 : -2147483648 ≤ x.toInt - y.toInt) (h2 : x.toInt - y.toInt < 2147483648) : (x - y).toInt = x.toInt - y.toInt := by
  rw [Int32.toInt_sub, Int.bmod_eq_of_le (by omega) (by omega)]
theorem rdy_of {n : Nat} {j : Int32} (h0 : n < 2147483648) (h1 : 0 ≤ j.toInt) (h2 : j.toInt < n) : rdy n j := by
  have e0 : (0 : Int32).toInt = 0 := rfl
  have e1 : (Int32.ofNat n).toInt = n := Int32.toInt_ofNat_of_lt (by omega)
  have e2 : j.toNatClampNeg = j.toInt.toNat := rfl
  refine ⟨?_, ?_, ?_⟩
  · rw [Int32.lt_iff_toInt_lt]; omega
  · rw [Int32.lt_iff_toInt_lt]; omega
  · unfold vp_in
    rw [Int32.lt_iff_toInt_lt]
    omega
theorem lnxt (f p : Int32) : f + (p + 1) - 1 = f + p := by rw [← Int32.add_assoc]; exact Int32.add_sub_cancel _ _
theorem ln_ne {l p : Int32} (h : ¬ l - p = 0) : ¬ l.toInt = p.toInt := fun z => h (by rw [Int32.toInt_inj.mp z]; exact Int32.sub_self _)
theorem lnN {lo hi : Int} {R x : Nat} {f n s p l m : Int32} (k : lnOk lo hi x f n s p l m) (h0 : 0 ≤ lo) (h1 : hi ≤ R) (h2 : R < 2147483648) (e0 : ¬ l - p = 0) : ¬ p < 0 ∧ p < n ∧ rdy R (f + p) ∧ lnOk lo hi x f n s (p + 1) l m := by
  obtain ⟨k1, k2, k3, k4, k5, k6, k7, k8, k9, k10⟩ := k
  have e1 := ln_ne e0
  have z0 : (0 : Int32).toInt = 0 := rfl
  have z1 : (1 : Int32).toInt = 1 := rfl
  have a1 : (f + p).toInt = f.toInt + p.toInt := t_add (by omega) (by omega)
  have a2 : (p + 1).toInt = p.toInt + 1 := by rw [t_add (by omega) (by omega)]; omega
  refine ⟨by rw [Int32.lt_iff_toInt_lt]; omega, by rw [Int32.lt_iff_toInt_lt]; omega, rdy_of h2 (by omega) (by omega), k1, k2, k3, k4, k5, by omega, by omega, k8, k9, by omega⟩
theorem lnA {lo hi : Int} {R x : Nat} {f n s p l m e : Int32} (k : lnOk lo hi x f n s p l m) (h0 : 0 ≤ lo) (h1 : hi ≤ R) (h2 : R < 2147483648) (e1 : ¬ e < 0) (e2 : e < l) : e < n ∧ rdy R (f + e) := by
  obtain ⟨k1, k2, k3, k4, k5, k6, k7, k8, k9, k10⟩ := k
  rw [Int32.lt_iff_toInt_lt] at e1 e2
  have z0 : (0 : Int32).toInt = 0 := rfl
  have a1 : (f + e).toInt = f.toInt + e.toInt := t_add (by omega) (by omega)
  exact ⟨by rw [Int32.lt_iff_toInt_lt]; omega, rdy_of h2 (by omega) (by omega)⟩
theorem lnP {lo hi : Int} {x : Nat} {f n s p l m e : Int32} (k : lnOk lo hi x f n s p l m) (e1 : ¬ e < 0) (e2 : ¬ l < e) : lnOk lo hi x f n s e l (liM m e) := by
  obtain ⟨k1, k2, k3, k4, k5, k6, k7, k8, k9, k10⟩ := k
  rw [Int32.lt_iff_toInt_lt] at e1 e2
  have z0 : (0 : Int32).toInt = 0 := rfl
  have zm : (-1 : Int32).toInt = -1 := rfl
  unfold liM
  by_cases h : e < m
  · rw [if_pos h]
    exact ⟨k1, k2, k3, k4, k5, by omega, by omega, k8, by omega, by omega⟩
  · rw [if_neg h]
    rw [Int32.lt_iff_toInt_lt] at h
    exact ⟨k1, k2, k3, k4, k5, by omega, by omega, k8, by omega, by omega⟩
theorem lnL {lo hi : Int} {x : Nat} {f n s p l m e : Int32} (k : lnOk lo hi x f n s p l m) (e1 : ¬ e < 0) (e2 : ¬ n < e) : lnOk lo hi x f n s (liP p e) e (liM m e) := by
  obtain ⟨k1, k2, k3, k4, k5, k6, k7, k8, k9, k10⟩ := k
  rw [Int32.lt_iff_toInt_lt] at e1 e2
  have z0 : (0 : Int32).toInt = 0 := rfl
  have zm : (-1 : Int32).toInt = -1 := rfl
  unfold liM liP
  by_cases h : e < m
  · rw [if_pos h]
    by_cases h2 : e < p
    · rw [if_pos h2]
      exact ⟨k1, k2, k3, k4, k5, by omega, by omega, by omega, by omega, by omega⟩
    · rw [if_neg h2]
      rw [Int32.lt_iff_toInt_lt] at h2
      exact ⟨k1, k2, k3, k4, k5, by omega, by omega, by omega, by omega, by omega⟩
  · rw [if_neg h]
    rw [Int32.lt_iff_toInt_lt] at h
    by_cases h2 : e < p
    · rw [if_pos h2]
      exact ⟨k1, k2, k3, k4, k5, by omega, by omega, by omega, by omega, by omega⟩
    · rw [if_neg h2]
      rw [Int32.lt_iff_toInt_lt] at h2
      exact ⟨k1, k2, k3, k4, k5, by omega, by omega, by omega, by omega, by omega⟩
theorem e_cases {e : Int32} (h1 : ¬ e < 0) (h2 : e < 2) : e = 0 ∨ e = 1 := by
  have h3 : e < 4 := by
    rw [Int32.lt_iff_toInt_lt] at h2 ⊢
    have e1 : (4 : Int32).toInt = 4 := rfl
    have e2 : (2 : Int32).toInt = 2 := rfl
    omega
  rcases f_cases h1 h3 with rfl | rfl | rfl | rfl
  · exact Or.inl rfl
  · exact Or.inr rfl
  · exact absurd h2 (by decide)
  · exact absurd h2 (by decide)
theorem e_bad {e : Int32} (h : e < 0 ∨ ¬ e < 2) : (e = 0 ∨ e = 1) = False := by
  apply propext
  constructor
  · rintro (rfl | rfl)
    · exact absurd h (by decide)
    · exact absurd h (by decide)
  · exact False.elim
theorem be0 : ((0 : Int32) < 0 ∨ ¬ (0 : Int32) < 2) = False ∧ ((1 : Int32) < 0 ∨ ¬ (1 : Int32) < 2) = False ∧ vp_in 0 2 = True ∧ vp_in 1 2 = True ∧ ((0 : Int32) = 0 ∨ (0 : Int32) = 1) = True ∧ ((1 : Int32) = 0 ∨ (1 : Int32) = 1) = True := by unfold vp_in; decide

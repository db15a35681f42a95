/-! cells are copied within a row -/
def cpL (h : MH) (cs d s n : Nat) : MH := (h.1, h.2.1, h.2.2.1, fun b i => if b = cs ∧ d ≤ i ∧ i < d + n then g_l h cs (i - d + s) else g_l h b i, h.2.2.2.2)
def cpI (h : MH) (cs d s n : Nat) : MH := (h.1, h.2.1, fun b i => if b = cs ∧ d ≤ i ∧ i < d + n then g_i h cs (i - d + s) else g_i h b i, h.2.2.2)
theorem cpL_l {h : MH} {cs d s n b i : Nat} : g_l (cpL h cs d s n) b i = if b = cs ∧ d ≤ i ∧ i < d + n then g_l h cs (i - d + s) else g_l h b i := id rfl
theorem cpI_i {h : MH} {cs d s n b i : Nat} : g_i (cpI h cs d s n) b i = if b = cs ∧ d ≤ i ∧ i < d + n then g_i h cs (i - d + s) else g_i h b i := id rfl
section
variable {h : MH} {cs d s n b j : Nat}
theorem cpL_c : g_c (cpL h cs d s n) b = g_c h b := id rfl
theorem cpL_n : g_n (cpL h cs d s n) b = g_n h b := id rfl
theorem cpL_r : g_r (cpL h cs d s n) b j = g_r h b j := id rfl
theorem cpL_i : g_i (cpL h cs d s n) b j = g_i h b j := id rfl
theorem cpL_z : g_z (cpL h cs d s n) = g_z h := id rfl
theorem cpL_t : g_t (cpL h cs d s n) = g_t h := id rfl
theorem cpI_c : g_c (cpI h cs d s n) b = g_c h b := id rfl
theorem cpI_n : g_n (cpI h cs d s n) b = g_n h b := id rfl
theorem cpI_r : g_r (cpI h cs d s n) b j = g_r h b j := id rfl
theorem cpI_l : g_l (cpI h cs d s n) b j = g_l h b j := id rfl
theorem cpI_z : g_z (cpI h cs d s n) = g_z h := id rfl
theorem cpI_t : g_t (cpI h cs d s n) = g_t h := id rfl
end
theorem cpL_0 {h : MH} {cs d s : Nat} : cpL h cs d s 0 = h := by
  refine ml_ext (fun b j => ?_) rfl
  rw [cpL_l, if_neg (by omega)]
theorem cpI_0 {h : MH} {cs d s : Nat} : cpI h cs d s 0 = h := by
  refine mh_ext (fun b j => ?_) rfl
  rw [cpI_i, if_neg (by omega)]
theorem cpL_s {h : MH} {cs d s n i : Nat} {v : Int64} (e : i = d + n) (ev : v = g_l h cs (s + n)) : p_l (cpL h cs d s n) cs i v = cpL h cs d s (n + 1) := by
  subst e ev
  refine ml_ext (fun b j => ?_) rfl
  rw [ml_pl, cpL_l, cpL_l]
  by_cases hb : b = cs
  · subst hb
    by_cases hj : j = d + n
    · subst hj
      rw [if_pos ⟨rfl, rfl⟩, if_pos ⟨rfl, by omega, by omega⟩]
      congr 1
      omega
    · rw [if_neg (fun z => hj z.2)]
      by_cases hr : d ≤ j ∧ j < d + n
      · rw [if_pos ⟨rfl, hr.1, hr.2⟩, if_pos ⟨rfl, hr.1, by omega⟩]
      · rw [if_neg (fun z => hr z.2), if_neg (fun z => hr ⟨z.2.1, by omega⟩)]
  · rw [if_neg (fun z => hb z.1), if_neg (fun z => hb z.1), if_neg (fun z => hb z.1)]
theorem cpI_s {h : MH} {cs d s n i : Nat} {v : Int32} (e : i = d + n) (ev : v = g_i h cs (s + n)) : p_i (cpI h cs d s n) cs i v = cpI h cs d s (n + 1) := by
  subst e ev
  refine mh_ext (fun b j => ?_) rfl
  rw [mi_pi, cpI_i, cpI_i]
  by_cases hb : b = cs
  · subst hb
    by_cases hj : j = d + n
    · subst hj
      rw [if_pos ⟨rfl, rfl⟩, if_pos ⟨rfl, by omega, by omega⟩]
      congr 1
      omega
    · rw [if_neg (fun z => hj z.2)]
      by_cases hr : d ≤ j ∧ j < d + n
      · rw [if_pos ⟨rfl, hr.1, hr.2⟩, if_pos ⟨rfl, hr.1, by omega⟩]
      · rw [if_neg (fun z => hr z.2), if_neg (fun z => hr ⟨z.2.1, by omega⟩)]
  · rw [if_neg (fun z => hb z.1), if_neg (fun z => hb z.1), if_neg (fun z => hb z.1)]
theorem cpL_o {h : MH} {cs d s n i : Nat} (e : i < d ∨ d + n ≤ i) : g_l (cpL h cs d s n) cs i = g_l h cs i := by
  rw [cpL_l, if_neg (by omega)]
theorem cpI_o {h : MH} {cs d s n i : Nat} (e : i < d ∨ d + n ≤ i) : g_i (cpI h cs d s n) cs i = g_i h cs i := by
  rw [cpI_i, if_neg (by omega)]
theorem cpI_w {h : MH} {cs d s n w i : Nat} (hw : ¬ w = cs) : g_i (cpI h cs d s n) w i = g_i h w i := by rw [cpI_i, if_neg (fun z => hw z.1)]
theorem p_ii {h : MH} {a k : Nat} {u v : Int32} : p_i (p_i h a k u) a k v = p_i h a k v := by
  refine mh_ext (fun b j => ?_) rfl
  rw [mi_pi, mi_pi, mi_pi]
  by_cases hb : b = a ∧ j = k
  · rw [if_pos hb, if_pos hb]
  · rw [if_neg hb, if_neg hb, if_neg hb]
theorem p_li {h : MH} {a k b j : Nat} {u : Int32} {v : Int64} : p_l (p_i h a k u) b j v = p_i (p_l h b j v) a k u := id rfl
theorem p_i_c {h : MH} {a k b j : Nat} {u v : Int32} (n : ¬ a = b) : p_i (p_i h a k u) b j v = p_i (p_i h b j v) a k u := by
  refine mh_ext (fun c i => ?_) rfl
  rw [mi_pi, mi_pi, mi_pi, mi_pi]
  by_cases h1 : c = b ∧ i = j
  · rw [if_pos h1, if_neg (fun z => n (z.1.symm.trans h1.1)), if_pos h1]
  · rw [if_neg h1]
    by_cases h2 : c = a ∧ i = k
    · rw [if_pos h2, if_pos h2]
    · rw [if_neg h2, if_neg h2, if_neg h1]
theorem n_mul (a b : Nat) : Int32.ofNat a * Int32.ofNat b = Int32.ofNat (a * b) := (Int32.ofNat_mul a b).symm
theorem Vsr_cp {A : Nat → Nat} {h m : MH} {d s n : Nat} (v : Vsr A h) (hb : s + n ≤ 36) (e1 : ∀ k, g_l m (A 4) k = if d ≤ k ∧ k < d + n then g_l h (A 4) (k - d + s) else g_l h (A 4) k) (e2 : ∀ k, g_i m (A 24) k = if d ≤ k ∧ k < d + n then g_i h (A 24) (k - d + s) else g_i h (A 24) k) : Vsr A m := by
  intro k hk
  rw [e1, e2]
  by_cases c : d ≤ k ∧ k < d + n
  · rw [if_pos c, if_pos c]
    exact v _ (by omega)
  · rw [if_neg c, if_neg c]
    exact v k hk
theorem K_cpI {A : Nat → Nat} {m : MH} {a f p n : Nat} : K A (cpI m a f p n) = K A m := id rfl
theorem K_cpL {A : Nat → Nat} {m : MH} {a f p n : Nat} : K A (cpL m a f p n) = K A m := id rfl
theorem Vq0_cpI24 {A : Nat → Nat} {m : MH} {f p n : Nat} (hA : inj40 A) : Vq0 A (cpI m (A 24) f p n) = Vq0 A m := by
  simp only [Vq0, cT, mT, cpI_i, false_and, if_false, Nat.reduceEqDiff, (hA_5_24 hA), (hA_8_24 hA), (hA_9_24 hA), (hA_27_24 hA), (hA_31_24 hA), (hA_34_24 hA)]
theorem Vq0_cpL4 {A : Nat → Nat} {m : MH} {f p n : Nat} (hA : inj40 A) : Vq0 A (cpL m (A 4) f p n) = Vq0 A m := by
  simp only [Vq0, cT, mT, cpL_i]
theorem Vq1_cpI24 {A : Nat → Nat} {m : MH} {f p n : Nat} (hA : inj40 A) : Vq1 A (cpI m (A 24) f p n) = Vq1 A m := by
  simp only [Vq1, cT, mT, cpI_i, false_and, if_false, Nat.reduceEqDiff, (hA_6_24 hA), (hA_10_24 hA), (hA_11_24 hA), (hA_27_24 hA), (hA_32_24 hA), (hA_35_24 hA)]
theorem Vq1_cpL4 {A : Nat → Nat} {m : MH} {f p n : Nat} (hA : inj40 A) : Vq1 A (cpL m (A 4) f p n) = Vq1 A m := by
  simp only [Vq1, cT, mT, cpL_i]
theorem Vq2_cpI24 {A : Nat → Nat} {m : MH} {f p n : Nat} (hA : inj40 A) : Vq2 A (cpI m (A 24) f p n) = Vq2 A m := by
  simp only [Vq2, cT, mT, cpI_i, false_and, if_false, Nat.reduceEqDiff, (hA_7_24 hA), (hA_12_24 hA), (hA_13_24 hA), (hA_27_24 hA), (hA_33_24 hA), (hA_36_24 hA)]
theorem Vq2_cpL4 {A : Nat → Nat} {m : MH} {f p n : Nat} (hA : inj40 A) : Vq2 A (cpL m (A 4) f p n) = Vq2 A m := by
  simp only [Vq2, cT, mT, cpL_i]
theorem Vl0_cpI24 {A : Nat → Nat} {m : MH} {f p n : Nat} (hA : inj40 A) : Vl0 A (cpI m (A 24) f p n) = Vl0 A m := by
  simp only [Vl0, cpI_i, false_and, if_false, Nat.reduceEqDiff, (hA_15_24 hA), (hA_37_24 hA)]
theorem Vl0_cpL4 {A : Nat → Nat} {m : MH} {f p n : Nat} (hA : inj40 A) : Vl0 A (cpL m (A 4) f p n) = Vl0 A m := by
  simp only [Vl0, cpL_i]
theorem Vl1_cpI24 {A : Nat → Nat} {m : MH} {f p n : Nat} (hA : inj40 A) : Vl1 A (cpI m (A 24) f p n) = Vl1 A m := by
  simp only [Vl1, cpI_i, false_and, if_false, Nat.reduceEqDiff, (hA_16_24 hA), (hA_38_24 hA)]
theorem Vl1_cpL4 {A : Nat → Nat} {m : MH} {f p n : Nat} (hA : inj40 A) : Vl1 A (cpL m (A 4) f p n) = Vl1 A m := by
  simp only [Vl1, cpL_i]
theorem Vlr_cpI24 {A : Nat → Nat} {m : MH} {f p n : Nat} (hA : inj40 A) : Vlr A (cpI m (A 24) f p n) = Vlr A m := by
  simp only [Vlr, cpI_l]
theorem Vlr_cpL4 {A : Nat → Nat} {m : MH} {f p n : Nat} (hA : inj40 A) : Vlr A (cpL m (A 4) f p n) = Vlr A m := by
  simp only [Vlr, cpL_l, false_and, if_false, Nat.reduceEqDiff, (hA_3_4 hA), (hA_23_4 hA)]
theorem Cn_cpI24 {A : Nat → Nat} {m : MH} {f p n : Nat} (hA : inj40 A) : Cn A (cpI m (A 24) f p n) = Cn A m := by
  simp only [Cn, cpI_i, false_and, if_false, Nat.reduceEqDiff, (hA_5_24 hA), (hA_6_24 hA), (hA_7_24 hA), (hA_8_24 hA), (hA_9_24 hA), (hA_10_24 hA), (hA_11_24 hA), (hA_12_24 hA), (hA_13_24 hA), (hA_14_24 hA), (hA_28_24 hA), (hA_31_24 hA), (hA_32_24 hA), (hA_33_24 hA), (hA_34_24 hA), (hA_35_24 hA), (hA_36_24 hA)]
theorem Cn_cpL4 {A : Nat → Nat} {m : MH} {f p n : Nat} (hA : inj40 A) : Cn A (cpL m (A 4) f p n) = Cn A m := by
  simp only [Cn, cpL_i]
theorem Tx_cpI24 {A : Nat → Nat} {m : MH} {f p n : Nat} (hA : inj40 A) : Tx A (cpI m (A 24) f p n) = Tx A m := by
  simp only [Tx, cpI_i, cpI_r, cpI_c, cpI_n, cpI_z, cpI_t, false_and, if_false, Nat.reduceEqDiff, (hA_20_24 hA)]
theorem Tx_cpL4 {A : Nat → Nat} {m : MH} {f p n : Nat} (hA : inj40 A) : Tx A (cpL m (A 4) f p n) = Tx A m := by
  simp only [Tx, cpL_i, cpL_r, cpL_c, cpL_n, cpL_z, cpL_t]
set_option maxRecDepth 100000 in
theorem pD : ∀ t ∈ PS, (t.2.2.2 = 0 → t.1 = Int32.ofNat t.1.toNatClampNeg ∧ t.2.1 = 10 ∧ t.1.toNatClampNeg ≤ 10 ∧ ∀ n ∈ List.range 5, t.1.toNatClampNeg + n ≤ 10 → (Int32.ofNat (t.1.toNatClampNeg + n), 10, t.2.2.1, 0) ∈ PS) := by
  have z : ∀ t ∈ PS, (t.2.2.2 = 0 → t.1 = Int32.ofNat t.1.toNatClampNeg ∧ t.2.1 = 10 ∧ t.1.toNatClampNeg ≤ 10 ∧ ∀ n ∈ List.range 5, t.1.toNatClampNeg + n ≤ 10 → cPS (Int32.ofNat (t.1.toNatClampNeg + n), 10, t.2.2.1, 0)) := by
    (try unfold rdy vp_in)
    unfold cPS
    decide +kernel
  exact fun t ht e => ⟨(z t ht e).1, (z t ht e).2.1, (z t ht e).2.2.1, fun n hn hp => cPS_mem ((z t ht e).2.2.2 n hn hp)⟩
set_option maxRecDepth 100000 in
theorem pE : ∀ t ∈ PS, (t.2.2.2 = 1 → t.1 = Int32.ofNat t.1.toNatClampNeg ∧ t.2.1 = Int32.ofNat t.2.1.toNatClampNeg ∧ t.1.toNatClampNeg ≤ t.2.1.toNatClampNeg ∧ t.2.1.toNatClampNeg ≤ 10 ∧ ∀ n ∈ List.range 5, t.1.toNatClampNeg + n ≤ t.2.1.toNatClampNeg → (Int32.ofNat (t.1.toNatClampNeg + n), t.2.1, t.2.2.1, 1) ∈ PS) := by
  have z : ∀ t ∈ PS, (t.2.2.2 = 1 → t.1 = Int32.ofNat t.1.toNatClampNeg ∧ t.2.1 = Int32.ofNat t.2.1.toNatClampNeg ∧ t.1.toNatClampNeg ≤ t.2.1.toNatClampNeg ∧ t.2.1.toNatClampNeg ≤ 10 ∧ ∀ n ∈ List.range 5, t.1.toNatClampNeg + n ≤ t.2.1.toNatClampNeg → cPS (Int32.ofNat (t.1.toNatClampNeg + n), t.2.1, t.2.2.1, 1)) := by
    (try unfold rdy vp_in)
    unfold cPS
    decide +kernel
  exact fun t ht e => ⟨(z t ht e).1, (z t ht e).2.1, (z t ht e).2.2.1, (z t ht e).2.2.2.1, fun n hn hp => cPS_mem ((z t ht e).2.2.2.2 n hn hp)⟩
theorem s_nat {s : Int32} (h1 : ¬ s < 0) (h2 : s < 6) : ∃ S : Nat, s = Int32.ofNat S ∧ S < 6 := by
  rw [Int32.lt_iff_toInt_lt] at h1 h2
  have e1 : (0 : Int32).toInt = 0 := rfl
  have e2 : (6 : Int32).toInt = 6 := rfl
  exact ⟨s.toInt.toNat, toNat_of (by omega), by omega⟩
theorem f_nat {s : Int32} (h1 : ¬ s < 0) (h2 : s < 4) : ∃ S : Nat, s = Int32.ofNat S ∧ S < 4 := by
  rw [Int32.lt_iff_toInt_lt] at h1 h2
  have e1 : (0 : Int32).toInt = 0 := rfl
  have e2 : (4 : Int32).toInt = 4 := rfl
  exact ⟨s.toInt.toNat, toNat_of (by omega), by omega⟩

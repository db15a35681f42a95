/-! THE OPS of the pipe -/
/-- what a state of the pipe is, said of its four numbers -/
def cPS (t : Int32 × Int32 × Int32 × Int32) : Prop := t.1 = Int32.ofNat t.1.toNatClampNeg ∧ (t.2.2.1 = -1 ∨ (t.2.2.1 = Int32.ofNat t.2.2.1.toNatClampNeg ∧ t.2.2.1.toNatClampNeg ≤ t.1.toNatClampNeg)) ∧ ((t.2.2.2 = 0 ∧ t.2.1 = 10 ∧ t.1.toNatClampNeg ≤ 10) ∨ (t.2.2.2 = 1 ∧ t.2.1 = Int32.ofNat t.2.1.toNatClampNeg ∧ t.1.toNatClampNeg ≤ t.2.1.toNatClampNeg ∧ t.2.1.toNatClampNeg ≤ 10))
theorem cPS_mem {t : Int32 × Int32 × Int32 × Int32} (k : cPS t) : t ∈ PS := by
  obtain ⟨p, l, m, d⟩ := t
  obtain ⟨hp, hm, hd⟩ := k
  dsimp only at hp hm hd
  have hm2 : m ∈ (-1 : Int32) :: (List.range (p.toNatClampNeg + 1)).map Int32.ofNat := by
    rcases hm with hm | ⟨e, hm⟩
    · exact List.mem_cons.2 (Or.inl hm)
    · exact List.mem_cons.2 (Or.inr (List.mem_map.2 ⟨m.toNatClampNeg, List.mem_range.2 (by omega), e.symm⟩))
  unfold PS
  rcases hd with ⟨d0, l10, h10⟩ | ⟨d1, hl, hpl, h10⟩
  · exact List.mem_append.2 (Or.inl (List.mem_flatMap.2 ⟨p.toNatClampNeg, List.mem_range.2 (by omega), List.mem_map.2 ⟨m, hm2, Prod.ext hp.symm (Prod.ext l10.symm (Prod.ext rfl d0.symm))⟩⟩))
  · exact List.mem_append.2 (Or.inr (List.mem_flatMap.2 ⟨l.toNatClampNeg, List.mem_range.2 (by omega), List.mem_flatMap.2 ⟨p.toNatClampNeg, List.mem_range.2 (by omega), List.mem_map.2 ⟨m, hm2, Prod.ext hp.symm (Prod.ext hl.symm (Prod.ext rfl d1.symm))⟩⟩⟩))
set_option maxRecDepth 100000 in
theorem pA : ∀ t ∈ PS, ((t.2.2.1 < 0 ∧ t.2.2.1 = -1) ∨ (¬ t.2.2.1 < 0 ∧ ¬ t.2.2.1 = -1)) ∧ (t.2.2.2 = 0 ∨ t.2.2.2 = 1) := by
  (try unfold rdy vp_in)
  decide +kernel
set_option maxRecDepth 100000 in
theorem pF : ∀ t ∈ PS, (t.2.1 - t.1 = 0 ∨ (¬ t.1 < 0 ∧ t.1 < 10 ∧ rdy 36 (1 + t.1) ∧ (1 + t.1, t.2.1, t.2.2.1, t.2.2.2) ∈ PS)) := by
  have z : ∀ t ∈ PS, (t.2.1 - t.1 = 0 ∨ (¬ t.1 < 0 ∧ t.1 < 10 ∧ rdy 36 (1 + t.1) ∧ cPS (1 + t.1, t.2.1, t.2.2.1, t.2.2.2))) := by
    (try unfold rdy vp_in)
    unfold cPS
    decide +kernel
  exact fun t ht => (z t ht).imp_right fun k => ⟨k.1, k.2.1, k.2.2.1, cPS_mem k.2.2.2⟩
set_option maxRecDepth 100000 in
theorem pR : ∀ t ∈ PS, (0, t.2.1, -1, t.2.2.2) ∈ PS := by
  have z : ∀ t ∈ PS, cPS (0, t.2.1, -1, t.2.2.2) := by
    (try unfold rdy vp_in)
    unfold cPS
    decide +kernel
  exact fun t ht => cPS_mem (z t ht)
set_option maxRecDepth 100000 in
theorem pK : ∀ t ∈ PS, (t.1, t.2.1, t.1, t.2.2.2) ∈ PS := by
  have z : ∀ t ∈ PS, cPS (t.1, t.2.1, t.1, t.2.2.2) := by
    (try unfold rdy vp_in)
    unfold cPS
    decide +kernel
  exact fun t ht => cPS_mem (z t ht)
set_option maxRecDepth 100000 in
theorem pB : ∀ t ∈ PS, (t.2.2.1 < 0 ∨ (t.2.2.1, t.2.1, t.2.2.1, t.2.2.2) ∈ PS) := by
  have z : ∀ t ∈ PS, (t.2.2.1 < 0 ∨ cPS (t.2.2.1, t.2.1, t.2.2.1, t.2.2.2)) := by
    (try unfold rdy vp_in)
    unfold cPS
    decide +kernel
  exact fun t ht => (z t ht).imp_right fun k => cPS_mem k
theorem pco (x : Int32) : x + 1 = 1 + x := Int32.add_comm x 1
theorem Cn_14_4 {A : Nat → Nat} {h : MH} {v : Int32} (hA : inj40 A) : Cn A (p_i h (A 14) 4 v) = Cn A h := by
  simp only [Cn, mi_pi, Nat.reduceEqDiff, and_false, if_false, (hA_5_14 hA), (hA_6_14 hA), (hA_7_14 hA), (hA_8_14 hA), (hA_9_14 hA), (hA_10_14 hA), (hA_11_14 hA), (hA_12_14 hA), (hA_13_14 hA), (hA_28_14 hA), (hA_31_14 hA), (hA_32_14 hA), (hA_33_14 hA), (hA_34_14 hA), (hA_35_14 hA), (hA_36_14 hA)]
theorem Cn_14_5 {A : Nat → Nat} {h : MH} {v : Int32} (hA : inj40 A) : Cn A (p_i h (A 14) 5 v) = Cn A h := by
  simp only [Cn, mi_pi, Nat.reduceEqDiff, and_false, if_false, (hA_5_14 hA), (hA_6_14 hA), (hA_7_14 hA), (hA_8_14 hA), (hA_9_14 hA), (hA_10_14 hA), (hA_11_14 hA), (hA_12_14 hA), (hA_13_14 hA), (hA_28_14 hA), (hA_31_14 hA), (hA_32_14 hA), (hA_33_14 hA), (hA_34_14 hA), (hA_35_14 hA), (hA_36_14 hA)]
theorem Cn_14_6 {A : Nat → Nat} {h : MH} {v : Int32} (hA : inj40 A) : Cn A (p_i h (A 14) 6 v) = Cn A h := by
  simp only [Cn, mi_pi, Nat.reduceEqDiff, and_false, if_false, (hA_5_14 hA), (hA_6_14 hA), (hA_7_14 hA), (hA_8_14 hA), (hA_9_14 hA), (hA_10_14 hA), (hA_11_14 hA), (hA_12_14 hA), (hA_13_14 hA), (hA_28_14 hA), (hA_31_14 hA), (hA_32_14 hA), (hA_33_14 hA), (hA_34_14 hA), (hA_35_14 hA), (hA_36_14 hA)]
theorem Cn_28_3 {A : Nat → Nat} {h : MH} {v : Int32} (hA : inj40 A) : Cn A (p_i h (A 28) 3 v) = Cn A h := by
  simp only [Cn, mi_pi, Nat.reduceEqDiff, and_false, if_false, false_and, (hA_5_28 hA), (hA_6_28 hA), (hA_7_28 hA), (hA_8_28 hA), (hA_9_28 hA), (hA_10_28 hA), (hA_11_28 hA), (hA_12_28 hA), (hA_13_28 hA), (hA_14_28 hA), (hA_31_28 hA), (hA_32_28 hA), (hA_33_28 hA), (hA_34_28 hA), (hA_35_28 hA), (hA_36_28 hA)]
theorem Cn_28_4 {A : Nat → Nat} {h : MH} {v : Int32} (hA : inj40 A) : Cn A (p_i h (A 28) 4 v) = Cn A h := by
  simp only [Cn, mi_pi, Nat.reduceEqDiff, and_false, if_false, (hA_5_28 hA), (hA_6_28 hA), (hA_7_28 hA), (hA_8_28 hA), (hA_9_28 hA), (hA_10_28 hA), (hA_11_28 hA), (hA_12_28 hA), (hA_13_28 hA), (hA_14_28 hA), (hA_31_28 hA), (hA_32_28 hA), (hA_33_28 hA), (hA_34_28 hA), (hA_35_28 hA), (hA_36_28 hA)]
theorem Cn_28_5 {A : Nat → Nat} {h : MH} {v : Int32} (hA : inj40 A) : Cn A (p_i h (A 28) 5 v) = Cn A h := by
  simp only [Cn, mi_pi, Nat.reduceEqDiff, and_false, if_false, (hA_5_28 hA), (hA_6_28 hA), (hA_7_28 hA), (hA_8_28 hA), (hA_9_28 hA), (hA_10_28 hA), (hA_11_28 hA), (hA_12_28 hA), (hA_13_28 hA), (hA_14_28 hA), (hA_31_28 hA), (hA_32_28 hA), (hA_33_28 hA), (hA_34_28 hA), (hA_35_28 hA), (hA_36_28 hA)]

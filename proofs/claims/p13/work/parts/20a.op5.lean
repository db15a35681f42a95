/-! THE OPS of the pipe -/
/-- what a state of the pipe is, said of its four numbers -/
def cPS (t : Int32 × Int32 × Int32 × Int32) : Prop := t.1 = Int32.ofNat t.1.toNatClampNeg ∧ (t.2.2.1 = -1 ∨ (t.2.2.1 = Int32.ofNat t.2.2.1.toNatClampNeg ∧ t.2.2.1.toNatClampNeg ≤ t.1.toNatClampNeg)) ∧ ((t.2.2.2 = 0 ∧ t.2.1 = 10 ∧ t.1.toNatClampNeg ≤ 10) ∨ (t.2.2.2 = 1 ∧ t.2.1 = Int32.ofNat t.2.1.toNatClampNeg ∧ t.1.toNatClampNeg ≤ t.2.1.toNatClampNeg ∧ t.2.1.toNatClampNeg ≤ 10))
theorem cPS_mem {t : Int32 × Int32 × Int32 × Int32} (k : cPS t) : t ∈ PS := by
  obtain ⟨p, l, m, d⟩ := t
  obtain ⟨hp, hm, hd⟩ := k
  dsimp only at hp hm hd
  have hm2 : m ∈ (-1 : Int32) :: (List.range (p.toNatClampNeg + 1)).map Int32.ofNat := by
    rcases hm with hm | ⟨e, hm⟩
    · exact List.mem_cons.2 (Or.inl hm)
    · exact List.mem_cons.2 (Or.inr (List.mem_map.2 ⟨m.toNatClampNeg, List.mem_range.2 (by omega), e.symm⟩))
  unfold PS
  rcases hd with ⟨d0, l10, h10⟩ | ⟨d1, hl, hpl, h10⟩
  · exact List.mem_append.2 (Or.inl (List.mem_flatMap.2 ⟨p.toNatClampNeg, List.mem_range.2 (by omega), List.mem_map.2 ⟨m, hm2, Prod.ext hp.symm (Prod.ext l10.symm (Prod.ext rfl d0.symm))⟩⟩))
  · exact List.mem_append.2 (Or.inr (List.mem_flatMap.2 ⟨l.toNatClampNeg, List.mem_range.2 (by omega), List.mem_flatMap.2 ⟨p.toNatClampNeg, List.mem_range.2 (by omega), List.mem_map.2 ⟨m, hm2, Prod.ext hp.symm (Prod.ext hl.symm (Prod.ext rfl d1.symm))⟩⟩⟩))
set_option maxRecDepth 100000 in
theorem pA : ∀ t ∈ PS, ((t.2.2.1 < 0 ∧ t.2.2.1 = -1) ∨ (¬ t.2.2.1 < 0 ∧ ¬ t.2.2.1 = -1)) ∧ (t.2.2.2 = 0 ∨ t.2.2.2 = 1) := by
  (try unfold rdy vp_in)
  decide +kernel
set_option maxRecDepth 100000 in
theorem pF : ∀ t ∈ PS, (t.2.1 - t.1 = 0 ∨ (¬ t.1 < 0 ∧ t.1 < 10 ∧ rdy 36 (1 + t.1) ∧ (1 + t.1, t.2.1, t.2.2.1, t.2.2.2) ∈ PS)) := by
  have z : ∀ t ∈ PS, (t.2.1 - t.1 = 0 ∨ (¬ t.1 < 0 ∧ t.1 < 10 ∧ rdy 36 (1 + t.1) ∧ cPS (1 + t.1, t.2.1, t.2.2.1, t.2.2.2))) := by
    (try unfold rdy vp_in)
    unfold cPS
    decide +kernel
  exact fun t ht => (z t ht).imp_right fun k => ⟨k.1, k.2.1, k.2.2.1, cPS_mem k.2.2.2⟩
set_option maxRecDepth 100000 in
theorem pR : ∀ t ∈ PS, (0, t.2.1, -1, t.2.2.2) ∈ PS := by
  have z : ∀ t ∈ PS, cPS (0, t.2.1, -1, t.2.2.2) := by
    (try unfold rdy vp_in)
    unfold cPS
    decide +kernel
  exact fun t ht => cPS_mem (z t ht)
set_option maxRecDepth 100000 in
theorem pK : ∀ t ∈ PS, (t.1, t.2.1, t.1, t.2.2.2) ∈ PS := by
  have z : ∀ t ∈ PS, cPS (t.1, t.2.1, t.1, t.2.2.2) := by
    (try unfold rdy vp_in)
    unfold cPS
    decide +kernel
  exact fun t ht => cPS_mem (z t ht)
set_option maxRecDepth 100000 in
theorem pB : ∀ t ∈ PS, (t.2.2.1 < 0 ∨ (t.2.2.1, t.2.1, t.2.2.1, t.2.2.2) ∈ PS) := by
  have z : ∀ t ∈ PS, (t.2.2.1 < 0 ∨ cPS (t.2.2.1, t.2.1, t.2.2.1, t.2.2.2)) := by
    (try unfold rdy vp_in)
    unfold cPS
    decide +kernel
  exact fun t ht => (z t ht).imp_right fun k => cPS_mem k
theorem pco (x : Int32) : x + 1 = 1 + x := Int32.add_comm x 1
theorem Cn_14_4 {A : Nat → Nat} {h : MH} {v : Int32} (hA : inj40 A) : Cn A (p_i h (A 14) 4 v) = Cn A h := by
  simp only [Cn, mi_pi, Nat.reduceEqDiff, and_false, if_false, false_and, (hA 5 14 (by decide) (by decide)), (hA 6 14 (by decide) (by decide)), (hA 7 14 (by decide) (by decide)), (hA 8 14 (by decide) (by decide)), (hA 9 14 (by decide) (by decide)), (hA 10 14 (by decide) (by decide)), (hA 11 14 (by decide) (by decide)), (hA 12 14 (by decide) (by decide)), (hA 13 14 (by decide) (by decide)), (hA 28 14 (by decide) (by decide)), (hA 31 14 (by decide) (by decide)), (hA 32 14 (by decide) (by decide)), (hA 33 14 (by decide) (by decide)), (hA 34 14 (by decide) (by decide)), (hA 35 14 (by decide) (by decide)), (hA 36 14 (by decide) (by decide))]
theorem Cn_14_5 {A : Nat → Nat} {h : MH} {v : Int32} (hA : inj40 A) : Cn A (p_i h (A 14) 5 v) = Cn A h := by
  simp only [Cn, mi_pi, Nat.reduceEqDiff, and_false, if_false, false_and, (hA 5 14 (by decide) (by decide)), (hA 6 14 (by decide) (by decide)), (hA 7 14 (by decide) (by decide)), (hA 8 14 (by decide) (by decide)), (hA 9 14 (by decide) (by decide)), (hA 10 14 (by decide) (by decide)), (hA 11 14 (by decide) (by decide)), (hA 12 14 (by decide) (by decide)), (hA 13 14 (by decide) (by decide)), (hA 28 14 (by decide) (by decide)), (hA 31 14 (by decide) (by decide)), (hA 32 14 (by decide) (by decide)), (hA 33 14 (by decide) (by decide)), (hA 34 14 (by decide) (by decide)), (hA 35 14 (by decide) (by decide)), (hA 36 14 (by decide) (by decide))]
theorem Cn_14_6 {A : Nat → Nat} {h : MH} {v : Int32} (hA : inj40 A) : Cn A (p_i h (A 14) 6 v) = Cn A h := by
  simp only [Cn, mi_pi, Nat.reduceEqDiff, and_false, if_false, false_and, (hA 5 14 (by decide) (by decide)), (hA 6 14 (by decide) (by decide)), (hA 7 14 (by decide) (by decide)), (hA 8 14 (by decide) (by decide)), (hA 9 14 (by decide) (by decide)), (hA 10 14 (by decide) (by decide)), (hA 11 14 (by decide) (by decide)), (hA 12 14 (by decide) (by decide)), (hA 13 14 (by decide) (by decide)), (hA 28 14 (by decide) (by decide)), (hA 31 14 (by decide) (by decide)), (hA 32 14 (by decide) (by decide)), (hA 33 14 (by decide) (by decide)), (hA 34 14 (by decide) (by decide)), (hA 35 14 (by decide) (by decide)), (hA 36 14 (by decide) (by decide))]
theorem Cn_28_3 {A : Nat → Nat} {h : MH} {v : Int32} (hA : inj40 A) : Cn A (p_i h (A 28) 3 v) = Cn A h := by
  simp only [Cn, mi_pi, Nat.reduceEqDiff, and_false, if_false, false_and, (hA 5 28 (by decide) (by decide)), (hA 6 28 (by decide) (by decide)), (hA 7 28 (by decide) (by decide)), (hA 8 28 (by decide) (by decide)), (hA 9 28 (by decide) (by decide)), (hA 10 28 (by decide) (by decide)), (hA 11 28 (by decide) (by decide)), (hA 12 28 (by decide) (by decide)), (hA 13 28 (by decide) (by decide)), (hA 14 28 (by decide) (by decide)), (hA 31 28 (by decide) (by decide)), (hA 32 28 (by decide) (by decide)), (hA 33 28 (by decide) (by decide)), (hA 34 28 (by decide) (by decide)), (hA 35 28 (by decide) (by decide)), (hA 36 28 (by decide) (by decide))]
theorem Cn_28_4 {A : Nat → Nat} {h : MH} {v : Int32} (hA : inj40 A) : Cn A (p_i h (A 28) 4 v) = Cn A h := by
  simp only [Cn, mi_pi, Nat.reduceEqDiff, and_false, if_false, false_and, (hA 5 28 (by decide) (by decide)), (hA 6 28 (by decide) (by decide)), (hA 7 28 (by decide) (by decide)), (hA 8 28 (by decide) (by decide)), (hA 9 28 (by decide) (by decide)), (hA 10 28 (by decide) (by decide)), (hA 11 28 (by decide) (by decide)), (hA 12 28 (by decide) (by decide)), (hA 13 28 (by decide) (by decide)), (hA 14 28 (by decide) (by decide)), (hA 31 28 (by decide) (by decide)), (hA 32 28 (by decide) (by decide)), (hA 33 28 (by decide) (by decide)), (hA 34 28 (by decide) (by decide)), (hA 35 28 (by decide) (by decide)), (hA 36 28 (by decide) (by decide))]
theorem Cn_28_5 {A : Nat → Nat} {h : MH} {v : Int32} (hA : inj40 A) : Cn A (p_i h (A 28) 5 v) = Cn A h := by
  simp only [Cn, mi_pi, Nat.reduceEqDiff, and_false, if_false, false_and, (hA 5 28 (by decide) (by decide)), (hA 6 28 (by decide) (by decide)), (hA 7 28 (by decide) (by decide)), (hA 8 28 (by decide) (by decide)), (hA 9 28 (by decide) (by decide)), (hA 10 28 (by decide) (by decide)), (hA 11 28 (by decide) (by decide)), (hA 12 28 (by decide) (by decide)), (hA 13 28 (by decide) (by decide)), (hA 14 28 (by decide) (by decide)), (hA 31 28 (by decide) (by decide)), (hA 32 28 (by decide) (by decide)), (hA 33 28 (by decide) (by decide)), (hA 34 28 (by decide) (by decide)), (hA 35 28 (by decide) (by decide)), (hA 36 28 (by decide) (by decide))]

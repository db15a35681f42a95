/-! throws, switches, returns -/
def exCh : List String := ["java/lang/RuntimeException", "java/lang/Exception"]
def okEw (Y ik ic E : Nat) : Bool := (Cond.classLink (cn (tb_o Y)) ik (exN E) :: Cond.initialized (exN E) :: vx_atS (cn (tb_o Y)) ic (exN E) exCh).all (fun w => vx_ot w && (memB w && (goodWord w || nstW w)))
def okEs (Y is : Nat) : Bool := tS_l.any (fun x => decide (x.1 = cn (tb_o Y) ∧ x.2.1 = is))
/-- what a word of a throw must be -/
def okWd (w : Cond) : Bool := vx_ot w && (memB w && (goodWord w || nstW w))
theorem own_mem {own own' X : String} {ic ic' : Nat} {names : List String} {w : Cond} (h : w ∈ vx_atS own ic X names) : w = .methodLink own ic (Bundle.initS X) ∨ w ∈ vx_atS own' ic' X names := by
  unfold vx_atS at h ⊢
  obtain ⟨h1, h2⟩ := List.mem_filter.mp h
  unfold Bundle.ownAtoms at h1
  rcases List.mem_append.mp h1 with z | z
  · exact Or.inr (List.mem_filter.mpr ⟨by unfold Bundle.ownAtoms; exact List.mem_append_left _ z, h2⟩)
  · rcases List.mem_cons.mp z with z | z
    · exact Or.inl z
    · exact Or.inr (List.mem_filter.mpr ⟨by unfold Bundle.ownAtoms; exact List.mem_append_right _ (List.mem_cons_of_mem _ z), h2⟩)
/-- of a kind of throw the words are checked once; elsewhere those two that the place names -/
theorem okEw_of {Y ik ic Y' ik' ic' E : Nat} (h : okEw Y' ik' ic' E = true) (h1 : okWd (.classLink (cn (tb_o Y)) ik (exN E)) = true) (h2 : okWd (.methodLink (cn (tb_o Y)) ic (Bundle.initS (exN E))) = true) : okEw Y ik ic E = true := by
  unfold okEw at h ⊢
  have h0 := List.all_eq_true.mp h
  refine List.all_eq_true.mpr fun w hw => ?_
  rcases List.mem_cons.mp hw with rfl | hw
  · exact h1
  rcases List.mem_cons.mp hw with rfl | hw
  · exact h0 _ (List.mem_cons_of_mem _ List.mem_cons_self)
  rcases own_mem (own' := cn (tb_o Y')) (ic' := ic') hw with rfl | hw
  · exact h2
  · exact h0 _ (List.mem_cons_of_mem _ (List.mem_cons_of_mem _ hw))
def okE (e : Nat × Nat × (Nat × Nat × Nat × Nat)) : Bool :=
  decide (hhY (e.1 / 65536) = [] ∧ Bundle.fit (exN e.2.1) = true) && (decide (decode (tb_b (e.1 / 65536)) (e.1 % 65536) = .ok (.new e.2.2.1, 3)) && (decide (decode (tb_b (e.1 / 65536)) (e.1 % 65536 + 3) = .ok (.dup, 1)) && (okEs (e.1 / 65536) e.2.2.2.1 && (okEw (e.1 / 65536) e.2.2.1 e.2.2.2.2.1 e.2.1 && (match e.2.2.2.2.2 with
  | 0 => decide (decode (tb_b (e.1 / 65536)) (e.1 % 65536 + 4) = .ok (.ldc e.2.2.2.1, 2)) && (decide (decode (tb_b (e.1 / 65536)) (e.1 % 65536 + 6) = .ok (.invokespecial e.2.2.2.2.1, 3)) && decide (decode (tb_b (e.1 / 65536)) (e.1 % 65536 + 9) = .ok (.athrow, 1)))
  | _ => decide (decode (tb_b (e.1 / 65536)) (e.1 % 65536 + 4) = .ok (.ldc_w e.2.2.2.1, 3)) && (decide (decode (tb_b (e.1 / 65536)) (e.1 % 65536 + 7) = .ok (.invokespecial e.2.2.2.2.1, 3)) && decide (decode (tb_b (e.1 / 65536)) (e.1 % 65536 + 10) = .ok (.athrow, 1))))))))
def okE1 (e : Nat × Nat × (Nat × Nat × Nat × Nat)) : Bool :=
  decide (hhY (e.1 / 65536) = [] ∧ Bundle.fit (exN e.2.1) = true) && (decide (decode (tb_b (e.1 / 65536)) (e.1 % 65536) = .ok (.new e.2.2.1, 3)) && (decide (decode (tb_b (e.1 / 65536)) (e.1 % 65536 + 3) = .ok (.dup, 1)) && (okEs (e.1 / 65536) e.2.2.2.1 && ((okWd (.classLink (cn (tb_o (e.1 / 65536))) e.2.2.1 (exN e.2.1)) && (okWd (.methodLink (cn (tb_o (e.1 / 65536))) e.2.2.2.2.1 (Bundle.initS (exN e.2.1))) && decide (e.2.1 = 1 ∨ e.2.1 = 2 ∨ e.2.1 = 3))) && (match e.2.2.2.2.2 with
  | 0 => decide (decode (tb_b (e.1 / 65536)) (e.1 % 65536 + 4) = .ok (.ldc e.2.2.2.1, 2)) && (decide (decode (tb_b (e.1 / 65536)) (e.1 % 65536 + 6) = .ok (.invokespecial e.2.2.2.2.1, 3)) && decide (decode (tb_b (e.1 / 65536)) (e.1 % 65536 + 9) = .ok (.athrow, 1)))
  | _ => decide (decode (tb_b (e.1 / 65536)) (e.1 % 65536 + 4) = .ok (.ldc_w e.2.2.2.1, 3)) && (decide (decode (tb_b (e.1 / 65536)) (e.1 % 65536 + 7) = .ok (.invokespecial e.2.2.2.2.1, 3)) && decide (decode (tb_b (e.1 / 65536)) (e.1 % 65536 + 10) = .ok (.athrow, 1))))))))
theorem okEr : (okEw 103 297 301 1 && (okEw 73 182 186 2 && okEw 115 369 373 3)) = true := by decide +kernel
theorem okEr_1 : okEw 103 297 301 1 = true := by
  have h := okEr
  simp only [Bool.and_eq_true] at h
  exact h.1
theorem okEr_2 : okEw 73 182 186 2 = true := by
  have h := okEr
  simp only [Bool.and_eq_true] at h
  exact h.2.1
theorem okEr_3 : okEw 115 369 373 3 = true := by
  have h := okEr
  simp only [Bool.and_eq_true] at h
  exact h.2.2
theorem okE1_all : tE_l.all okE1 = true := by decide +kernel
theorem okE_of {e : Nat × Nat × (Nat × Nat × Nat × Nat)} (h : okE1 e = true) : okE e = true := by
  simp only [okE1, Bool.and_eq_true] at h
  obtain ⟨a1, a2, a3, a4, ⟨a5, a6, a7⟩, a8⟩ := h
  simp only [okE, Bool.and_eq_true]
  refine ⟨a1, a2, a3, a4, ?_, a8⟩
  replace a7 := of_decide_eq_true a7
  rcases a7 with z | z | z <;> rw [z] at a5 a6 ⊢
  · exact okEw_of okEr_1 a5 a6
  · exact okEw_of okEr_2 a5 a6
  · exact okEw_of okEr_3 a5 a6
theorem okE_all : tE_l.all okE = true := List.all_eq_true.mpr fun e he => okE_of (List.all_eq_true.mp okE1_all e he)

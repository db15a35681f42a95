theorem Wd_mem {w : Cond} (h : w ∈ lw_tbl) (hg : goodWord w = true) : w ∈ Wd := List.mem_filter.mpr ⟨List.mem_append.mpr (Or.inr h), hg⟩
section SXD
variable {l : Launch} {base : Nat} {D : va_G} {cA : Nat → ClassId} {h0 : MH}
variable {Y pc idx : Nat} {loc stk : List Value} {h h' : MH} {bc bs : Nat} {Q : MR → MH → Prop}
theorem Rel.high {H : Heap} {a : Nat} {s : State} {H0 : Heap} (hr : Rel base D cA h0 h H) (hsf : SF base D cA h0 s H0) (h1 : g_c h a ≠ 0) (h2 : g_c h a ≠ 11) (h3 : g_c h a ≠ 103) (h4 : g_c h a ≠ 107) : base ≤ a := by
  by_cases ha : base ≤ a
  · exact ha
  · exfalso
    have b1 := (hr.2.2.2.2.2.1 a (by omega)).1
    rcases hsf.2.1 a (by omega) (by rw [← b1]; exact h1) with z | z | z
    · exact h2 (b1.trans z.1)
    · exact h3 (b1.trans z.1)
    · exact h4 (b1.trans z.1)
theorem Rel.arr {H : Heap} {a t : Nat} (hr : Rel base D cA h0 h H) (ha : base ≤ a) (hc : g_c h a = t) (ht : 101 ≤ t) : H[a]? = some (vp_cell (cA t) (arO h a t)) := by
  have := ((hr.2.2.2.2.2.2 a ha (by omega)).2.1 (by omega)).2
  rw [hc] at this
  exact this
theorem P1 {H : Heap} {a : Nat} {e : va_E} (hx : va_at D cls (a, e) H) : va_P D cls [(a, e)] H := by
  intro i q hq
  have : i = 0 := by have := (List.getElem?_eq_some_iff.mp hq).1; simpa using this
  subst this
  cases hq
  exact hx
theorem cellR_arr {a t : Nat} {H : Heap} (hc : g_c h a = t) (h1 : 101 ≤ t) (h2 : t ≤ 106) (hH : H[a]? = some (vp_cell (cA t) (arO h a t))) (hb : t = 103 → ∀ j, fits .byte (.int (g_i h a j)) = true) : cellR D cA h a H := by
  refine ⟨fun z => by omega, fun _ => ?_, fun z => hb (by omega)⟩
  rw [hc]
  exact ⟨h2, hH⟩
theorem arr_in {a n : Nat} {i : Int32} {cc : ClassId} {f : Nat → Value} (h : vp_in i n) : ¬ (i < 0 ∨ (arrV cc n f).slots.size ≤ i.toNatClampNeg) := by rw [arrV_size]; exact h
theorem sx_iald {a : Nat} {i : Int32} (hd : decode (tb_b Y) pc = .ok (.iaload, 1)) (hc : g_c h a = 101) (hin : vp_in i (g_n h a)) (k : SX l base D cA h0 Y (pc + 1) loc (.int (g_i h a i.toNatClampNeg) :: stk) h bc bs Q) : SX l base D cA h0 Y pc loc (.int i :: .ref a :: stk) h bc bs Q := by
  intro p e R s m args below meth c H locs cells slots mc ms ls S h1 h2 hl hr hs
  have S0 := S
  obtain ⟨⟨hx, hb⟩, ⟨hml, hrt, hown, hts⟩, ⟨hlk, hin0, hsf, hbs, hst⟩, -, -⟩ := S
  have hP := P1 (D := D) (e := .inl (cA 101, arO h a 101)) (hr.arr (hr.high (a := a) hsf (by omega) (by omega) (by omega) (by omega)) hc (by decide))
  exact va_iald (tys := tysW cA) hx hb hsf.1 hP 0 0 rfl rfl hin hd (k _ _ _ _ _ _ _ _ _ _ _ _ _ _ _ _ S0 h1 h2 hl hr hs)
theorem sx_lald {a : Nat} {i : Int32} (hd : decode (tb_b Y) pc = .ok (.laload, 1)) (hc : g_c h a = 102) (hin : vp_in i (g_n h a)) (k : SX l base D cA h0 Y (pc + 1) loc (.long (g_l h a i.toNatClampNeg) :: stk) h bc bs Q) : SX l base D cA h0 Y pc loc (.int i :: .ref a :: stk) h bc bs Q := by
  intro p e R s m args below meth c H locs cells slots mc ms ls S h1 h2 hl hr hs
  have S0 := S
  obtain ⟨⟨hx, hb⟩, ⟨hml, hrt, hown, hts⟩, ⟨hlk, hin0, hsf, hbs, hst⟩, -, -⟩ := S
  have hP := P1 (D := D) (e := .inl (cA 102, arO h a 102)) (hr.arr (hr.high (a := a) hsf (by omega) (by omega) (by omega) (by omega)) hc (by decide))
  exact va_lald (tys := tysW cA) hx hb hsf.1 hP 0 1 rfl rfl hin hd (k _ _ _ _ _ _ _ _ _ _ _ _ _ _ _ _ S0 h1 h2 hl hr hs)
theorem sx_cald {a : Nat} {i : Int32} (hd : decode (tb_b Y) pc = .ok (.caload, 1)) (hc : g_c h a = 104) (hin : vp_in i (g_n h a)) (k : SX l base D cA h0 Y (pc + 1) loc (.int (g_i h a i.toNatClampNeg) :: stk) h bc bs Q) : SX l base D cA h0 Y pc loc (.int i :: .ref a :: stk) h bc bs Q := by
  intro p e R s m args below meth c H locs cells slots mc ms ls S h1 h2 hl hr hs
  have S0 := S
  obtain ⟨⟨hx, hb⟩, ⟨hml, hrt, hown, hts⟩, ⟨hlk, hin0, hsf, hbs, hst⟩, -, -⟩ := S
  have hP := P1 (D := D) (e := .inl (cA 104, arO h a 104)) (hr.arr (hr.high (a := a) hsf (by omega) (by omega) (by omega) (by omega)) hc (by decide))
  exact va_cald (tys := tysW cA) hx hb hsf.1 hP 0 3 rfl rfl hin hd (k _ _ _ _ _ _ _ _ _ _ _ _ _ _ _ _ S0 h1 h2 hl hr hs)
theorem sx_aald {a : Nat} {i : Int32} (hd : decode (tb_b Y) pc = .ok (.aaload, 1)) (hc : g_c h a = 106) (hin : vp_in i (g_n h a)) (k : SX l base D cA h0 Y (pc + 1) loc (va_rf (g_r h a i.toNatClampNeg) :: stk) h bc bs Q) : SX l base D cA h0 Y pc loc (.int i :: .ref a :: stk) h bc bs Q := by
  intro p e R s m args below meth c H locs cells slots mc ms ls S h1 h2 hl hr hs
  have S0 := S
  obtain ⟨⟨hx, hb⟩, ⟨hml, hrt, hown, hts⟩, ⟨hlk, hin0, hsf, hbs, hst⟩, -, -⟩ := S
  have hP := P1 (D := D) (e := .inl (cA 106, arO h a 106)) (hr.arr (hr.high (a := a) hsf (by omega) (by omega) (by omega) (by omega)) hc (by decide))
  exact va_aldq (tys := tysW cA) hx hb hsf.1 hP 0 5 rfl rfl hin hd (k _ _ _ _ _ _ _ _ _ _ _ _ _ _ _ _ S0 h1 h2 hl hr hs)
theorem sx_sald {a : Nat} {i : Int32} (hd : decode (tb_b Y) pc = .ok (.iaload, 1)) (hc : g_c h a = 107) (hin : vp_in i (g_n h a)) (k : SX l base D cA h0 Y (pc + 1) loc (.int (g_i h a i.toNatClampNeg) :: stk) h bc bs Q) : SX l base D cA h0 Y pc loc (.int i :: .ref a :: stk) h bc bs Q := by
  intro p e R s m args below meth c H locs cells slots mc ms ls S h1 h2 hl hr hs
  have S0 := S
  obtain ⟨⟨hx, hb⟩, ⟨hml, hrt, hown, hts⟩, ⟨hlk, hin0, hsf, hbs, hst⟩, -, -⟩ := S
  by_cases ha : base ≤ a
  · have := ((hr.2.2.2.2.2.2 a ha (by omega)).2.1 (by omega)).1
    omega
  · obtain ⟨b1, b2, b3, -⟩ := hr.2.2.2.2.2.1 a (by omega)
    rcases hsf.2.1 a (by omega) (by rw [← b1]; omega) with z | z | ⟨z1, z2, z3⟩
    · have := z.1
      omega
    · have := z.1
      omega
    · have hbl := (Array.getElem?_eq_some_iff.mp z2.choose_spec.1).1
      exact va_sld hx hb z2 hbl (fun z => by have : base ≤ a := z; omega) hs (by rw [← b2]; exact hin) hd (by rw [← b3]; exact k _ _ _ _ _ _ _ _ _ _ _ _ _ _ _ _ S0 h1 h2 hl hr hs)
theorem sx_bald {a : Nat} {i : Int32} (hd : decode (tb_b Y) pc = .ok (.baload, 1)) (hc : g_c h a = 103 ∨ g_c h a = 105) (hin : vp_in i (g_n h a)) (k : SX l base D cA h0 Y (pc + 1) loc (.int (g_i h a i.toNatClampNeg) :: stk) h bc bs Q) : SX l base D cA h0 Y pc loc (.int i :: .ref a :: stk) h bc bs Q := by
  intro p e R s m args below meth c H locs cells slots mc ms ls S h1 h2 hl hr hs
  have S0 := S
  obtain ⟨⟨hx, hb⟩, ⟨hml, hrt, hown, hts⟩, ⟨hlk, hin0, hsf, hbs, hst⟩, -, -⟩ := S
  by_cases ha : base ≤ a
  · rcases hc with hc | hc
    · have hP := P1 (D := D) (e := .inl (cA 103, arO h a 103)) (hr.arr ha hc (by decide))
      exact va_bald (tys := tysW cA) hx hb hsf.1 hP 0 2 rfl rfl hin hd (k _ _ _ _ _ _ _ _ _ _ _ _ _ _ _ _ S0 h1 h2 hl hr hs)
    · have hP := P1 (D := D) (e := .inl (cA 105, arO h a 105)) (hr.arr ha hc (by decide))
      exact va_zald (tys := tysW cA) hx hb hsf.1 hP 0 4 rfl rfl hin hd (k _ _ _ _ _ _ _ _ _ _ _ _ _ _ _ _ S0 h1 h2 hl hr hs)
  · obtain ⟨b1, b2, b3, -⟩ := hr.2.2.2.2.2.1 a (by omega)
    rcases hsf.2.1 a (by omega) (by rw [← b1]; omega) with z | ⟨z1, z2, -⟩ | z
    · have := z.1
      omega
    · exact va_tb hx hb z2 hs (by rw [← b2]; exact hin) rfl hd (by rw [← b3]; exact k _ _ _ _ _ _ _ _ _ _ _ _ _ _ _ _ S0 h1 h2 hl hr hs)
    · have := z.1
      omega
theorem sx_alen {a : Nat} (hd : decode (tb_b Y) pc = .ok (.arraylength, 1)) (hc : 101 ≤ g_c h a ∧ g_c h a ≤ 107) (k : SX l base D cA h0 Y (pc + 1) loc (.int (Int32.ofNat (g_n h a)) :: stk) h bc bs Q) : SX l base D cA h0 Y pc loc (.ref a :: stk) h bc bs Q := by
  intro p e R s m args below meth c H locs cells slots mc ms ls S h1 h2 hl hr hs
  have S0 := S
  obtain ⟨⟨hx, hb⟩, ⟨hml, hrt, hown, hts⟩, ⟨hlk, hin0, hsf, hbs, hst⟩, -, -⟩ := S
  by_cases ha : base ≤ a
  · obtain ⟨t, ht⟩ : ∃ t, g_c h a = t := ⟨_, rfl⟩
    have hP := P1 (D := D) (e := .inl (cA t, arO h a t)) (hr.arr ha ht (by omega))
    have h106 := ((hr.2.2.2.2.2.2 a ha (by omega)).2.1 (by omega)).1
    have KK := k p e R s m args below meth c H locs cells slots mc ms ls S0 h1 h2 hl hr hs
    rcases (show t = 101 ∨ t = 102 ∨ t = 103 ∨ t = 104 ∨ t = 105 ∨ t = 106 by omega) with rfl | rfl | rfl | rfl | rfl | rfl
    · exact va_alen (tys := tysW cA) hx hb hsf.1 hP 0 0 rfl rfl rfl hd KK
    · exact va_alen (tys := tysW cA) hx hb hsf.1 hP 0 1 rfl rfl rfl hd KK
    · exact va_alen (tys := tysW cA) hx hb hsf.1 hP 0 2 rfl rfl rfl hd KK
    · exact va_alen (tys := tysW cA) hx hb hsf.1 hP 0 3 rfl rfl rfl hd KK
    · exact va_alen (tys := tysW cA) hx hb hsf.1 hP 0 4 rfl rfl rfl hd KK
    · exact va_alen (tys := tysW cA) hx hb hsf.1 hP 0 5 rfl rfl rfl hd KK
  · obtain ⟨b1, b2, b3, -⟩ := hr.2.2.2.2.2.1 a (by omega)
    rcases hsf.2.1 a (by omega) (by rw [← b1]; omega) with z | ⟨z1, z2, -⟩ | ⟨z1, z2, z3⟩
    · have := z.1
      omega
    · exact va_tlen hx hb z2 hs rfl hd (by rw [← b2]; exact k _ _ _ _ _ _ _ _ _ _ _ _ _ _ _ _ S0 h1 h2 hl hr hs)
    · have hbl := (Array.getElem?_eq_some_iff.mp z2.choose_spec.1).1
      exact va_slen hx hb z2 hbl (fun z => by have : base ≤ a := z; omega) hs hd (by rw [← b2]; exact k _ _ _ _ _ _ _ _ _ _ _ _ _ _ _ _ S0 h1 h2 hl hr hs)
theorem sx_iast {a : Nat} {i : Int32} {x : Int32} (hd : decode (tb_b Y) pc = .ok (.iastore, 1)) (hc : g_c h a = 101) (hz : g_z h ≤ a) (hin : vp_in i (g_n h a)) (k : SX l base D cA h0 Y (pc + 1) loc stk (p_i h a i.toNatClampNeg x) bc bs Q) : SX l base D cA h0 Y pc loc (.int x :: .int i :: .ref a :: stk) h bc bs Q := by
  intro p e R s m args below meth c H locs cells slots mc ms ls S h1 h2 hl hr hs
  have S0 := S
  obtain ⟨⟨hx, hb⟩, ⟨hml, hrt, hown, hts⟩, ⟨hlk, hin0, hsf, hbs, hst⟩, -, -⟩ := S
  have ha : base ≤ a := by rw [← hr.2.1]; exact hz
  have hcell := hr.arr ha hc (by decide)
  refine W.iast hx hb hcell ((hsf.1.2 0 _ rfl).1 (g_n h a) (fun j => .int (g_i h a j))) (fun q => by cases q) (arr_in (a := a) hin) rfl rfl hd fun H1 e z oq => ?_
  refine k _ _ _ _ _ _ _ _ _ H1 _ _ _ _ _ _ S0 h1 h2 hl (hr.put ha z oq sameB_i (cellR_arr (t := 101) hc (by decide) (by decide) ?_ ?_)) (S_put hs z oq ha)
  · rw [e]
    show some ((vp_cell _ _).setSlot _ _) = some (vp_cell _ _)
    unfold arO
    simp only [show ¬ (101 : Nat) = 102 by decide, show ¬ (101 : Nat) = 106 by decide, if_false]
    rw [vp_cell_i, vp_cell_i, arrV_store]
    congr 2
    funext q
    by_cases hq : q = i.toNatClampNeg
    · subst hq
      simp [updV, i_pi, vp_nar]
      try rfl
    · simp [updV, i_pi, hq]
  · intro z; cases z
theorem sx_last {a : Nat} {i : Int32} {x : Int64} (hd : decode (tb_b Y) pc = .ok (.lastore, 1)) (hc : g_c h a = 102) (hz : g_z h ≤ a) (hin : vp_in i (g_n h a)) (k : SX l base D cA h0 Y (pc + 1) loc stk (p_l h a i.toNatClampNeg x) bc bs Q) : SX l base D cA h0 Y pc loc (.long x :: .int i :: .ref a :: stk) h bc bs Q := by
  intro p e R s m args below meth c H locs cells slots mc ms ls S h1 h2 hl hr hs
  have S0 := S
  obtain ⟨⟨hx, hb⟩, ⟨hml, hrt, hown, hts⟩, ⟨hlk, hin0, hsf, hbs, hst⟩, -, -⟩ := S
  have ha : base ≤ a := by rw [← hr.2.1]; exact hz
  have hcell := hr.arr ha hc (by decide)
  refine W.last hx hb hcell ((hsf.1.2 1 _ rfl).1 (g_n h a) (fun j => .long (g_l h a j))) (fun q => by cases q) (arr_in (a := a) hin) rfl rfl hd fun H1 e z oq => ?_
  refine k _ _ _ _ _ _ _ _ _ H1 _ _ _ _ _ _ S0 h1 h2 hl (hr.put ha z oq sameB_l (cellR_arr (t := 102) hc (by decide) (by decide) ?_ ?_)) (S_put hs z oq ha)
  · rw [e]
    show some ((vp_cell _ _).setSlot _ _) = some (vp_cell _ _)
    unfold arO
    simp only [if_true]
    rw [vp_cell_l, vp_cell_l, arrV_store]
    congr 2
    funext q
    by_cases hq : q = i.toNatClampNeg
    · subst hq
      simp [updV, l_pl, vp_nar]
      try rfl
    · simp [updV, l_pl, hq]
  · intro z; cases z
theorem sx_cast {a : Nat} {i : Int32} {x : Int32} (hd : decode (tb_b Y) pc = .ok (.castore, 1)) (hc : g_c h a = 104) (hz : g_z h ≤ a) (hin : vp_in i (g_n h a)) (k : SX l base D cA h0 Y (pc + 1) loc stk (p_i h a i.toNatClampNeg (vp_nar .char x)) bc bs Q) : SX l base D cA h0 Y pc loc (.int x :: .int i :: .ref a :: stk) h bc bs Q := by
  intro p e R s m args below meth c H locs cells slots mc ms ls S h1 h2 hl hr hs
  have S0 := S
  obtain ⟨⟨hx, hb⟩, ⟨hml, hrt, hown, hts⟩, ⟨hlk, hin0, hsf, hbs, hst⟩, -, -⟩ := S
  have ha : base ≤ a := by rw [← hr.2.1]; exact hz
  have hcell := hr.arr ha hc (by decide)
  refine W.cast hx hb hcell ((hsf.1.2 3 _ rfl).1 (g_n h a) (fun j => .int (g_i h a j))) (fun q => by cases q) (arr_in (a := a) hin) rfl rfl hd fun H1 e z oq => ?_
  refine k _ _ _ _ _ _ _ _ _ H1 _ _ _ _ _ _ S0 h1 h2 hl (hr.put ha z oq sameB_i (cellR_arr (t := 104) hc (by decide) (by decide) ?_ ?_)) (S_put hs z oq ha)
  · rw [e]
    show some ((vp_cell _ _).setSlot _ _) = some (vp_cell _ _)
    unfold arO
    simp only [show ¬ (104 : Nat) = 102 by decide, show ¬ (104 : Nat) = 106 by decide, if_false]
    rw [vp_cell_i, vp_cell_i, arrV_store]
    congr 2
    funext q
    by_cases hq : q = i.toNatClampNeg
    · subst hq
      simp [updV, i_pi, vp_nar]
      try rfl
    · simp [updV, i_pi, hq]
  · intro z; cases z
theorem sx_zast {a : Nat} {i : Int32} {x : Int32} (hd : decode (tb_b Y) pc = .ok (.bastore, 1)) (hc : g_c h a = 105) (hz : g_z h ≤ a) (hin : vp_in i (g_n h a)) (k : SX l base D cA h0 Y (pc + 1) loc stk (p_i h a i.toNatClampNeg (vp_nar .boolean x)) bc bs Q) : SX l base D cA h0 Y pc loc (.int x :: .int i :: .ref a :: stk) h bc bs Q := by
  intro p e R s m args below meth c H locs cells slots mc ms ls S h1 h2 hl hr hs
  have S0 := S
  obtain ⟨⟨hx, hb⟩, ⟨hml, hrt, hown, hts⟩, ⟨hlk, hin0, hsf, hbs, hst⟩, -, -⟩ := S
  have ha : base ≤ a := by rw [← hr.2.1]; exact hz
  have hcell := hr.arr ha hc (by decide)
  refine W.zast hx hb hcell ((hsf.1.2 4 _ rfl).1 (g_n h a) (fun j => .int (g_i h a j))) (fun q => by cases q) (arr_in (a := a) hin) rfl rfl hd fun H1 e z oq => ?_
  refine k _ _ _ _ _ _ _ _ _ H1 _ _ _ _ _ _ S0 h1 h2 hl (hr.put ha z oq sameB_i (cellR_arr (t := 105) hc (by decide) (by decide) ?_ ?_)) (S_put hs z oq ha)
  · rw [e]
    show some ((vp_cell _ _).setSlot _ _) = some (vp_cell _ _)
    unfold arO
    simp only [show ¬ (105 : Nat) = 102 by decide, show ¬ (105 : Nat) = 106 by decide, if_false]
    rw [vp_cell_i, vp_cell_i, arrV_store]
    congr 2
    funext q
    by_cases hq : q = i.toNatClampNeg
    · subst hq
      simp [updV, i_pi, vp_nar]
      try rfl
    · simp [updV, i_pi, hq]
  · intro z; cases z
theorem sx_bast {a : Nat} {i : Int32} {x : Int32} (hd : decode (tb_b Y) pc = .ok (.bastore, 1)) (hc : g_c h a = 103) (hz : g_z h ≤ a) (hin : vp_in i (g_n h a)) (k : SX l base D cA h0 Y (pc + 1) loc stk (p_i h a i.toNatClampNeg (vp_nar .byte x)) bc bs Q) : SX l base D cA h0 Y pc loc (.int x :: .int i :: .ref a :: stk) h bc bs Q := by
  intro p e R s m args below meth c H locs cells slots mc ms ls S h1 h2 hl hr hs
  have S0 := S
  obtain ⟨⟨hx, hb⟩, ⟨hml, hrt, hown, hts⟩, ⟨hlk, hin0, hsf, hbs, hst⟩, -, -⟩ := S
  have ha : base ≤ a := by rw [← hr.2.1]; exact hz
  have hcell := hr.arr ha hc (by decide)
  refine W.bast hx hb hcell ((hsf.1.2 2 _ rfl).1 (g_n h a) (fun j => .int (g_i h a j))) (fun q => by cases q) (arr_in (a := a) hin) rfl rfl hd fun H1 e z oq => ?_
  refine k _ _ _ _ _ _ _ _ _ H1 _ _ _ _ _ _ S0 h1 h2 hl (hr.put ha z oq sameB_i (cellR_arr (t := 103) hc (by decide) (by decide) ?_ ?_)) (S_put hs z oq ha)
  · rw [e]
    show some ((vp_cell _ _).setSlot _ _) = some (vp_cell _ _)
    unfold arO
    simp only [show ¬ (103 : Nat) = 102 by decide, show ¬ (103 : Nat) = 106 by decide, if_false]
    rw [vp_cell_i, vp_cell_i, arrV_store]
    congr 2
    funext q
    by_cases hq : q = i.toNatClampNeg
    · subst hq
      simp [updV, i_pi, vp_nar]
      try rfl
    · simp [updV, i_pi, hq]
  · intro _ j
    rw [i_pi]
    split
    · exact pk_fb x
    · exact (hr.2.2.2.2.2.2 a ha (by omega)).2.2 hc j
theorem sx_aast {a v : Nat} {i : Int32} (hd : decode (tb_b Y) pc = .ok (.aastore, 1)) (hc : g_c h a = 106) (hz : g_z h ≤ a) (hv : g_c h v = tb_p) (hin : vp_in i (g_n h a)) (k : SX l base D cA h0 Y (pc + 1) loc stk (p_r h a i.toNatClampNeg (some v)) bc bs Q) : SX l base D cA h0 Y pc loc (.ref v :: .int i :: .ref a :: stk) h bc bs Q := by
  intro p e R s m args below meth c H locs cells slots mc ms ls S h1 h2 hl hr hs
  have S0 := S
  obtain ⟨⟨hx, hb⟩, ⟨hml, hrt, hown, hts⟩, ⟨hlk, hin0, hsf, hbs, hst⟩, -, -⟩ := S
  have ha : base ≤ a := by rw [← hr.2.1]; exact hz
  have hcell := hr.arr ha hc (by decide)
  have hv8 : g_c h v = 8 := hv
  have hvb : base ≤ v := hr.high hsf (by omega) (by omega) (by omega) (by omega)
  obtain ⟨r, hr8, cellV, g1, g2, g3, -⟩ := (hr.2.2.2.2.2.2 v hvb (by omega)).1 (by omega)
  rw [hv8] at hr8 g2
  have hcls := (hsf.1.1 7 r hr8).2
  obtain ⟨kA, comp, k1, k2, k3, -⟩ := (hsf.1.2 5 _ rfl).2
  have hr9 : r.1 = "SluiceshelfModel$Pane" := by
    have : r = ("SluiceshelfModel$Pane", uT8, 6) := (Option.some.inj hr8).symm
    rw [this]
  rw [hr9] at hcls
  have hcomp : comp = D.1 7 := Option.some.inj (k3.symm.trans hcls.1)
  subst hcomp
  obtain ⟨kC, hkC, -⟩ := hcls.2
  have hlt : i.toNatClampNeg < g_n h a := Nat.not_le.mp fun q => hin (Or.inr q)
  have h09 : ¬ i < 0 := fun q => hin (Or.inl q)
  refine W.aast hx hb hcell (fun q h => by cases h) (fun h => by cases h) k1 k2 rfl hkC ⟨h09, by show _ < (arrV _ _ _).slots.size; rw [arrV_size]; exact hlt⟩ g1 (fun q h => by rw [g3] at h; cases h) (by rw [g2]; exact hkC) (by rw [g2]; exact va_assign hcls) rfl rfl hd fun H1 e z oq => ?_
  refine k _ _ _ _ _ _ _ _ _ H1 _ _ _ _ _ _ S0 h1 h2 hl (hr.put ha z oq sameB_r (cellR_arr (t := 106) hc (by decide) (by decide) ?_ ?_)) (S_put hs z oq ha)
  · rw [e]
    show some ((vp_cell _ _).setSlot _ _) = some (vp_cell _ _)
    unfold arO
    simp only [show ¬ (106 : Nat) = 102 by decide, if_false, if_true]
    rw [vp_cell_q, vp_cell_q, arrV_store]
    congr 2
    funext q
    by_cases hq : q = i.toNatClampNeg
    · subst hq
      simp [updV, r_pr, va_rf]
    · simp [updV, r_pr, hq]
  · intro z; cases z
theorem def_fv {t9 : FieldType} {t k kd : Nat} (hk : tyk kd (some t9) = true) (e : fkd t k = kd) : defaultValue t9 = fv (p_N h t 0) (g_t h) t k := by
  unfold fv
  rw [e]
  match kd, hk with
  | 0, hk => simp [tyk] at hk; subst hk; simp [i_pN]; rfl
  | 1, hk => simp [tyk] at hk; subst hk; simp [l_pN]; rfl
  | 2, hk =>
    simp [r_pN]
    cases t9 <;> first | rfl | (exact absurd hk (by decide)) | simp [tyk] at hk
  | 3, hk => simp [tyk] at hk; subst hk; simp [i_pN]; rfl
  | 4, hk => simp [tyk] at hk; subst hk; simp [i_pN]; rfl
  | n + 5, hk => simp [tyk] at hk
def okC (e : Nat × (Nat × Nat) × (Nat × Nat × Nat)) : Bool := match cls[e.2.1.1 - 1]? with
  | none => false
  | some r => decide (1 ≤ e.2.1.1 ∧ e.2.1.1 ≤ 100) && ((List.range r.2.2).all (fun k => tyk (fkd e.2.1.1 k) (parseFieldDescriptor (r.2.1 k).2.2.1)) &&
     (decide (lw_at e.2.2.1 = some (.classLink (cn (e.1 / 65536)) (e.1 % 65536) r.1)) && (decide (lw_at e.2.2.2.1 = some (.instantiable r.1 e.2.1.2)) && (decide (lw_at e.2.2.2.2 = some (.initialized r.1)) &&
     (goodWord (.classLink (cn (e.1 / 65536)) (e.1 % 65536) r.1) && (goodWord (.instantiable r.1 e.2.1.2) && goodWord (.initialized r.1)))))))
theorem okC_all : tC_l.all okC = true := by decide +kernel
theorem tC_mem {q : Nat} {v : Nat × Nat} (h : tC q = some v) : ∃ x, (q, v, x) ∈ tC_l := by
  unfold tC at h
  rw [Option.map_eq_some_iff] at h
  obtain ⟨e, h1, h2⟩ := h
  have h3 := List.find?_some h1
  obtain ⟨a, b, x⟩ := e
  simp only [beq_iff_eq] at h3 h2
  subst h3; subst h2
  exact ⟨x, List.mem_of_find?_eq_some h1⟩
theorem sx_new {tag n : Nat} (hd : decode (tb_b Y) pc = .ok (.new idx, 3)) (hf : tC (tb_o Y * 65536 + idx) = some (tag, n)) (hidx : idx < 65536) (hbc : 1 ≤ bc) (hbn : n ≤ bs) (k : SX l base D cA h0 Y (pc + 3) loc (.ref (g_t h) :: stk) (p_N h tag 0) (bc - 1) (bs - n) Q) : SX l base D cA h0 Y pc loc stk h bc bs Q := by
  intro p e R s m args below meth c H locs cells slots mc ms ls S h1 h2 hl hr hs
  have S0 := S
  obtain ⟨⟨hx, hb⟩, ⟨hml, hrt, hown, hts⟩, ⟨hlk, hin0, hsf, hbs, hst⟩, ⟨hR1, hR2, hR3, hR4⟩, -⟩ := S
  obtain ⟨x, hx9⟩ := tC_mem hf
  have hok := List.all_eq_true.mp okC_all _ hx9
  have e1 : (tb_o Y * 65536 + idx) / 65536 = tb_o Y := by omega
  have e2 : (tb_o Y * 65536 + idx) % 65536 = idx := by omega
  simp only [okC, e1, e2] at hok
  cases hcl : cls[tag - 1]? with
  | none => rw [hcl] at hok; cases hok
  | some r =>
    rw [hcl] at hok
    simp only [Bool.and_eq_true, List.all_eq_true, List.mem_range, decide_eq_true_eq] at hok
    obtain ⟨⟨c1, c2⟩, c3, w1, w2, w3, v1, v2, v3⟩ := hok
    obtain ⟨o1, o2, o3⟩ := okR_of hcl
    have hKn := hsf.1.1 _ r hcl
    refine W.newcK hx hb hown (hts _ (Wd_at _ w1 v1)) (hts _ (Wd_at _ w2 v2)) (hts _ (Wd_at _ w3 v3)) rfl hd (by omega) (by omega) hKn.2.1 hr.1.symm fun H1 kC hkC e1 z1 oq1 => ?_
    have oq : ∀ q, q < H.size → H1[q]? = H[q]? := fun q hq => oq1 q (by rw [hr.1]; exact hq)
    have z : H1.size = H.size + 1 := by rw [z1, hr.1]
    refine k _ _ _ _ _ _ _ _ _ H1 _ _ _ _ _ _ S0 (by omega) (by omega) hl (hr.new z oq ⟨fun _ => ?_, fun q => ?_, fun q => ?_⟩) (S_new hs z oq)
    · rw [c_pN, if_pos rfl]
      exact ⟨r, hcl, (u_born (fun k => (parseFieldDescriptor (r.2.1 k).2.2.1).getD .int) hts o1 hKn hkC e1 o2).to (fun j hj => def_fv (kd := fkd tag j) (by rw [← o2 j hj]; exact c3 j hj) rfl)⟩
    · exact absurd (by rw [c_pN, if_pos rfl]; exact c2) q
    · rw [c_pN, if_pos rfl] at q
      omega
theorem nt_ok {ty : ArrayType} (ht : ¬ tb_t ty = 0) : (Cond.arrayClass (newarray.typeOf ty)) ∈ Wd ∧ componentBytes (newarray.typeOf ty) ≤ 8 ∧ 101 ≤ tb_t ty ∧ tb_t ty ≤ 105 := by
  cases ty <;> first | exact absurd rfl ht | exact ⟨by first | exact Wd_mem (by decide +kernel) rfl, by decide, by decide, by decide⟩
theorem sx_newa {ty : ArrayType} {n : Int32} (hd : decode (tb_b Y) pc = .ok (.newarray ty, 2)) (ht : ¬ tb_t ty = 0) (hn : ¬ n < 0) (hn2 : n.toNatClampNeg ≤ 67108864) (hbc : 1 ≤ bc) (hbn : n.toNatClampNeg ≤ bs) (k : SX l base D cA h0 Y (pc + 2) loc (.ref (g_t h) :: stk) (p_N h (tb_t ty) n.toNatClampNeg) (bc - 1) (bs - n.toNatClampNeg) Q) : SX l base D cA h0 Y pc loc (.int n :: stk) h bc bs Q := by
  intro p e R s m args below meth c H locs cells slots mc ms ls S h1 h2 hl hr hs
  have S0 := S
  obtain ⟨⟨hx, hb⟩, ⟨hml, hrt, hown, hts⟩, ⟨hlk, hin0, hsf, hbs, hst⟩, ⟨hR1, hR2, hR3, hR4⟩, -⟩ := S
  obtain ⟨t1, t2, t3, t4⟩ := nt_ok ht
  refine va_newaK hx hb (hts _ t1) rfl hd rfl hn rfl (Nat.le_trans (Nat.mul_le_mul hn2 t2) (by decide)) (by omega) (by omega) hr.1.symm fun H1 cA1 e1 z1 oq1 hAr hNm => ?_
  have oq : ∀ q, q < H.size → H1[q]? = H[q]? := fun q hq => oq1 q (by rw [hr.1]; exact hq)
  have z : H1.size = H.size + 1 := by rw [z1, hr.1]
  have hcA : cA1 = cA (tb_t ty) := by
    have K := hsf.1.2
    cases ty <;> first
      | exact absurd rfl ht
      | exact Option.some.inj (hNm.symm.trans (K 0 _ rfl).2)
      | exact Option.some.inj (hNm.symm.trans (K 1 _ rfl).2)
      | exact Option.some.inj (hNm.symm.trans (K 2 _ rfl).2)
      | exact Option.some.inj (hNm.symm.trans (K 3 _ rfl).2)
      | exact Option.some.inj (hNm.symm.trans (K 4 _ rfl).2)
  subst hcA
  refine k _ _ _ _ _ _ _ _ _ H1 _ _ _ _ _ _ S0 (by omega) (by omega) hl (hr.new z oq (cellR_arr (t := tb_t ty) (by rw [c_pN, if_pos rfl]) t3 (by omega) ?_ ?_)) (S_new hs z oq)
  · rw [e1]
    have en : g_n (p_N h (tb_t ty) n.toNatClampNeg) (g_t h) = n.toNatClampNeg := by rw [n_pN, if_pos rfl]
    have ei : g_i (p_N h (tb_t ty) n.toNatClampNeg) (g_t h) = fun _ => 0 := by funext j; rw [i_pN, if_pos rfl]
    have el : g_l (p_N h (tb_t ty) n.toNatClampNeg) (g_t h) = fun _ => 0 := by funext j; rw [l_pN, if_pos rfl]
    unfold arO
    rw [en, ei, el]
    cases ty <;> first | exact absurd rfl ht | rfl
  · intro _ j
    rw [i_pN, if_pos rfl]
    decide
def okA (e : Nat × Nat) : Bool := decide (lw_at e.2 = some (.classLink (cn (e.1 / 65536)) (e.1 % 65536) "SluiceshelfModel$Pane")) && goodWord (.classLink (cn (e.1 / 65536)) (e.1 % 65536) "SluiceshelfModel$Pane")
theorem okA_all : tA_l.all okA = true := by decide +kernel
theorem sx_anew {n : Int32} (hd : decode (tb_b Y) pc = .ok (.anewarray idx, 3)) (hf : tA (tb_o Y * 65536 + idx) = true) (hidx : idx < 65536) (hn : ¬ n < 0) (hn2 : n.toNatClampNeg ≤ 67108864) (hbc : 1 ≤ bc) (hbn : n.toNatClampNeg ≤ bs) (k : SX l base D cA h0 Y (pc + 3) loc (.ref (g_t h) :: stk) (p_N h 106 n.toNatClampNeg) (bc - 1) (bs - n.toNatClampNeg) Q) : SX l base D cA h0 Y pc loc (.int n :: stk) h bc bs Q := by
  intro p e R s m args below meth c H locs cells slots mc ms ls S h1 h2 hl hr hs
  have S0 := S
  obtain ⟨⟨hx, hb⟩, ⟨hml, hrt, hown, hts⟩, ⟨hlk, hin0, hsf, hbs, hst⟩, ⟨hR1, hR2, hR3, hR4⟩, -⟩ := S
  unfold tA at hf
  obtain ⟨e, he1, he2⟩ := List.any_eq_true.mp hf
  have hok := List.all_eq_true.mp okA_all _ he1
  obtain ⟨eq, ew⟩ := e
  simp only [beq_iff_eq] at he2
  subst he2
  have e1 : (tb_o Y * 65536 + idx) / 65536 = tb_o Y := by omega
  have e2 : (tb_o Y * 65536 + idx) % 65536 = idx := by omega
  simp only [okA, e1, e2, Bool.and_eq_true, decide_eq_true_eq] at hok
  refine W.anew hx hb hown (hts _ (Wd_at _ hok.1 hok.2)) (va_AO.use hsf.2.2.2.2.2.2.2.1) rfl hd rfl hn (by omega) (by omega) (by omega) fun cA1 kA comp f1 f2 f3 f4 => ?_
  generalize hH1 : H.push ({ cls := cA1, slots := Array.replicate n.toNatClampNeg .null, vm := .none } : Cell) = H1
  have z : H1.size = H.size + 1 := by rw [← hH1, Array.size_push]
  have e1 : H1[H.size]? = some (arrV cA1 n.toNatClampNeg (fun _ => .null)) := by rw [← hH1, Array.getElem?_push_size, ← arrV_new]
  have oq : ∀ q : Nat, q < H.size → H1[q]? = H[q]? := fun q hq => by rw [← hH1, Array.getElem?_push, if_neg (Nat.ne_of_lt hq)]
  have hcA : cA1 = cA 106 := by
    obtain ⟨kA, comp, k1, k2, k3, k4⟩ := (hsf.1.2 5 _ rfl).2
    exact Option.some.inj (f1.symm.trans k4)
  subst hcA
  rw [← hr.1]
  refine k _ _ _ _ _ _ _ _ _ H1 _ _ _ _ _ _ S0 (by omega) (by omega) hl (hr.new z oq (cellR_arr (t := 106) (by rw [c_pN, if_pos rfl]) (by decide) (by decide) ?_ (fun z => by cases z))) (S_new hs z oq)
  rw [hr.1, e1, ← hr.1]
  have en : g_n (p_N h 106 n.toNatClampNeg) (g_t h) = n.toNatClampNeg := by rw [n_pN, if_pos rfl]
  have er : g_r (p_N h 106 n.toNatClampNeg) (g_t h) = fun _ => none := by funext j; rw [r_pN, if_pos rfl]
  unfold arO
  rw [en, er]
  rfl
end SXD

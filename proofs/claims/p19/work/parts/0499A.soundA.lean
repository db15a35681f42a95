/-! the calls, by their kinds -/
section SXJ
variable {l : Launch} {base : Nat} {D : va_G} {cA : Nat → ClassId} {h0 : MH}
variable {Y pc idx : Nat} {loc stk : List Value} {h h' : MH} {bc bs : Nat} {Q : MR → MH → Prop}
/-- an address that holds a thing of a class: its cell -/
theorem tag_cell {s : State} {H : Heap} {locs : List Loc} {a tag : Nat} {r : vw_C} (hsf : SF base D cA h0 s s.heap) (hr : Rel base D cA h0 h H) (hs : va_S (Ab base) s.heap H locs) (hc : g_c h a = tag) (h1 : 1 ≤ tag) (h2 : tag ≤ 100) (hcl : cls[tag - 1]? = some r) :
    ∃ cellB : Cell, H[a]? = some cellB ∧ cellB.vm.isStatics = false ∧ s.vm.findClass r.1 = some cellB.cls := by
  by_cases ha : base ≤ a
  · obtain ⟨k1, -, -⟩ := hr.2.2.2.2.2.2 a ha (by omega)
    obtain ⟨r', g1, cell, q1, q2, q3, q4⟩ := k1 (by omega)
    rw [hc] at g1 q2
    cases g1.symm.trans hcl
    obtain ⟨hS, hfc, kC, hkC, hkind⟩ := hsf.1.1 _ r hcl
    exact ⟨cell, q1, by rw [q3]; rfl, by rw [q2]; exact hfc⟩
  · obtain ⟨b1, -, -, -⟩ := hr.2.2.2.2.2.1 a (by omega)
    rcases hsf.2.1 a (by omega) (by rw [← b1]; omega) with ⟨t1, ⟨cell, e1, e2, e3, e4⟩, -, -⟩ | ⟨t1, -, -⟩ | ⟨t1, -, -⟩
    · have ht : tag = 11 := by omega
      subst ht
      cases (show some ("java/lang/String", uT11, 2) = some r from hcl)
      exact ⟨cell, by rw [hs.2.1 a (Array.getElem?_eq_some_iff.mp e1).1 e4]; exact e1, e2, e3⟩
    · omega
    · omega
theorem okZ_hy {Z : Nat} (hz : okZ Z = true) : (tb_y Z).cls ≠ "java/lang/invoke/MethodHandle" ∧ (tb_y Z).cls ≠ "java/lang/invoke/VarHandle" := by
  simp only [okZ, decide_eq_true_eq] at hz
  exact ⟨hz.2.2.2.2.2.1, hz.2.2.2.2.2.2.1⟩
theorem okZ_m {Z : Nat} (hz : okZ Z = true) : tb_m Z ≤ 21 := by
  simp only [okZ, decide_eq_true_eq] at hz
  exact hz.2.2.2.2.2.2.2.1
theorem okZ_0 {Z : Nat} (hz : okZ Z = true) (hh : hhY Z = []) : Cond.code (tb_y Z) (tb_b Z) (tb_m Z) (tb_r Z) ∈ Wd := by
  have := cwd_in hz
  unfold cwd at this
  rwa [if_pos hh] at this
theorem okZ_1 {Z : Nat} (hz : okZ Z = true) (hh : ¬ hhY Z = []) : Cond.codeWith (tb_y Z) (tb_b Z) (tb_m Z) (tb_r Z) (hhY Z) ∈ Wd := by
  have := cwd_in hz
  unfold cwd at this
  rwa [if_neg hh] at this
theorem sx_cs {Z n tag mcZ msZ : Nat} {as st : List Value} (hd : decode (tb_b Y) pc = .ok (.invokestatic idx, 3)) (hf : tM (tb_o Y * 65536 + idx) = some (Z, 0, n, tag)) (hidx : idx < 65536) (ht : s_tk n stk = some (as, st)) (hm : (ent as).length ≤ tb_m Z ∧ tb_d Z + 1 ≤ tb_d Y) (hbc : mcZ ≤ bc) (hbs : msZ ≤ bs) (hcs : (st.map (fun v => v.category)).sum ≤ 8)
    (k : SX l base D cA h0 Z 0 (entN (tb_m Z) as) [] h mcZ msZ (Kc (SX l base D cA h0) Y pc (pc + 3) loc st (bc - mcZ) (bs - msZ) Q)) : SX l base D cA h0 Y pc loc stk h bc bs Q := by
  intro p e R s m args below meth c H locs cells slots mc ms ls S h1 h2 hl hr hs
  have S0 := S
  obtain ⟨⟨hx, hb⟩, ⟨hml, hrt, hown, hts⟩, ⟨hlk, hin0, hsf, hbs0, hst⟩, ⟨hR1, hR2, hR3, hR4⟩, hrk, htab⟩ := S
  obtain ⟨ws, hw⟩ := tM_of hf
  have hok := List.all_eq_true.mp okM_all _ hw
  simp only [okM, key_div hidx, key_mod hidx, show ¬ (7 ≤ 0 ∧ 0 ≤ 11) by decide, if_false] at hok
  simp only [Bool.and_eq_true] at hok
  obtain ⟨hz, hn, hok⟩ := hok
  obtain ⟨e1, e2⟩ := s_tk_of ht
  have hM := SX_met (h0 := h0) hst hz hm.1 k
  have hZm := okZ_m hz
  have hwsz : ∀ w ∈ wsZ Z, ∀ (a' : Array Value) (U : State), s.WarmedH U.vm → w.before a' U = true := fun w hw a' U hW => word_at hW (Wd_good w (wsZ_in hz w hw)) (hts w (wsZ_in hz w hw))
  have hfr : (rmZ Z mcZ msZ).frames + 1 ≤ R.frames := by show tb_d Z + 1 ≤ R.frames; omega
  have hlo : 8 + (tb_m Z + 11) + (rmZ Z mcZ msZ).locals ≤ R.locals := by show 8 + (tb_m Z + 11) + 40 * tb_d Z ≤ R.locals; omega
  have hp : PreS s H (PcO base D cA h0 as h) as := ⟨PcO_blind, fun U hU hW => ⟨rfl, by rw [hU]; exact hr, SF_at hsf hs hU hW, by rw [hU]; exact hr.2.2.1⟩⟩
  match ws, hok with
  | [a, b, d], hok =>
    simp only [Bool.and_eq_true] at hok
    refine Kc_go (pc' := 0) (rest := st) S0 h1 h2 hl hs hbc hbs (a := as.toArray) ?_
    by_cases hh : hhY Z = []
    · exact vx_runS ⟨hx, hb, hml, hown, hts⟩ hM ⟨⟨rfl, rfl, hfr, hlo, hwsz, by rw [wsZ_0 hh]; exact List.mem_cons_self, hts _ (okZ_0 hz hh), hts _ (atW_in hok.2.2), okZ_hy hz, nOf_of hn, hts _ (atW_in hok.1)⟩, hts _ (atW_in hok.2.1)⟩ hp rfl e2 hl.2.1 e1 (by show 2 * 0 + _ ≤ 8; omega) hd ⟨by omega, by omega⟩
    · exact vx_runSX (hh := hhY Z) ⟨hx, hb, hml, hown, hts⟩ hM ⟨⟨rfl, rfl, hfr, hlo, hwsz, by rw [wsZ_1 hh]; exact List.mem_cons_self⟩, hts _ (okZ_1 hz hh), hts _ (atW_in hok.2.2), okZ_hy hz, nOf_of hn, hts _ (atW_in hok.1), hts _ (atW_in hok.2.1)⟩ hp rfl e2 hl.2.1 e1 (by show 2 * 0 + _ ≤ 8; omega) hd ⟨by omega, by omega⟩
theorem sx_cv {Z n kd tag mcZ msZ a : Nat} {as st : List Value} (hd : decode (tb_b Y) pc = .ok (.invokevirtual idx, 3)) (hf : tM (tb_o Y * 65536 + idx) = some (Z, kd, n, tag)) (hkd : ¬ (7 ≤ kd ∧ kd ≤ 11)) (hk0 : ¬ kd = 0) (hidx : idx < 65536) (ht : s_tk n stk = some (as, .ref a :: st)) (hc : g_c h a = tag) (hm : (ent (.ref a :: as)).length ≤ tb_m Z ∧ tb_d Z + 1 ≤ tb_d Y) (hbc : mcZ ≤ bc) (hbs : msZ ≤ bs) (hcs : (st.map (fun v => v.category)).sum ≤ 8)
    (k : SX l base D cA h0 Z 0 (entN (tb_m Z) (.ref a :: as)) [] h mcZ msZ (Kc (SX l base D cA h0) Y pc (pc + 3) loc st (bc - mcZ) (bs - msZ) Q)) : SX l base D cA h0 Y pc loc stk h bc bs Q := by
  intro p e R s m args below meth c H locs cells slots mc ms ls S h1 h2 hl hr hs
  have S0 := S
  obtain ⟨⟨hx, hb⟩, ⟨hml, hrt, hown, hts⟩, ⟨hlk, hin0, hsf, hbs0, hst⟩, ⟨hR1, hR2, hR3, hR4⟩, hrk, htab⟩ := S
  obtain ⟨ws, hw⟩ := tM_of hf
  have hok := List.all_eq_true.mp okM_all _ hw
  simp only [okM, key_div hidx, key_mod hidx, if_neg hkd] at hok
  simp only [Bool.and_eq_true] at hok
  obtain ⟨hz, hn, hok⟩ := hok
  obtain ⟨e1, e2⟩ := s_tk_of ht
  have hM := SX_met (h0 := h0) hst hz hm.1 k
  have hZm := okZ_m hz
  have hwsz : ∀ w ∈ wsZ Z, ∀ (a' : Array Value) (U : State), s.WarmedH U.vm → w.before a' U = true := fun w hw a' U hW => word_at hW (Wd_good w (wsZ_in hz w hw)) (hts w (wsZ_in hz w hw))
  have hfr : (rmZ Z mcZ msZ).frames + 1 ≤ R.frames := by show tb_d Z + 1 ≤ R.frames; omega
  have hlo : 8 + (tb_m Z + 11) + (rmZ Z mcZ msZ).locals ≤ R.locals := by show 8 + (tb_m Z + 11) + 40 * tb_d Z ≤ R.locals; omega
  have hpc : ∀ U : State, U.heap = H → s.WarmedH U.vm → PcO base D cA h0 (.ref a :: as) h (Value.ref a :: as).toArray U := fun U hU hW => ⟨rfl, by rw [hU]; exact hr, SF_at hsf hs hU hW, by rw [hU]; exact hr.2.2.1⟩
  refine Kc_go (pc' := 0) (rest := st) S0 h1 h2 hl hs hbc hbs (a := (Value.ref a :: as).toArray) ?_
  match kd, hkd, hk0, ws, hok with
  | 1, _, _, [w1, w2, w3, w4], hok =>
    simp only [Bool.and_eq_true, decide_eq_true_eq] at hok
    obtain ⟨q1, q2, q3, q4, t1, t2, t3, hh⟩ := hok
    rw [Option.map_eq_some_iff] at t3
    obtain ⟨r, hcl, hrn⟩ := t3
    have hcell := tag_cell hsf hr hs hc t1 t2 hcl
    rw [hrn] at hcell
    exact vx_runV (C := (tb_y Z).cls) ⟨hx, hb, hml, hown, hts⟩ hM ⟨⟨rfl, rfl, hfr, hlo, hwsz, by rw [wsZ_0 hh]; exact List.mem_cons_self, hts _ (okZ_0 hz hh), hts _ (atW_in q4), okZ_hy hz, nOf_of hn, hts _ (atW_in q1)⟩, hts _ (atW_in q2), hts _ (atW_in q3)⟩ ⟨PcO_blind, hcell, hpc⟩ rfl e2 hl.2.1 e1 (by show 2 * 0 + _ ≤ 8; omega) hd ⟨by omega, by omega⟩
  | 5, _, _, [w1, w2, w3, w4, w5, w6, w7, w8, X], hok =>
    simp only [Bool.and_eq_true, Bool.or_eq_true, decide_eq_true_eq] at hok
    obtain ⟨hzX, ⟨xy, hhX, hh, ht10⟩, q1, q2, q4, q5, q8, q3⟩ := hok
    have hcell := tag_cell (r := ("java/lang/StringBuilder", uT10, 4)) hsf hr hs hc (by omega) (by omega) (by rw [ht10]; rfl)
    have hsel : Cond.selects "java/lang/StringBuilder" (tb_y X) (tb_y Z) ∈ Wd := by
      rcases q3 with q3 | ⟨q3, q6⟩
      · exact atW_in q3
      · rw [← q3]
        exact List.mem_filter.mpr ⟨List.mem_append.mpr (Or.inl (List.mem_map.mpr ⟨X, q6, rfl⟩)), rfl⟩
    refine vx_runU (C := "java/lang/StringBuilder") (owner := (tb_y X).cls) (x := tb_y X) ⟨hx, hb, hml, hown, hts⟩ hM ⟨⟨rfl, rfl, hfr, hlo, hwsz, by rw [wsZ_0 hh]; exact List.mem_cons_self⟩, hts _ (okZ_0 hz hh), hts _ (atW_in q5), okZ_hy hzX, ?_, hts _ (atW_in q1), hts _ (atW_in q2), va_Decl.of (hts _ (atW_in q8)) (hts _ (okZ_0 hzX hhX)), hts _ hsel, hts _ (atW_in q4)⟩ ⟨PcO_blind, hcell, hpc⟩ rfl e2 hl.2.1 e1 (by show 2 * 0 + _ ≤ 8; omega) hd ⟨by omega, by omega⟩
    rw [xy]
    exact nOf_of hn
theorem sx_ci {Z n kd tag mcZ msZ a : Nat} {as st : List Value} (hd : decode (tb_b Y) pc = .ok (.invokespecial idx, 3)) (hf : tI (tb_o Y * 65536 + idx) = some (Z, kd, n, tag)) (hk6 : ¬ kd = 6) (hidx : idx < 65536) (ht : s_tk n stk = some (as, .ref a :: st)) (hc : g_c h a = tag) (hm : (ent (.ref a :: as)).length ≤ tb_m Z ∧ tb_d Z + 1 ≤ tb_d Y) (hbc : mcZ ≤ bc) (hbs : msZ ≤ bs) (hcs : (st.map (fun v => v.category)).sum ≤ 8)
    (k : SX l base D cA h0 Z 0 (entN (tb_m Z) (.ref a :: as)) [] h mcZ msZ (Kc (SX l base D cA h0) Y pc (pc + 3) loc st (bc - mcZ) (bs - msZ) Q)) : SX l base D cA h0 Y pc loc stk h bc bs Q := by
  intro p e R s m args below meth c H locs cells slots mc ms ls S h1 h2 hl hr hs
  have S0 := S
  obtain ⟨⟨hx, hb⟩, ⟨hml, hrt, hown, hts⟩, ⟨hlk, hin0, hsf, hbs0, hst⟩, ⟨hR1, hR2, hR3, hR4⟩, hrk, htab⟩ := S
  obtain ⟨ws, hw⟩ := tI_of hf
  have hok := List.all_eq_true.mp okI9_all _ hw
  simp only [okI9, key_div hidx, key_mod hidx, if_neg hk6] at hok
  simp only [Bool.and_eq_true, decide_eq_true_eq] at hok
  obtain ⟨hz, hn, hh, hok⟩ := hok
  obtain ⟨e1, e2⟩ := s_tk_of ht
  have hM := SX_met (h0 := h0) hst hz hm.1 k
  have hZm := okZ_m hz
  have hwsz : ∀ w ∈ wsZ Z, ∀ (a' : Array Value) (U : State), s.WarmedH U.vm → w.before a' U = true := fun w hw a' U hW => word_at hW (Wd_good w (wsZ_in hz w hw)) (hts w (wsZ_in hz w hw))
  have hfr : (rmZ Z mcZ msZ).frames + 1 ≤ R.frames := by show tb_d Z + 1 ≤ R.frames; omega
  have hlo : 8 + (tb_m Z + 11) + (rmZ Z mcZ msZ).locals ≤ R.locals := by show 8 + (tb_m Z + 11) + 40 * tb_d Z ≤ R.locals; omega
  have hpc : ∀ U : State, U.heap = H → s.WarmedH U.vm → PcO base D cA h0 (.ref a :: as) h (Value.ref a :: as).toArray U := fun U hU hW => ⟨rfl, by rw [hU]; exact hr, SF_at hsf hs hU hW, by rw [hU]; exact hr.2.2.1⟩
  have hcz := hts _ (okZ_0 hz hh)
  refine Kc_go (pc' := 0) (rest := st) S0 h1 h2 hl hs hbc hbs (a := (Value.ref a :: as).toArray) ?_
  match kd, hk6, ws, hok with
  | 2, _, [w1, w2, w3], hok =>
    simp only [Bool.and_eq_true, decide_eq_true_eq] at hok
    obtain ⟨q1, q2, q3, q4, q5⟩ := hok
    exact vx_runI (ws := wsZ Z) (rm := rmZ Z mcZ msZ) (bytes := tb_b Z) (maxL := tb_m Z) (y := tb_y Z) (n := n) ⟨hx, hb, hml, hown, hts⟩ hM ⟨⟨rfl, rfl, hfr, hlo, hwsz, by rw [← q5, wsZ_0 hh]; exact List.mem_cons_self, by rw [← q5]; exact hcz, hts _ (atW_in q3), okZ_hy hz, nOf_of hn, hts _ (atW_in q1)⟩, q4, hts _ (atW_in q2)⟩ ⟨PcO_blind, hpc⟩ rfl e2 hl.2.1 e1 (by show 2 * 0 + _ ≤ 8; omega) hd ⟨by omega, by omega⟩
  | 3, _, [w1, w2, w3], hok =>
    simp only [Bool.and_eq_true, decide_eq_true_eq] at hok
    obtain ⟨q1, q2, q3, q4, q5⟩ := hok
    exact vx_runIN (ws := wsZ Z) (rm := rmZ Z mcZ msZ) (bytes := tb_b Z) (maxL := tb_m Z) (y := tb_y Z) (n := n) ⟨hx, hb, hml, hown, hts⟩ hM ⟨⟨⟨rfl, rfl, hfr, hlo, hwsz, by rw [← q5, wsZ_0 hh]; exact List.mem_cons_self⟩, by rw [← q5]; exact hcz, hts _ (atW_in q3), okZ_hy hz, nOf_of hn, (hsf.2.2.2.2.2.2.1 _ (List.mem_of_getElem? q1) rfl).use rfl⟩, q4, hts _ (atW_in q2)⟩ ⟨PcO_blind, hpc⟩ rfl e2 hl.2.1 e1 (by show 2 * 0 + _ ≤ 8; omega) hd ⟨by omega, by omega⟩
  | 4, _, [w1, w2, w3, w4, w5], hok =>
    simp only [Bool.and_eq_true, decide_eq_true_eq] at hok
    obtain ⟨q1, q2, q3, q4, q5, q6, ht10⟩ := hok
    have hcell := tag_cell (r := ("java/lang/StringBuilder", uT10, 4)) hsf hr hs hc (by omega) (by omega) (by rw [ht10]; rfl)
    obtain ⟨hS, hfc, kC, hkC, hkind⟩ := hsf.1.1 9 _ (show cls[9]? = some ("java/lang/StringBuilder", uT10, 4) from rfl)
    exact vx_runSU (C := "java/lang/StringBuilder") ⟨hfc, kC, hkC, hkind⟩ ⟨hx, hb, hml, hown, hts⟩ hM ⟨⟨rfl, rfl, hfr, hlo, hwsz, by rw [wsZ_0 hh]; exact List.mem_cons_self⟩, hts _ (atW_in q1), hts _ (atW_in q2), hts _ (atW_in q3), hts _ (atW_in q4), hts _ (atW_in q5), hcz, q6, nOf_of hn⟩ ⟨PcO_blind, hcell, hpc⟩ rfl e2 hl.2.1 e1 (by show 2 * 0 + _ ≤ 8; omega) hd ⟨by omega, by omega⟩
end SXJ

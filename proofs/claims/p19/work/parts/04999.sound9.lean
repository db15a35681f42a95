def okI9 (e : Nat × (Nat × Nat × Nat × Nat) × List Nat) : Bool :=
  if e.2.1.2.1 = 6 then true else okZ e.2.1.1 && (nOfZ e.2.1.1 e.2.1.2.2.1 && (decide (hhY e.2.1.1 = []) && (match e.2.1.2.1, e.2.2 with
  | 2, [a, b, c] => atW a (.methodLink (cn (e.1 / 65536)) (e.1 % 65536) (tb_y e.2.1.1)) && (atW b (.instanceMethod (tb_y e.2.1.1)) && (atW c (.initialized (tb_y e.2.1.1).cls) && decide ((tb_y e.2.1.1).name = "<init>" ∧ tb_r e.2.1.1 = none)))
  | 3, [a, b, c] => decide (lw_tbl[a]? = some (.methodLinkNest (cn (e.1 / 65536)) (e.1 % 65536) (tb_y e.2.1.1) (cn (e.1 / 65536)))) && (atW b (.instanceMethod (tb_y e.2.1.1)) && (atW c (.initialized (tb_y e.2.1.1).cls) && decide ((tb_y e.2.1.1).name = "<init>" ∧ tb_r e.2.1.1 = none)))
  | 4, [a, b, c, d, f] => atW a (.methodLink (cn (e.1 / 65536)) (e.1 % 65536) (tb_y e.2.1.1)) && (atW b (.sameMethod (tb_y e.2.1.1).cls (tb_y e.2.1.1).cls (tb_y e.2.1.1).name (tb_y e.2.1.1).desc) && (atW c (.superclass (cn (e.1 / 65536)) (tb_y e.2.1.1).cls) && (atW d (.instanceMethod (tb_y e.2.1.1)) && (atW f (.initialized (tb_y e.2.1.1).cls) && decide ((tb_y e.2.1.1).name ≠ "<init>" ∧ e.2.1.2.2.2 = 10)))))
  | _, _ => false)))
theorem okI9_all : tI_l.all okI9 = true := by decide +kernel
def okQe (Y : Nat) (x : Nat × Nat × Nat × Nat) : Bool := match tQ_l.find? (fun e => e.1 == tb_o Y * 65536 + x.2.2.2) with
  | some e => decide (e.2.1 ∈ [1, 2, 3] ∧ x.2.2.2 ≠ 0) && (atW e.2.2 (.classLink (cn (tb_o Y)) x.2.2.2 (exN e.2.1)) && decide (Cond.castable (exN e.2.1) (exN e.2.1) ∈ lw_tbl))
  | none => false
theorem okQe_all : (List.range NM).all (fun Y => (hhY Y).all (okQe Y)) = true := by decide +kernel
theorem hhY_lt {Y : Nat} (h : hhY Y ≠ []) : Y < NM := by
  rcases Nat.lt_or_ge Y NM with z | z
  · exact z
  · exfalso
    apply h
    unfold hhY
    have e : Nat.blt Y NM = false := by
      cases h9 : Nat.blt Y NM with
      | false => rfl
      | true => have := Nat.blt_eq.mp h9; omega
    unfold NM at e
    rw [e]
    rfl
theorem okQ_of {Y : Nat} {x : Nat × Nat × Nat × Nat} (hx : x ∈ hhY Y) : x.2.2.2 ≠ 0 ∧ tQ (tb_o Y * 65536 + x.2.2.2) ∈ [1, 2, 3] ∧ (Cond.classLink (cn (tb_o Y)) x.2.2.2 (exN (tQ (tb_o Y * 65536 + x.2.2.2)))) ∈ Wd ∧ Cond.castable (exN (tQ (tb_o Y * 65536 + x.2.2.2))) (exN (tQ (tb_o Y * 65536 + x.2.2.2))) ∈ lw_tbl := by
  have h1 := List.all_eq_true.mp okQe_all Y (List.mem_range.mpr (hhY_lt (fun z => by rw [z] at hx; cases hx)))
  have h2 := List.all_eq_true.mp h1 x hx
  unfold okQe at h2
  unfold tQ
  cases hf : tQ_l.find? (fun e => e.1 == tb_o Y * 65536 + x.2.2.2) with
  | none => rw [hf] at h2; cases h2
  | some e =>
    rw [hf] at h2
    simp only [Bool.and_eq_true, decide_eq_true_eq] at h2
    exact ⟨h2.1.2, h2.1.1, atW_in h2.2.1, h2.2.2⟩
theorem s_tk_of {n : Nat} {stk as st : List Value} (h : s_tk n stk = some (as, st)) : stk = as.reverse ++ st ∧ as.length = n := by
  unfold s_tk at h
  by_cases hn : n ≤ stk.length
  · rw [if_pos hn] at h
    cases h
    refine ⟨by rw [List.reverse_reverse, List.take_append_drop], by rw [List.length_reverse, List.length_take]; omega⟩
  · rw [if_neg hn] at h
    cases h
section SXH
variable {l : Launch} {base : Nat} {D : va_G} {cA : Nat → ClassId} {h0 : MH}
variable {Y pc idx : Nat} {loc stk : List Value} {h h' : MH} {bc bs : Nat} {Q : MR → MH → Prop}
theorem SF_at {s U : State} {H : Heap} {locs : List Loc} (hsf : SF base D cA h0 s s.heap) (hs : va_S (Ab base) s.heap H locs) (hU : U.heap = H) (hW : s.WarmedH U.vm) : SF base D cA h0 U U.heap := hsf.go hW (fun q h1 h2 => by rw [hU]; exact hs.2.1 q h1 h2)
/-- behind the call: on in this method, or its handler, or out -/
theorem Kc_go {pc' : Nat} {loc rest : List Value} {p : Program} {e : Env} {R : Room} {s : State} {m : MethodId} {args : Array Value} {below : List Frame} {meth : Method} {c : Code} {H : Heap} {locs : List Loc} {cells slots mc ms mcZ msZ : Nat} {ls : Array Slot} {a : Array Value}
    (S : fit0 l base D cA h0 Y p R s m args meth c mc ms) (h1 : cells + bc ≤ mc) (h2 : slots + bs ≤ ms) (hl : RL (tb_m Y) loc ls) (hs : va_S (Ab base) s.heap H locs) (hbc : mcZ ≤ bc) (hbs : msZ ≤ bs)
    (hr : vx_Run p l e R s m args below meth c H locs cells slots mcZ msZ (F0 m pc ls stk) rest (QcO base D cA h0 (Kc (SX l base D cA h0) Y pc (pc + 3) loc rest (bc - mcZ) (bs - msZ) Q) a) (XcO base D cA h0 (Kc (SX l base D cA h0) Y pc (pc + 3) loc rest (bc - mcZ) (bs - msZ) Q)) (Ab base)) :
    W p l e R s m args below meth c H locs cells slots (vx_MQ below (QcO base D cA h0 Q) (XcO base D cA h0 Q) args s mc ms (Ab base)) (F0 m pc ls stk) := by
  refine run_go hr hs (fun En h' ce q H1 locs1 hQ hR hS hce hcv hcl => ?_) (fun v h' H1 locs1 hQ hR hS => hQ p e R s m args below meth c H1 locs1 _ _ mc ms ls S (by omega) (by omega) hl hR hS)
  obtain ⟨⟨hx, hb⟩, ⟨hml, hrt, hown, hts⟩, ⟨hlk, hin0, hsf, hbs9, hst⟩, ⟨hR1, hR2, hR3, hR4⟩, -, htab⟩ := id S
  simp only [Kc] at hQ
  by_cases hh : hhY Y = []
  · rw [if_pos hh] at hQ
    refine vx_out (fun x hx => by rw [htab, hh] at hx; cases hx) hlk hce hcv hcl (fun t ht hW => ⟨En, h', rfl, hQ, by rw [ht]; exact hR, ?_⟩) hS.2.2 (by omega) (by omega)
    exact hS.F ht
  · rw [if_neg hh] at hQ
    cases hn : hnd Y pc En with
    | none => rw [hn] at hQ; exact hQ.elim
    | some hp =>
      rw [hn] at hQ
      unfold hnd at hn
      rw [Option.map_eq_some_iff] at hn
      obtain ⟨x, hx1, hx2⟩ := hn
      obtain ⟨hpx, as, bs', hsp, hpre⟩ := List.find?_eq_some_iff_append.mp hx1
      simp only [Bool.and_eq_true, beq_iff_eq, Nat.ble_eq, Nat.blt_eq] at hpx
      have hxm : x ∈ hhY Y := by rw [hsp]; simp
      have hqx := okQ_of hxm
      have hEn := hpx.2.2
      rw [hEn] at hqx
      refine vx_catch hown (tableOf as) ⟨x.1, x.2.1, x.2.2.1, x.2.2.2⟩ (tableOf bs') (by rw [htab, hsp]; simp [tableOf]) (fun z hz => ?_) (by simp [covers, hpx.1, hpx.2.1]) (by exact hqx.1) (hts _ hqx.2.2.1) ((hsf.2.2.2.2.2.2.1 _ hqx.2.2.2 rfl).use rfl) hce hcv hcl (by
        show W _ _ _ _ _ _ _ _ _ _ _ _ _ _ _ (F0 m x.2.2.1 ls [.ref q])
        rw [hx2]
        exact hQ q p e R s m args below meth c H1 locs1 _ _ mc ms ls S (by omega) (by omega) hl hR hS)
      obtain ⟨w, hw1, hw2⟩ := List.mem_map.mp hz
      have hnot := hpre w hw1
      subst hw2
      by_cases hcov : covers (⟨w.1, w.2.1, w.2.2.1, w.2.2.2⟩ : ExceptionTableEntry) pc = true
      · refine Or.inr ?_
        simp only [covers, Bool.and_eq_true, decide_eq_true_eq] at hcov
        have hwm : w ∈ hhY Y := by rw [hsp]; simp [hw1]
        have hqw := okQ_of hwm
        refine ⟨hqw.1, _, hts _ hqw.2.2.1, hsf.2.2.2.2.2.2.2.2 En hqx.2.1 _ hqw.2.1 (fun z => ?_)⟩
        simp only [Bool.not_eq_true', Bool.and_eq_false_iff, ← z, beq_self_eq_true] at hnot
        rcases hnot with y1 | y1 | y1
        · have := hcov.1
          have y2 : ¬ w.1 ≤ pc := fun y => by rw [Nat.ble_eq.mpr y] at y1; cases y1
          omega
        · have := hcov.2
          have y2 : ¬ pc < w.2.1 := fun y => by rw [Nat.blt_eq.mpr y] at y1; cases y1
          omega
        · cases y1
      · exact Or.inl (by simpa using hcov)
end SXH

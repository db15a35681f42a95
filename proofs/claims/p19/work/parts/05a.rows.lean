/-! ROWS OF THE SMALL MACHINE: a row a kind of instruction, both ways -/
def csum (l : List Value) : Nat := (l.map (fun v => v.category)).sum
theorem csum_rf (x : Option Nat) (l : List Value) : csum (va_rf x :: l) = 1 + csum l := by cases x <;> rfl
section OkRows
variable {Y pc pc' len idx : Nat} {ins : Instr} {loc loc' stk stk' : List Value} {h h' : MH} {bc bs : Nat} {Q : MR → MH → Prop} {c : Prop}
theorem Ok_st (hd : decode (tb_b Y) pc = .ok (ins, len)) (hi0 : gd pc ins = true := by decide) : Ok Y pc loc stk h bc bs Q ↔ Fi Ok Y pc loc h bc bs Q (stp Y pc ins len loc stk h) := by
  rw [Ok_eq, step, hd]
  simp only [if_pos hi0]
theorem Ok_nx (hd : decode (tb_b Y) pc = .ok (ins, len)) (hs : stp Y pc ins len loc stk h = s_nx c pc' loc' stk' h') (hi0 : gd pc ins = true := by decide) : Ok Y pc loc stk h bc bs Q ↔ c ∧ Ok Y pc' loc' stk' h' bc bs Q := by
  rw [Ok_st hd hi0, hs]
  exact ⟨fun k => ⟨k.1, k.2.2.2⟩, fun k => ⟨k.1, Nat.zero_le _, Nat.zero_le _, k.2⟩⟩
theorem Ok_n1 (hd : decode (tb_b Y) pc = .ok (ins, len)) (hs : stp Y pc ins len loc stk h = s_nx c pc' loc' stk' h') (hc : c) (hi0 : gd pc ins = true := by decide) : Ok Y pc loc stk h bc bs Q ↔ Ok Y pc' loc' stk' h' bc bs Q := by
  rw [Ok_nx hd hs hi0]
  exact ⟨fun k => k.2, fun k => ⟨hc, k⟩⟩
/-- with what must hold said plainer -/
theorem Ok_nc {c2 : Prop} (hd : decode (tb_b Y) pc = .ok (ins, len)) (hs : stp Y pc ins len loc stk h = s_nx c pc' loc' stk' h') (hc : c ↔ c2) (hi0 : gd pc ins = true := by decide) : Ok Y pc loc stk h bc bs Q ↔ c2 ∧ Ok Y pc' loc' stk' h' bc bs Q := by
  rw [Ok_nx hd hs hi0, hc]
theorem Ok_al {n : Nat} {c2 : Prop} (hd : decode (tb_b Y) pc = .ok (ins, len)) (hs : stp Y pc ins len loc stk h = s_al c n pc' loc' stk' h') (hc : c ↔ c2) (hi0 : gd pc ins = true := by decide) : Ok Y pc loc stk h bc bs Q ↔ c2 ∧ 1 ≤ bc ∧ n ≤ bs ∧ Ok Y pc' loc' stk' h' (bc - 1) (bs - n) Q := by
  rw [Ok_st hd hi0, hs, ← hc]
  exact Iff.rfl
theorem Ok_b2 {p q : Prop} {t f : Nat} (hd : decode (tb_b Y) pc = .ok (ins, len)) (hs : stp Y pc ins len loc stk h = s_br c [(p, t), (q, f)] loc' stk') (hc : c) (hpq : q = ¬ p) (hi0 : gd pc ins = true := by decide) : Ok Y pc loc stk h bc bs Q ↔ (p → Ok Y t loc' stk' h bc bs Q) ∧ (¬ p → Ok Y f loc' stk' h bc bs Q) := by
  subst hpq
  rw [Ok_st hd hi0, hs]
  refine ⟨fun k => ⟨k.2 (p, t) (by simp), k.2 (¬ p, f) (by simp)⟩, fun k => ⟨hc, fun z hz => ?_⟩⟩
  simp only [List.mem_cons, List.not_mem_nil, or_false] at hz
  rcases hz with rfl | rfl
  · exact k.1
  · exact k.2
theorem Ok_sw {alts : List (Prop × Nat)} (hd : decode (tb_b Y) pc = .ok (ins, len)) (hs : stp Y pc ins len loc stk h = s_br c alts loc' stk') (hc : c) (hi0 : gd pc ins = true := by decide) : Ok Y pc loc stk h bc bs Q ↔ ∀ q ∈ alts, q.1 → Ok Y q.2 loc' stk' h bc bs Q := by
  rw [Ok_st hd hi0, hs]
  exact ⟨fun k => k.2, fun k => ⟨hc, k⟩⟩
theorem Ok_re {v : Option Value} {c2 : Prop} (hd : decode (tb_b Y) pc = .ok (ins, len)) (hs : stp Y pc ins len loc stk h = s_re c v) (hc : c ↔ c2) (hi0 : gd pc ins = true := by decide) : Ok Y pc loc stk h bc bs Q ↔ c2 ∧ Q (.inl v) h := by
  rw [Ok_st hd hi0, hs, ← hc]
  exact Iff.rfl
theorem Ok_r1 {v : Option Value} (hd : decode (tb_b Y) pc = .ok (ins, len)) (hs : stp Y pc ins len loc stk h = s_re c v) (hc : c) (hi0 : gd pc ins = true := by decide) : Ok Y pc loc stk h bc bs Q ↔ Q (.inl v) h := by
  rw [Ok_re hd hs Iff.rfl hi0]
  exact ⟨fun k => k.2, fun k => ⟨hc, k⟩⟩
theorem Ok_th {E : Nat} (hd : decode (tb_b Y) pc = .ok (ins, len)) (hs : stp Y pc ins len loc stk h = s_th c E) (hc : c) (hi0 : gd pc ins = true := by decide) : Ok Y pc loc stk h bc bs Q ↔ 1 ≤ bc ∧ 6 ≤ bs ∧ ∀ t : Nat, g_t h ≤ t → Q (.inr E) (p_T h t) := by
  rw [Ok_st hd hi0, hs]
  exact ⟨fun k => k.2, fun k => ⟨hc, k⟩⟩
/-- behind a call where nothing is caught -/
def Kn (Y pc' : Nat) (loc rest : List Value) (bc bs : Nat) (Q : MR → MH → Prop) : MR → MH → Prop := fun r h => match r with
  | .inl v => Ok Y pc' loc (v.toList ++ rest) h bc bs Q
  | .inr E => Q (.inr E) h
theorem Kn_v {v : Value} {rest : List Value} : Kn Y pc' loc rest bc bs Q (.inl (some v)) h ↔ Ok Y pc' loc (v :: rest) h bc bs Q := Iff.rfl
theorem Kn_0 {rest : List Value} : Kn Y pc' loc rest bc bs Q (.inl none) h ↔ Ok Y pc' loc rest h bc bs Q := Iff.rfl
theorem Kn_x {E : Nat} {rest : List Value} : Kn Y pc' loc rest bc bs Q (.inr E) h ↔ Q (.inr E) h := Iff.rfl
theorem Kc_n {Y pc pc' : Nat} {loc rest : List Value} {bc bs : Nat} {Q : MR → MH → Prop} (h : hhY Y = []) : Kc Ok Y pc pc' loc rest bc bs Q = Kn Y pc' loc rest bc bs Q := by
  funext r h'
  cases r with
  | inl v => rfl
  | inr E => simp only [Kc, Kn, h, if_true]
theorem Ok_ca {Z mc ms : Nat} {as rest zl : List Value} {c2 : Prop} (hd : decode (tb_b Y) pc = .ok (ins, len)) (hs : stp Y pc ins len loc stk h = s_ca c Z mc ms as pc' rest) (hc : c ↔ c2) (hm : (ent as).length ≤ tb_m Z ∧ tb_d Z + 1 ≤ tb_d Y) (hz : entN (tb_m Z) as = zl) (hn : hhY Y = []) (hi0 : gd pc ins = true := by decide) :
    Ok Y pc loc stk h bc bs Q ↔ c2 ∧ mc ≤ bc ∧ ms ≤ bs ∧ csum rest ≤ 8 ∧ Ok Z 0 zl [] h mc ms (Kn Y pc' loc rest (bc - mc) (bs - ms) Q) := by
  rw [Ok_st hd hi0, hs, ← hc, ← hz, ← Kc_n hn]
  exact ⟨fun k => ⟨k.1, k.2.1, k.2.2.1, k.2.2.2.2⟩, fun k => ⟨k.1, k.2.1, k.2.2.1, hm, k.2.2.2⟩⟩
/-- a call that makes nothing -/
theorem Ok_c0 {Z : Nat} {as rest zl : List Value} {c2 : Prop} (hd : decode (tb_b Y) pc = .ok (ins, len)) (hs : stp Y pc ins len loc stk h = s_ca c Z 0 0 as pc' rest) (hc : c ↔ c2) (hm : (ent as).length ≤ tb_m Z ∧ tb_d Z + 1 ≤ tb_d Y) (hz : entN (tb_m Z) as = zl) (hn : hhY Y = []) (hi0 : gd pc ins = true := by decide) :
    Ok Y pc loc stk h bc bs Q ↔ c2 ∧ csum rest ≤ 8 ∧ Ok Z 0 zl [] h 0 0 (Kn Y pc' loc rest bc bs Q) := by
  rw [Ok_ca hd hs hc hm hz hn hi0]
  exact ⟨fun k => ⟨k.1, k.2.2.2⟩, fun k => ⟨k.1, Nat.zero_le _, Nat.zero_le _, k.2⟩⟩
theorem Ok_ch {Z mc ms : Nat} {as rest zl : List Value} {c2 : Prop} (hd : decode (tb_b Y) pc = .ok (ins, len)) (hs : stp Y pc ins len loc stk h = s_ca c Z mc ms as pc' rest) (hc : c ↔ c2) (hm : (ent as).length ≤ tb_m Z ∧ tb_d Z + 1 ≤ tb_d Y) (hz : entN (tb_m Z) as = zl) (hi0 : gd pc ins = true := by decide) :
    Ok Y pc loc stk h bc bs Q ↔ c2 ∧ mc ≤ bc ∧ ms ≤ bs ∧ csum rest ≤ 8 ∧ Ok Z 0 zl [] h mc ms (Kc Ok Y pc pc' loc rest (bc - mc) (bs - ms) Q) := by
  rw [Ok_st hd hi0, hs, ← hc, ← hz]
  exact ⟨fun k => ⟨k.1, k.2.1, k.2.2.1, k.2.2.2.2⟩, fun k => ⟨k.1, k.2.1, k.2.2.1, hm, k.2.2.2⟩⟩
theorem Kc_v {v : Value} {rest : List Value} : Kc Ok Y pc pc' loc rest bc bs Q (.inl (some v)) h ↔ Ok Y pc' loc (v :: rest) h bc bs Q := Iff.rfl
theorem Kc_x {E hp : Nat} {rest : List Value} (hy : ¬ hhY Y = []) (hh : hnd Y pc E = some hp) : Kc Ok Y pc pc' loc rest bc bs Q (.inr E) h ↔ ∀ q : Nat, Ok Y hp loc [.ref q] h bc bs Q := by
  simp only [Kc, if_neg hy, hh]
end OkRows

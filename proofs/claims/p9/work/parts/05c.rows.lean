section OkRows
variable {Y pc pc' len idx : Nat} {ins : Instr} {loc loc' stk stk' : List Value} {h h' : MH} {bc bs : Nat} {Q : MR → MH → Prop} {c : Prop}
theorem Ok_ca {Z mc ms : Nat} {as rest zl : List Value} {c2 : Prop} (hd : decode (tb_b Y) pc = .ok (ins, len)) (hs : stp Y pc ins len loc stk h = s_ca c Z mc ms as pc' rest) (hc : c ↔ c2) (hm : (ent as).length ≤ tb_m Z ∧ tb_d Z + 1 ≤ tb_d Y) (hz : entN (tb_m Z) as = zl) (hn : hhY Y = []) (hi0 : gd pc ins = true := by decide) :
    Ok Y pc loc stk h bc bs Q ↔ c2 ∧ mc ≤ bc ∧ ms ≤ bs ∧ csum rest ≤ 8 ∧ Ok Z 0 zl [] h mc ms (Kn Y pc' loc rest (bc - mc) (bs - ms) Q) := by
  rw [Ok_st hd hi0, hs, ← hc, ← hz, ← Kc_n hn]
  exact ⟨fun k => ⟨k.1, k.2.1, k.2.2.1, k.2.2.2.2⟩, fun k => ⟨k.1, k.2.1, k.2.2.1, hm, k.2.2.2⟩⟩
/-- a call that makes nothing -/
theorem Ok_c0 {Z : Nat} {as rest zl : List Value} {c2 : Prop} (hd : decode (tb_b Y) pc = .ok (ins, len)) (hs : stp Y pc ins len loc stk h = s_ca c Z 0 0 as pc' rest) (hc : c ↔ c2) (hm : (ent as).length ≤ tb_m Z ∧ tb_d Z + 1 ≤ tb_d Y) (hz : entN (tb_m Z) as = zl) (hn : hhY Y = []) (hi0 : gd pc ins = true := by decide) :
    Ok Y pc loc stk h bc bs Q ↔ c2 ∧ csum rest ≤ 8 ∧ Ok Z 0 zl [] h 0 0 (Kn Y pc' loc rest bc bs Q) := by
  rw [Ok_ca hd hs hc hm hz hn hi0]
  exact ⟨fun k => ⟨k.1, k.2.2.2⟩, fun k => ⟨k.1, Nat.zero_le _, Nat.zero_le _, k.2⟩⟩
theorem Ok_ch {Z mc ms : Nat} {as rest zl : List Value} {c2 : Prop} (hd : decode (tb_b Y) pc = .ok (ins, len)) (hs : stp Y pc ins len loc stk h = s_ca c Z mc ms as pc' rest) (hc : c ↔ c2) (hm : (ent as).length ≤ tb_m Z ∧ tb_d Z + 1 ≤ tb_d Y) (hz : entN (tb_m Z) as = zl) (hi0 : gd pc ins = true := by decide) :
    Ok Y pc loc stk h bc bs Q ↔ c2 ∧ mc ≤ bc ∧ ms ≤ bs ∧ csum rest ≤ 8 ∧ Ok Z 0 zl [] h mc ms (Kc Ok Y pc pc' loc rest (bc - mc) (bs - ms) Q) := by
  rw [Ok_st hd hi0, hs, ← hc, ← hz]
  exact ⟨fun k => ⟨k.1, k.2.1, k.2.2.1, k.2.2.2.2⟩, fun k => ⟨k.1, k.2.1, k.2.2.1, hm, k.2.2.2⟩⟩
theorem Kc_v {v : Value} {rest : List Value} : Kc Ok Y pc pc' loc rest bc bs Q (.inl (some v)) h ↔ Ok Y pc' loc (v :: rest) h bc bs Q := Iff.rfl
theorem Kc_0 {rest : List Value} : Kc Ok Y pc pc' loc rest bc bs Q (.inl none) h ↔ Ok Y pc' loc rest h bc bs Q := Iff.rfl
theorem Kc_x {E hp : Nat} {rest : List Value} (hy : ¬ hhY Y = []) (hh : hnd Y pc E = some hp) : Kc Ok Y pc pc' loc rest bc bs Q (.inr E) h ↔ ∀ q : Nat, Ok Y hp loc [.ref q] h bc bs Q := by
  simp only [Kc, if_neg hy, hh]
end OkRows

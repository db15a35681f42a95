/-! ROWS OF THE SMALL MACHINE: a row a kind of instruction, both ways -/
def csum (l : List Value) : Nat := (l.map (fun v => v.category)).sum
theorem csum_0 : csum [] = 0 := rfl
theorem csum_i (x : Int32) (l : List Value) : csum (.int x :: l) = 1 + csum l := rfl
theorem csum_l (x : Int64) (l : List Value) : csum (.long x :: l) = 2 + csum l := rfl
theorem csum_r (x : Nat) (l : List Value) : csum (.ref x :: l) = 1 + csum l := rfl
theorem csum_n (l : List Value) : csum (.null :: l) = 1 + csum l := rfl
theorem csum_rf (x : Option Nat) (l : List Value) : csum (va_rf x :: l) = 1 + csum l := by cases x <;> rfl
theorem rf_some (a : Nat) : va_rf (some a) = .ref a := rfl
theorem rf_none : va_rf none = .null := rfl
section OkRows
variable {Y pc pc' len idx : Nat} {ins : Instr} {loc loc' stk stk' : List Value} {h h' : MH} {bc bs : Nat} {Q : MR → MH → Prop} {c : Prop}
theorem Ok_st (hd : decode (tb_b Y) pc = .ok (ins, len)) (hi0 : gd pc ins = true := by decide) : Ok Y pc loc stk h bc bs Q ↔ Fi Ok Y pc loc h bc bs Q (stp Y pc ins len loc stk h) := by
  rw [Ok_eq, step, hd]
  simp only [if_pos hi0]
theorem Ok_nx (hd : decode (tb_b Y) pc = .ok (ins, len)) (hs : stp Y pc ins len loc stk h = s_nx c pc' loc' stk' h') (hi0 : gd pc ins = true := by decide) : Ok Y pc loc stk h bc bs Q ↔ c ∧ Ok Y pc' loc' stk' h' bc bs Q := by
  rw [Ok_st hd hi0, hs]
  exact ⟨fun k => ⟨k.1, k.2.2.2⟩, fun k => ⟨k.1, Nat.zero_le _, Nat.zero_le _, k.2⟩⟩
theorem Ok_n1 (hd : decode (tb_b Y) pc = .ok (ins, len)) (hs : stp Y pc ins len loc stk h = s_nx c pc' loc' stk' h') (hc : c) (hi0 : gd pc ins = true := by decide) : Ok Y pc loc stk h bc bs Q ↔ Ok Y pc' loc' stk' h' bc bs Q := by
  rw [Ok_nx hd hs hi0]
  exact ⟨fun k => k.2, fun k => ⟨hc, k⟩⟩
/-- with what must hold said plainer -/
theorem Ok_nc {c2 : Prop} (hd : decode (tb_b Y) pc = .ok (ins, len)) (hs : stp Y pc ins len loc stk h = s_nx c pc' loc' stk' h') (hc : c ↔ c2) (hi0 : gd pc ins = true := by decide) : Ok Y pc loc stk h bc bs Q ↔ c2 ∧ Ok Y pc' loc' stk' h' bc bs Q := by
  rw [Ok_nx hd hs hi0, hc]
theorem Ok_al {n : Nat} {c2 : Prop} (hd : decode (tb_b Y) pc = .ok (ins, len)) (hs : stp Y pc ins len loc stk h = s_al c n pc' loc' stk' h') (hc : c ↔ c2) (hi0 : gd pc ins = true := by decide) : Ok Y pc loc stk h bc bs Q ↔ c2 ∧ 1 ≤ bc ∧ n ≤ bs ∧ Ok Y pc' loc' stk' h' (bc - 1) (bs - n) Q := by
  rw [Ok_st hd hi0, hs, ← hc]
  exact Iff.rfl
end OkRows

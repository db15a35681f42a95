/-! ROWS OF THE SMALL MACHINE: a row a kind of instruction, both ways -/
def csum (l : List Value) : Nat := (l.map (fun v => v.category)).sum
theorem csum_0 : csum [] = 0 := rfl
theorem csum_i (x : Int32) (l : List Value) : csum (.int x :: l) = 1 + csum l := rfl
theorem csum_l (x : Int64) (l : List Value) : csum (.long x :: l) = 2 + csum l := rfl
theorem csum_r (x : Nat) (l : List Value) : csum (.ref x :: l) = 1 + csum l := rfl
theorem csum_n (l : List Value) : csum (.null :: l) = 1 + csum l := rfl
theorem csum_rf (x : Option Nat) (l : List Value) : csum (va_rf x :: l) = 1 + csum l := by cases x <;> rfl
theorem rf_some (a : Nat) : va_rf (some a) = .ref a := rfl
theorem rf_none : va_rf none = .null := rfl
section OkRows
variable {Y pc pc' len idx : Nat} {ins : Instr} {loc loc' stk stk' : List Value} {h h' : MH} {bc bs : Nat} {Q : MR → MH → Prop} {c : Prop}
theorem Ok_st (hd : decode (tb_b Y) pc = .ok (ins, len)) (hi0 : gd pc ins = true := by decide) : Ok Y pc loc stk h bc bs Q ↔ Fi Ok Y pc loc h bc bs Q (stp Y pc ins len loc stk h) := by
  rw [Ok_eq, step, hd]
  simp only [if_pos hi0]
theorem Ok_nx (hd : decode (tb_b Y) pc = .ok (ins, len)) (hs : stp Y pc ins len loc stk h = s_nx c pc' loc' stk' h') (hi0 : gd pc ins = true := by decide) : Ok Y pc loc stk h bc bs Q ↔ c ∧ Ok Y pc' loc' stk' h' bc bs Q := by
  rw [Ok_st hd hi0, hs]
  exact ⟨fun k => ⟨k.1, k.2.2.2⟩, fun k => ⟨k.1, Nat.zero_le _, Nat.zero_le _, k.2⟩⟩
theorem Ok_n1 (hd : decode (tb_b Y) pc = .ok (ins, len)) (hs : stp Y pc ins len loc stk h = s_nx c pc' loc' stk' h') (hc : c) (hi0 : gd pc ins = true := by decide) : Ok Y pc loc stk h bc bs Q ↔ Ok Y pc' loc' stk' h' bc bs Q := by
  rw [Ok_nx hd hs hi0]
  exact ⟨fun k => k.2, fun k => ⟨hc, k⟩⟩
/-- with what must hold said plainer -/
theorem Ok_nc {c2 : Prop} (hd : decode (tb_b Y) pc = .ok (ins, len)) (hs : stp Y pc ins len loc stk h = s_nx c pc' loc' stk' h') (hc : c ↔ c2) (hi0 : gd pc ins = true := by decide) : Ok Y pc loc stk h bc bs Q ↔ c2 ∧ Ok Y pc' loc' stk' h' bc bs Q := by
  rw [Ok_nx hd hs hi0, hc]
theorem Ok_al {n : Nat} {c2 : Prop} (hd : decode (tb_b Y) pc = .ok (ins, len)) (hs : stp Y pc ins len loc stk h = s_al c n pc' loc' stk' h') (hc : c ↔ c2) (hi0 : gd pc ins = true := by decide) : Ok Y pc loc stk h bc bs Q ↔ c2 ∧ 1 ≤ bc ∧ n ≤ bs ∧ Ok Y pc' loc' stk' h' (bc - 1) (bs - n) Q := by
  rw [Ok_st hd hi0, hs, ← hc]
  exact Iff.rfl
theorem Ok_b2 {p q : Prop} {t f : Nat} (hd : decode (tb_b Y) pc = .ok (ins, len)) (hs : stp Y pc ins len loc stk h = s_br c [(p, t), (q, f)] loc' stk') (hc : c) (hpq : q = ¬ p) (hi0 : gd pc ins = true := by decide) : Ok Y pc loc stk h bc bs Q ↔ (p → Ok Y t loc' stk' h bc bs Q) ∧ (¬ p → Ok Y f loc' stk' h bc bs Q) := by
  subst hpq
  rw [Ok_st hd hi0, hs]
  refine ⟨fun k => ⟨k.2 (p, t) (by simp), k.2 (¬ p, f) (by simp)⟩, fun k => ⟨hc, fun z hz => ?_⟩⟩
  simp only [List.mem_cons, List.not_mem_nil, or_false] at hz
  rcases hz with rfl | rfl
  · exact k.1
  · exact k.2
theorem Ok_sw {alts : List (Prop × Nat)} (hd : decode (tb_b Y) pc = .ok (ins, len)) (hs : stp Y pc ins len loc stk h = s_br c alts loc' stk') (hc : c) (hi0 : gd pc ins = true := by decide) : Ok Y pc loc stk h bc bs Q ↔ ∀ q ∈ alts, q.1 → Ok Y q.2 loc' stk' h bc bs Q := by
  rw [Ok_st hd hi0, hs]
  exact ⟨fun k => k.2, fun k => ⟨hc, k⟩⟩
theorem Ok_re {v : Option Value} {c2 : Prop} (hd : decode (tb_b Y) pc = .ok (ins, len)) (hs : stp Y pc ins len loc stk h = s_re c v) (hc : c ↔ c2) (hi0 : gd pc ins = true := by decide) : Ok Y pc loc stk h bc bs Q ↔ c2 ∧ Q (.inl v) h := by
  rw [Ok_st hd hi0, hs, ← hc]
  exact Iff.rfl
theorem Ok_r1 {v : Option Value} (hd : decode (tb_b Y) pc = .ok (ins, len)) (hs : stp Y pc ins len loc stk h = s_re c v) (hc : c) (hi0 : gd pc ins = true := by decide) : Ok Y pc loc stk h bc bs Q ↔ Q (.inl v) h := by
  rw [Ok_re hd hs Iff.rfl hi0]
  exact ⟨fun k => k.2, fun k => ⟨hc, k⟩⟩
theorem Ok_th {E : Nat} (hd : decode (tb_b Y) pc = .ok (ins, len)) (hs : stp Y pc ins len loc stk h = s_th c E) (hc : c) (hi0 : gd pc ins = true := by decide) : Ok Y pc loc stk h bc bs Q ↔ 1 ≤ bc ∧ 6 ≤ bs ∧ ∀ t : Nat, g_t h ≤ t → Q (.inr E) (p_T h t) := by
  rw [Ok_st hd hi0, hs]
  exact ⟨fun k => k.2, fun k => ⟨hc, k⟩⟩
/-- behind a call where nothing is caught -/
def Kn (Y pc' : Nat) (loc rest : List Value) (bc bs : Nat) (Q : MR → MH → Prop) : MR → MH → Prop := fun r h => match r with
  | .inl v => Ok Y pc' loc (v.toList ++ rest) h bc bs Q
  | .inr E => Q (.inr E) h
theorem Kn_v {v : Value} {rest : List Value} : Kn Y pc' loc rest bc bs Q (.inl (some v)) h ↔ Ok Y pc' loc (v :: rest) h bc bs Q := Iff.rfl
theorem Kn_0 {rest : List Value} : Kn Y pc' loc rest bc bs Q (.inl none) h ↔ Ok Y pc' loc rest h bc bs Q := Iff.rfl
theorem Kn_x {E : Nat} {rest : List Value} : Kn Y pc' loc rest bc bs Q (.inr E) h ↔ Q (.inr E) h := Iff.rfl
theorem Kc_n {Y pc pc' : Nat} {loc rest : List Value} {bc bs : Nat} {Q : MR → MH → Prop} (h : hhY Y = []) : Kc Ok Y pc pc' loc rest bc bs Q = Kn Y pc' loc rest bc bs Q := by
  funext r h'
  cases r with
  | inl v => rfl
  | inr E => simp only [Kc, Kn, h, if_true]
theorem Ok_ca {Z mc ms : Nat} {as rest zl : List Value} {c2 : Prop} (hd : decode (tb_b Y) pc = .ok (ins, len)) (hs : stp Y pc ins len loc stk h = s_ca c Z mc ms as pc' rest) (hc : c ↔ c2) (hm : (ent as).length ≤ tb_m Z ∧ tb_d Z + 1 ≤ tb_d Y) (hz : entN (tb_m Z) as = zl) (hn : hhY Y = []) (hi0 : gd pc ins = true := by decide) :
    Ok Y pc loc stk h bc bs Q ↔ c2 ∧ mc ≤ bc ∧ ms ≤ bs ∧ csum rest ≤ 8 ∧ Ok Z 0 zl [] h mc ms (Kn Y pc' loc rest (bc - mc) (bs - ms) Q) := by
  rw [Ok_st hd hi0, hs, ← hc, ← hz, ← Kc_n hn]
  exact ⟨fun k => ⟨k.1, k.2.1, k.2.2.1, k.2.2.2.2⟩, fun k => ⟨k.1, k.2.1, k.2.2.1, hm, k.2.2.2⟩⟩
/-- a call that makes nothing -/
theorem Ok_c0 {Z : Nat} {as rest zl : List Value} {c2 : Prop} (hd : decode (tb_b Y) pc = .ok (ins, len)) (hs : stp Y pc ins len loc stk h = s_ca c Z 0 0 as pc' rest) (hc : c ↔ c2) (hm : (ent as).length ≤ tb_m Z ∧ tb_d Z + 1 ≤ tb_d Y) (hz : entN (tb_m Z) as = zl) (hn : hhY Y = []) (hi0 : gd pc ins = true := by decide) :
    Ok Y pc loc stk h bc bs Q ↔ c2 ∧ csum rest ≤ 8 ∧ Ok Z 0 zl [] h 0 0 (Kn Y pc' loc rest bc bs Q) := by
  rw [Ok_ca hd hs hc hm hz hn hi0]
  exact ⟨fun k => ⟨k.1, k.2.2.2⟩, fun k => ⟨k.1, Nat.zero_le _, Nat.zero_le _, k.2⟩⟩
theorem Ok_ch {Z mc ms : Nat} {as rest zl : List Value} {c2 : Prop} (hd : decode (tb_b Y) pc = .ok (ins, len)) (hs : stp Y pc ins len loc stk h = s_ca c Z mc ms as pc' rest) (hc : c ↔ c2) (hm : (ent as).length ≤ tb_m Z ∧ tb_d Z + 1 ≤ tb_d Y) (hz : entN (tb_m Z) as = zl) (hi0 : gd pc ins = true := by decide) :
    Ok Y pc loc stk h bc bs Q ↔ c2 ∧ mc ≤ bc ∧ ms ≤ bs ∧ csum rest ≤ 8 ∧ Ok Z 0 zl [] h mc ms (Kc Ok Y pc pc' loc rest (bc - mc) (bs - ms) Q) := by
  rw [Ok_st hd hi0, hs, ← hc, ← hz]
  exact ⟨fun k => ⟨k.1, k.2.1, k.2.2.1, k.2.2.2.2⟩, fun k => ⟨k.1, k.2.1, k.2.2.1, hm, k.2.2.2⟩⟩
theorem Kc_v {v : Value} {rest : List Value} : Kc Ok Y pc pc' loc rest bc bs Q (.inl (some v)) h ↔ Ok Y pc' loc (v :: rest) h bc bs Q := Iff.rfl
theorem Kc_0 {rest : List Value} : Kc Ok Y pc pc' loc rest bc bs Q (.inl none) h ↔ Ok Y pc' loc rest h bc bs Q := Iff.rfl
theorem Kc_x {E hp : Nat} {rest : List Value} (hy : ¬ hhY Y = []) (hh : hnd Y pc E = some hp) : Kc Ok Y pc pc' loc rest bc bs Q (.inr E) h ↔ ∀ q : Nat, Ok Y hp loc [.ref q] h bc bs Q := by
  simp only [Kc, if_neg hy, hh]
-- what the table-bound instructions come to
theorem sg_I {tag k kd fin a : Nat} {st : List Value} (hf : tF (tb_o Y * 65536 + idx) = some (tag, k, kd, fin)) (h1 : ¬ kd = 1) (h2 : ¬ kd = 2) : stp Y pc (.getfield idx) 3 loc (.ref a :: st) h = s_nx (3 = 3 ∧ g_c h a = tag) (pc + 3) loc (.int (g_i h a k) :: st) h := by
  show s_gf _ _ _ _ _ _ _ = _
  simp only [s_gf, hf, if_neg h1, if_neg h2]
theorem sg_L {tag k fin a : Nat} {st : List Value} (hf : tF (tb_o Y * 65536 + idx) = some (tag, k, 1, fin)) : stp Y pc (.getfield idx) 3 loc (.ref a :: st) h = s_nx (3 = 3 ∧ g_c h a = tag) (pc + 3) loc (.long (g_l h a k) :: st) h := by
  show s_gf _ _ _ _ _ _ _ = _
  simp only [s_gf, hf, if_pos]
theorem sg_R {tag k fin a : Nat} {st : List Value} (hf : tF (tb_o Y * 65536 + idx) = some (tag, k, 2, fin)) : stp Y pc (.getfield idx) 3 loc (.ref a :: st) h = s_nx (3 = 3 ∧ g_c h a = tag) (pc + 3) loc (va_rf (g_r h a k) :: st) h := by
  show s_gf _ _ _ _ _ _ _ = _
  simp only [s_gf, hf, if_neg (show ¬ (2 : Nat) = 1 by decide), if_pos]
theorem sp_I {tag k kd fin a : Nat} {v : Int32} {st : List Value} (hf : tF (tb_o Y * 65536 + idx) = some (tag, k, kd, fin)) : stp Y pc (.putfield idx) 3 loc (.int v :: .ref a :: st) h = s_nx (3 = 3 ∧ g_c h a = tag ∧ g_z h ≤ a ∧ kok kd v ∧ ¬ kd = 1 ∧ ¬ kd = 2 ∧ (fin = 1 → okI Y tag k)) (pc + 3) loc st (p_i h a k v) := by
  show s_pf _ _ _ _ _ _ _ = _
  simp only [s_pf, hf]
theorem sp_L {tag k kd fin a : Nat} {v : Int64} {st : List Value} (hf : tF (tb_o Y * 65536 + idx) = some (tag, k, kd, fin)) : stp Y pc (.putfield idx) 3 loc (.long v :: .ref a :: st) h = s_nx (3 = 3 ∧ g_c h a = tag ∧ g_z h ≤ a ∧ kd = 1 ∧ (fin = 1 → okI Y tag k)) (pc + 3) loc st (p_l h a k v) := by
  show s_pf _ _ _ _ _ _ _ = _
  simp only [s_pf, hf]
theorem sp_R {tag k kd fin a v : Nat} {st : List Value} (hf : tF (tb_o Y * 65536 + idx) = some (tag, k, kd, fin)) : stp Y pc (.putfield idx) 3 loc (.ref v :: .ref a :: st) h = s_nx (3 = 3 ∧ g_c h a = tag ∧ g_z h ≤ a ∧ kd = 2 ∧ (fin = 1 → okI Y tag k)) (pc + 3) loc st (p_r h a k (some v)) := by
  show s_pf _ _ _ _ _ _ _ = _
  simp only [s_pf, hf]
theorem kok_0 {v : Int32} : kok 0 v := by simp [kok]
theorem kok_3 {v : Int32} : kok 3 v ↔ (v = 0 ∨ v = 1) := by simp [kok]
theorem kok_4 {v : Int32} : kok 4 v ↔ (-128 ≤ v ∧ v ≤ 127) := by simp [kok]
theorem kok_5 {v : Int32} : kok 5 v ↔ (0 ≤ v ∧ v ≤ 65535) := by simp [kok]
theorem kok_6 {v : Int32} : kok 6 v ↔ (-32768 ≤ v ∧ v ≤ 32767) := by simp [kok]
/-- putfield of a whole number -/
theorem Ok_pI {tag k kd fin a : Nat} {v : Int32} {st : List Value} (hd : decode (tb_b Y) pc = .ok (.putfield idx, 3)) (hf : tF (tb_o Y * 65536 + idx) = some (tag, k, kd, fin)) (h1 : ¬ kd = 1) (h2 : ¬ kd = 2) (hi : fin = 1 → okI Y tag k) (hi0 : gd pc (.putfield idx) = true := by decide) : Ok Y pc loc (.int v :: .ref a :: st) h bc bs Q ↔ (g_c h a = tag ∧ g_z h ≤ a ∧ kok kd v) ∧ Ok Y (pc + 3) loc st (p_i h a k v) bc bs Q :=
  Ok_nc hd (sp_I hf) ⟨fun k => ⟨k.2.1, k.2.2.1, k.2.2.2.1⟩, fun k => ⟨rfl, k.1, k.2.1, k.2.2, h1, h2, hi⟩⟩ hi0
theorem Ok_pL {tag k fin a : Nat} {v : Int64} {st : List Value} (hd : decode (tb_b Y) pc = .ok (.putfield idx, 3)) (hf : tF (tb_o Y * 65536 + idx) = some (tag, k, 1, fin)) (hi : fin = 1 → okI Y tag k) (hi0 : gd pc (.putfield idx) = true := by decide) : Ok Y pc loc (.long v :: .ref a :: st) h bc bs Q ↔ (g_c h a = tag ∧ g_z h ≤ a) ∧ Ok Y (pc + 3) loc st (p_l h a k v) bc bs Q :=
  Ok_nc hd (sp_L hf) ⟨fun k => ⟨k.2.1, k.2.2.1⟩, fun k => ⟨rfl, k.1, k.2, rfl, hi⟩⟩ hi0
theorem Ok_pR {tag k fin a v : Nat} {st : List Value} (hd : decode (tb_b Y) pc = .ok (.putfield idx, 3)) (hf : tF (tb_o Y * 65536 + idx) = some (tag, k, 2, fin)) (hi : fin = 1 → okI Y tag k) (hi0 : gd pc (.putfield idx) = true := by decide) : Ok Y pc loc (.ref v :: .ref a :: st) h bc bs Q ↔ (g_c h a = tag ∧ g_z h ≤ a) ∧ Ok Y (pc + 3) loc st (p_r h a k (some v)) bc bs Q :=
  Ok_nc hd (sp_R hf) ⟨fun k => ⟨k.2.1, k.2.2.1⟩, fun k => ⟨rfl, k.1, k.2, rfl, hi⟩⟩ hi0
theorem Ok_gI {tag k kd fin a : Nat} {st : List Value} (hd : decode (tb_b Y) pc = .ok (.getfield idx, 3)) (hf : tF (tb_o Y * 65536 + idx) = some (tag, k, kd, fin)) (h1 : ¬ kd = 1) (h2 : ¬ kd = 2) (hi0 : gd pc (.getfield idx) = true := by decide) : Ok Y pc loc (.ref a :: st) h bc bs Q ↔ g_c h a = tag ∧ Ok Y (pc + 3) loc (.int (g_i h a k) :: st) h bc bs Q :=
  Ok_nc hd (sg_I hf h1 h2) ⟨fun k => k.2, fun k => ⟨rfl, k⟩⟩ hi0
theorem Ok_gL {tag k fin a : Nat} {st : List Value} (hd : decode (tb_b Y) pc = .ok (.getfield idx, 3)) (hf : tF (tb_o Y * 65536 + idx) = some (tag, k, 1, fin)) (hi0 : gd pc (.getfield idx) = true := by decide) : Ok Y pc loc (.ref a :: st) h bc bs Q ↔ g_c h a = tag ∧ Ok Y (pc + 3) loc (.long (g_l h a k) :: st) h bc bs Q :=
  Ok_nc hd (sg_L hf) ⟨fun k => k.2, fun k => ⟨rfl, k⟩⟩ hi0
theorem Ok_gR {tag k fin a : Nat} {st : List Value} (hd : decode (tb_b Y) pc = .ok (.getfield idx, 3)) (hf : tF (tb_o Y * 65536 + idx) = some (tag, k, 2, fin)) (hi0 : gd pc (.getfield idx) = true := by decide) : Ok Y pc loc (.ref a :: st) h bc bs Q ↔ g_c h a = tag ∧ Ok Y (pc + 3) loc (va_rf (g_r h a k) :: st) h bc bs Q :=
  Ok_nc hd (sg_R hf) ⟨fun k => k.2, fun k => ⟨rfl, k⟩⟩ hi0
/-- calls: static; virtual; special -/
theorem si_S {Z n tag : Nat} {as st : List Value} {mc ms : Nat} (hm : tM (tb_o Y * 65536 + idx) = some (Z, 0, n, tag)) (hk : tb_k Z = (mc, ms)) (ht : s_tk n stk = some (as, st)) : stp Y pc (.invokestatic idx) 3 loc stk h = s_ca (3 = 3 ∧ true = true) Z mc ms as (pc + 3) st := by
  show s_inv _ _ _ _ _ _ _ _ = _
  simp only [s_inv, hm, ht, hk, if_neg (show ¬ (0 : Nat) = 7 by decide), if_neg (show ¬ (0 : Nat) = 8 by decide), if_neg (show ¬ (0 : Nat) = 9 by decide), if_neg (show ¬ (0 : Nat) = 10 by decide), if_neg (show ¬ (0 : Nat) = 11 by decide), if_pos]
theorem si_V {Z kd n tag a : Nat} {as st : List Value} {mc ms : Nat} (hm : tM (tb_o Y * 65536 + idx) = some (Z, kd, n, tag)) (h7 : ¬ kd = 7 ∧ ¬ kd = 9 ∧ ¬ kd = 10 ∧ ¬ kd = 11) (h8 : ¬ kd = 8) (h0 : ¬ kd = 0) (hk : tb_k Z = (mc, ms)) (ht : s_tk n stk = some (as, .ref a :: st)) : stp Y pc (.invokevirtual idx) 3 loc stk h = s_ca (3 = 3 ∧ false = false ∧ g_c h a = tag) Z mc ms (.ref a :: as) (pc + 3) st := by
  show s_inv _ _ _ _ _ _ _ _ = _
  simp only [s_inv, hm, ht, hk, if_neg h7.1, if_neg h7.2.1, if_neg h7.2.2.1, if_neg h7.2.2.2, if_neg h8, if_neg h0]
theorem si_I {Z kd n tag a : Nat} {as st : List Value} {mc ms : Nat} (hm : tI (tb_o Y * 65536 + idx) = some (Z, kd, n, tag)) (h6 : ¬ kd = 6) (hk : tb_k Z = (mc, ms)) (ht : s_tk n stk = some (as, .ref a :: st)) : stp Y pc (.invokespecial idx) 3 loc stk h = s_ca (3 = 3 ∧ g_c h a = tag) Z mc ms (.ref a :: as) (pc + 3) st := by
  show s_spe _ _ _ _ _ _ _ = _
  simp only [s_spe, hm, ht, hk, if_neg h6]
theorem si_9 {Z n tag : Nat} {x y : Int32} {st : List Value} (hm : tM (tb_o Y * 65536 + idx) = some (Z, 9, n, tag)) : stp Y pc (.invokestatic idx) 3 loc (.int y :: .int x :: st) h = s_nx (3 = 3 ∧ true = true ∧ csum st ≤ 8) (pc + 3) loc (.int (if y < x then y else x) :: st) h := by
  show s_inv _ _ _ _ _ _ _ _ = _
  simp only [s_inv, hm, if_neg (show ¬ (9 : Nat) = 7 by decide), if_pos]
  rfl
theorem si_10 {Z n tag : Nat} {x y : Int32} {st : List Value} (hm : tM (tb_o Y * 65536 + idx) = some (Z, 10, n, tag)) : stp Y pc (.invokestatic idx) 3 loc (.int y :: .int x :: st) h = s_nx (3 = 3 ∧ true = true ∧ csum st ≤ 8) (pc + 3) loc (.int (if x < y then y else x) :: st) h := by
  show s_inv _ _ _ _ _ _ _ _ = _
  simp only [s_inv, hm, if_neg (show ¬ (10 : Nat) = 7 by decide), if_neg (show ¬ (10 : Nat) = 9 by decide), if_pos]
  rfl
theorem si_11 {Z n tag : Nat} {x : Int32} {st : List Value} (hm : tM (tb_o Y * 65536 + idx) = some (Z, 11, n, tag)) : stp Y pc (.invokestatic idx) 3 loc (.int x :: st) h = s_nx (3 = 3 ∧ true = true ∧ csum st ≤ 8) (pc + 3) loc (.int (if 0 ≤ x then x else 0 - x) :: st) h := by
  show s_inv _ _ _ _ _ _ _ _ = _
  simp only [s_inv, hm, if_neg (show ¬ (11 : Nat) = 7 by decide), if_neg (show ¬ (11 : Nat) = 9 by decide), if_neg (show ¬ (11 : Nat) = 10 by decide), if_pos]
  rfl
theorem si_7 {Z n9 tag a d : Nat} {n sp dp : Int32} {st : List Value} (hm : tM (tb_o Y * 65536 + idx) = some (Z, 7, n9, tag)) : stp Y pc (.invokestatic idx) 3 loc (.int n :: .int dp :: .ref d :: .int sp :: .ref a :: st) h = s_nx (3 = 3 ∧ true = true ∧ csum st ≤ 8 ∧ g_c h a = 103 ∧ g_c h d = 103 ∧ g_z h ≤ d ∧ ¬ sp < 0 ∧ ¬ dp < 0 ∧ ¬ n < 0 ∧ sp.toNatClampNeg + n.toNatClampNeg ≤ g_n h a ∧ dp.toNatClampNeg + n.toNatClampNeg ≤ g_n h d) (pc + 3) loc st (p_C h d (va_cpy (g_i h a) (g_i h d) sp.toNatClampNeg dp.toNatClampNeg n.toNatClampNeg)) := by
  show s_inv _ _ _ _ _ _ _ _ = _
  simp only [s_inv, hm, if_pos]
  rfl
theorem si_8 {Z n tag a : Nat} {st : List Value} (hm : tM (tb_o Y * 65536 + idx) = some (Z, 8, n, tag)) : stp Y pc (.invokevirtual idx) 3 loc (.ref a :: st) h = s_al (3 = 3 ∧ false = false ∧ csum st ≤ 8 ∧ g_c h a = 103 ∧ g_z h ≤ a) (g_n h a) (pc + 3) loc (.ref (g_t h) :: st) (p_C (p_N h 103 (g_n h a)) (g_t h) (g_i h a)) := by
  show s_inv _ _ _ _ _ _ _ _ = _
  simp only [s_inv, hm, if_neg (show ¬ (8 : Nat) = 7 by decide), if_neg (show ¬ (8 : Nat) = 9 by decide), if_neg (show ¬ (8 : Nat) = 10 by decide), if_neg (show ¬ (8 : Nat) = 11 by decide), if_pos]
  rfl
theorem si_O {Z n tag a : Nat} {st : List Value} (hm : tI (tb_o Y * 65536 + idx) = some (Z, 6, n, tag)) : stp Y pc (.invokespecial idx) 3 loc (.ref a :: st) h = s_nx (3 = 3 ∧ csum st ≤ 8) (pc + 3) loc st h := by
  show s_spe _ _ _ _ _ _ _ = _
  simp only [s_spe, hm, if_pos]
  rfl
theorem st_th {E : Nat} (he : tE (Y * 65536 + pc) = some E) : stp Y pc (.new idx) 3 loc [] h = s_th (3 = 3) E := by
  show s_nw 3 Y pc idx loc [] h = _
  simp only [s_nw, he]
theorem st_nw {tag n : Nat} (he : tE (Y * 65536 + pc) = none) (hc : tC (tb_o Y * 65536 + idx) = some (tag, n)) : stp Y pc (.new idx) 3 loc stk h = s_al (3 = 3) n (pc + 3) loc (.ref (g_t h) :: stk) (p_N h tag 0) := by
  show s_nw _ _ _ _ _ _ _ = _
  simp only [s_nw, he, hc]
theorem kok_of0 {kd : Nat} {x : Int32} (hk : kd = 0) : kok kd x := by subst hk; exact kok_0
theorem kok_to {kd k2 : Nat} {x : Int32} (hk : kd = k2) (k : kok kd x) : kok k2 x := hk ▸ k
theorem kok_fr {kd k2 : Nat} {x : Int32} (hk : kd = k2) (k : kok k2 x) : kok kd x := hk ▸ k
end OkRows

/-! ROWS OF THE SMALL MACHINE: a row a kind of instruction, both ways -/
def csum (l : List Value) : Nat := (l.map (fun v => v.category)).sum
theorem csum_0 : csum [] = 0 := rfl
theorem csum_i (x : Int32) (l : List Value) : csum (.int x :: l) = 1 + csum l := rfl
theorem csum_l (x : Int64) (l : List Value) : csum (.long x :: l) = 2 + csum l := rfl
theorem csum_r (x : Nat) (l : List Value) : csum (.ref x :: l) = 1 + csum l := rfl
theorem csum_n (l : List Value) : csum (.null :: l) = 1 + csum l := rfl
theorem csum_rf (x : Option Nat) (l : List Value) : csum (va_rf x :: l) = 1 + csum l := by cases x <;> rfl
theorem rf_some (a : Nat) : va_rf (some a) = .ref a := rfl
theorem rf_none : va_rf none = .null := rfl
section OkRows
variable {Y pc pc' len idx : Nat} {ins : Instr} {loc loc' stk stk' : List Value} {h h' : MH} {bc bs : Nat} {Q : MR → MH → Prop} {c : Prop}
theorem Ok_st (hd : decode (tb_b Y) pc = .ok (ins, len)) : Ok Y pc loc stk h bc bs Q ↔ Fi Ok Y pc loc h bc bs Q (stp Y pc ins len loc stk h) := by
  rw [Ok_eq, step, hd]
theorem Ok_nx (hd : decode (tb_b Y) pc = .ok (ins, len)) (hs : stp Y pc ins len loc stk h = s_nx c pc' loc' stk' h') : Ok Y pc loc stk h bc bs Q ↔ c ∧ Ok Y pc' loc' stk' h' bc bs Q := by
  rw [Ok_st hd, hs]
  exact ⟨fun k => ⟨k.1, k.2.2.2⟩, fun k => ⟨k.1, Nat.zero_le _, Nat.zero_le _, k.2⟩⟩
theorem Ok_n1 (hd : decode (tb_b Y) pc = .ok (ins, len)) (hs : stp Y pc ins len loc stk h = s_nx c pc' loc' stk' h') (hc : c) : Ok Y pc loc stk h bc bs Q ↔ Ok Y pc' loc' stk' h' bc bs Q := by
  rw [Ok_nx hd hs]
  exact ⟨fun k => k.2, fun k => ⟨hc, k⟩⟩
/-- with what must hold said plainer -/
theorem Ok_nc {c2 : Prop} (hd : decode (tb_b Y) pc = .ok (ins, len)) (hs : stp Y pc ins len loc stk h = s_nx c pc' loc' stk' h') (hc : c ↔ c2) : Ok Y pc loc stk h bc bs Q ↔ c2 ∧ Ok Y pc' loc' stk' h' bc bs Q := by
  rw [Ok_nx hd hs, hc]
theorem Ok_al {n : Nat} {c2 : Prop} (hd : decode (tb_b Y) pc = .ok (ins, len)) (hs : stp Y pc ins len loc stk h = s_al c n pc' loc' stk' h') (hc : c ↔ c2) : Ok Y pc loc stk h bc bs Q ↔ c2 ∧ 1 ≤ bc ∧ n ≤ bs ∧ Ok Y pc' loc' stk' h' (bc - 1) (bs - n) Q := by
  rw [Ok_st hd, hs, ← hc]
  exact Iff.rfl
theorem Ok_b2 {p q : Prop} {t f : Nat} (hd : decode (tb_b Y) pc = .ok (ins, len)) (hs : stp Y pc ins len loc stk h = s_br c [(p, t), (q, f)] loc' stk') (hc : c) (hpq : q = ¬ p) : Ok Y pc loc stk h bc bs Q ↔ (p → Ok Y t loc' stk' h bc bs Q) ∧ (¬ p → Ok Y f loc' stk' h bc bs Q) := by
  subst hpq
  rw [Ok_st hd, hs]
  refine ⟨fun k => ⟨k.2 (p, t) (by simp), k.2 (¬ p, f) (by simp)⟩, fun k => ⟨hc, fun z hz => ?_⟩⟩
  simp only [List.mem_cons, List.not_mem_nil, or_false] at hz
  rcases hz with rfl | rfl
  · exact k.1
  · exact k.2
theorem Ok_sw {alts : List (Prop × Nat)} (hd : decode (tb_b Y) pc = .ok (ins, len)) (hs : stp Y pc ins len loc stk h = s_br c alts loc' stk') (hc : c) : Ok Y pc loc stk h bc bs Q ↔ ∀ q ∈ alts, q.1 → Ok Y q.2 loc' stk' h bc bs Q := by
  rw [Ok_st hd, hs]
  exact ⟨fun k => k.2, fun k => ⟨hc, k⟩⟩
theorem Ok_re {v : Option Value} {c2 : Prop} (hd : decode (tb_b Y) pc = .ok (ins, len)) (hs : stp Y pc ins len loc stk h = s_re c v) (hc : c ↔ c2) : Ok Y pc loc stk h bc bs Q ↔ c2 ∧ Q (.inl v) h := by
  rw [Ok_st hd, hs, ← hc]
  exact Iff.rfl
theorem Ok_r1 {v : Option Value} (hd : decode (tb_b Y) pc = .ok (ins, len)) (hs : stp Y pc ins len loc stk h = s_re c v) (hc : c) : Ok Y pc loc stk h bc bs Q ↔ Q (.inl v) h := by
  rw [Ok_re hd hs Iff.rfl]
  exact ⟨fun k => k.2, fun k => ⟨hc, k⟩⟩
theorem Ok_th {E : Nat} (hd : decode (tb_b Y) pc = .ok (ins, len)) (hs : stp Y pc ins len loc stk h = s_th c E) (hc : c) : Ok Y pc loc stk h bc bs Q ↔ 1 ≤ bc ∧ 6 ≤ bs ∧ ∀ t : Nat, g_t h ≤ t → Q (.inr E) (p_T h t) := by
  rw [Ok_st hd, hs]
  exact ⟨fun k => k.2, fun k => ⟨hc, k⟩⟩
/-- behind a call where nothing is caught -/
def Kn (Y pc' : Nat) (loc rest : List Value) (bc bs : Nat) (Q : MR → MH → Prop) : MR → MH → Prop := fun r h => match r with
  | .inl v => Ok Y pc' loc (v.toList ++ rest) h bc bs Q
  | .inr E => Q (.inr E) h
theorem Kn_v {v : Value} {rest : List Value} : Kn Y pc' loc rest bc bs Q (.inl (some v)) h ↔ Ok Y pc' loc (v :: rest) h bc bs Q := Iff.rfl
theorem Kn_0 {rest : List Value} : Kn Y pc' loc rest bc bs Q (.inl none) h ↔ Ok Y pc' loc rest h bc bs Q := Iff.rfl
theorem Kn_x {E : Nat} {rest : List Value} : Kn Y pc' loc rest bc bs Q (.inr E) h ↔ Q (.inr E) h := Iff.rfl
theorem tH_none {Y pc : Nat} (hp : pc < 65536) (hy : tH_l.all (fun e => !(e.1 == Y)) = true) (E : Nat) : tH (Y * 65536 + pc) E = none := by
  unfold tH
  rw [Option.map_eq_none_iff, List.find?_eq_none]
  intro e he
  have h1 := List.all_eq_true.mp hy e he
  have h2 : (Y * 65536 + pc) / 65536 = Y := by omega
  rw [h2]
  intro h3
  simp only [Bool.and_eq_true] at h3
  rw [h3.1] at h1
  cases h1
theorem Kc_n {Y pc pc' : Nat} {loc rest : List Value} {bc bs : Nat} {Q : MR → MH → Prop} (h : ∀ E, tH (Y * 65536 + pc) E = none) : Kc Ok Y pc pc' loc rest bc bs Q = Kn Y pc' loc rest bc bs Q := by
  funext r h'
  cases r with
  | inl v => rfl
  | inr E => simp only [Kc, Kn, h E]
theorem Ok_ca {Z mc ms : Nat} {as rest zl : List Value} {c2 : Prop} (hd : decode (tb_b Y) pc = .ok (ins, len)) (hs : stp Y pc ins len loc stk h = s_ca c Z mc ms as pc' rest) (hc : c ↔ c2) (hm : (ent as).length ≤ tb_m Z) (hz : entN (tb_m Z) as = zl) (hn : ∀ E, tH (Y * 65536 + pc) E = none) :
    Ok Y pc loc stk h bc bs Q ↔ c2 ∧ mc ≤ bc ∧ ms ≤ bs ∧ csum rest ≤ 8 ∧ Ok Z 0 zl [] h mc ms (Kn Y pc' loc rest (bc - mc) (bs - ms) Q) := by
  rw [Ok_st hd, hs, ← hc, ← hz, ← Kc_n hn]
  exact ⟨fun k => ⟨k.1, k.2.1, k.2.2.1, k.2.2.2.2⟩, fun k => ⟨k.1, k.2.1, k.2.2.1, hm, k.2.2.2⟩⟩
/-- a call that makes nothing -/
theorem Ok_c0 {Z : Nat} {as rest zl : List Value} {c2 : Prop} (hd : decode (tb_b Y) pc = .ok (ins, len)) (hs : stp Y pc ins len loc stk h = s_ca c Z 0 0 as pc' rest) (hc : c ↔ c2) (hm : (ent as).length ≤ tb_m Z) (hz : entN (tb_m Z) as = zl) (hn : ∀ E, tH (Y * 65536 + pc) E = none) :
    Ok Y pc loc stk h bc bs Q ↔ c2 ∧ csum rest ≤ 8 ∧ Ok Z 0 zl [] h 0 0 (Kn Y pc' loc rest bc bs Q) := by
  rw [Ok_ca hd hs hc hm hz hn]
  exact ⟨fun k => ⟨k.1, k.2.2.2⟩, fun k => ⟨k.1, Nat.zero_le _, Nat.zero_le _, k.2⟩⟩
theorem Ok_ch {Z mc ms : Nat} {as rest zl : List Value} {c2 : Prop} (hd : decode (tb_b Y) pc = .ok (ins, len)) (hs : stp Y pc ins len loc stk h = s_ca c Z mc ms as pc' rest) (hc : c ↔ c2) (hm : (ent as).length ≤ tb_m Z) (hz : entN (tb_m Z) as = zl) :
    Ok Y pc loc stk h bc bs Q ↔ c2 ∧ mc ≤ bc ∧ ms ≤ bs ∧ csum rest ≤ 8 ∧ Ok Z 0 zl [] h mc ms (Kc Ok Y pc pc' loc rest (bc - mc) (bs - ms) Q) := by
  rw [Ok_st hd, hs, ← hc, ← hz]
  exact ⟨fun k => ⟨k.1, k.2.1, k.2.2.1, k.2.2.2.2⟩, fun k => ⟨k.1, k.2.1, k.2.2.1, hm, k.2.2.2⟩⟩
theorem Kc_v {v : Value} {rest : List Value} : Kc Ok Y pc pc' loc rest bc bs Q (.inl (some v)) h ↔ Ok Y pc' loc (v :: rest) h bc bs Q := Iff.rfl
theorem Kc_0 {rest : List Value} : Kc Ok Y pc pc' loc rest bc bs Q (.inl none) h ↔ Ok Y pc' loc rest h bc bs Q := Iff.rfl
theorem Kc_x {E hp : Nat} {rest : List Value} (hh : tH (Y * 65536 + pc) E = some hp) : Kc Ok Y pc pc' loc rest bc bs Q (.inr E) h ↔ ∀ q : Nat, Ok Y hp loc [.ref q] h bc bs Q := by
  simp only [Kc, hh]
theorem Kc_y {E : Nat} {rest : List Value} (hh : tH (Y * 65536 + pc) E = none) : Kc Ok Y pc pc' loc rest bc bs Q (.inr E) h ↔ Q (.inr E) h := by
  simp only [Kc, hh]
-- what the table-bound instructions come to
theorem sg_I {tag k kd fin a : Nat} {st : List Value} (hf : tF (tb_o Y * 65536 + idx) = some (tag, k, kd, fin)) (h1 : ¬ kd = 1) (h2 : ¬ kd = 2) : stp Y pc (.getfield idx) 3 loc (.ref a :: st) h = s_nx (3 = 3 ∧ g_c h a = tag) (pc + 3) loc (.int (g_i h a k) :: st) h := by
  show s_gf _ _ _ _ _ _ _ = _
  simp only [s_gf, hf, if_neg h1, if_neg h2]
theorem sg_L {tag k fin a : Nat} {st : List Value} (hf : tF (tb_o Y * 65536 + idx) = some (tag, k, 1, fin)) : stp Y pc (.getfield idx) 3 loc (.ref a :: st) h = s_nx (3 = 3 ∧ g_c h a = tag) (pc + 3) loc (.long (g_l h a k) :: st) h := by
  show s_gf _ _ _ _ _ _ _ = _
  simp only [s_gf, hf, if_pos]
theorem sg_R {tag k fin a : Nat} {st : List Value} (hf : tF (tb_o Y * 65536 + idx) = some (tag, k, 2, fin)) : stp Y pc (.getfield idx) 3 loc (.ref a :: st) h = s_nx (3 = 3 ∧ g_c h a = tag) (pc + 3) loc (va_rf (g_r h a k) :: st) h := by
  show s_gf _ _ _ _ _ _ _ = _
  simp only [s_gf, hf, if_neg (show ¬ (2 : Nat) = 1 by decide), if_pos]
theorem sp_I {tag k kd fin a : Nat} {v : Int32} {st : List Value} (hf : tF (tb_o Y * 65536 + idx) = some (tag, k, kd, fin)) : stp Y pc (.putfield idx) 3 loc (.int v :: .ref a :: st) h = s_nx (3 = 3 ∧ g_c h a = tag ∧ g_z h ≤ a ∧ kok kd v ∧ ¬ kd = 1 ∧ ¬ kd = 2 ∧ (fin = 1 → tb_i Y = 1)) (pc + 3) loc st (p_i h a k v) := by
  show s_pf _ _ _ _ _ _ _ = _
  simp only [s_pf, hf]
theorem sp_L {tag k kd fin a : Nat} {v : Int64} {st : List Value} (hf : tF (tb_o Y * 65536 + idx) = some (tag, k, kd, fin)) : stp Y pc (.putfield idx) 3 loc (.long v :: .ref a :: st) h = s_nx (3 = 3 ∧ g_c h a = tag ∧ g_z h ≤ a ∧ kd = 1 ∧ (fin = 1 → tb_i Y = 1)) (pc + 3) loc st (p_l h a k v) := by
  show s_pf _ _ _ _ _ _ _ = _
  simp only [s_pf, hf]
theorem sp_R {tag k kd fin a v : Nat} {st : List Value} (hf : tF (tb_o Y * 65536 + idx) = some (tag, k, kd, fin)) : stp Y pc (.putfield idx) 3 loc (.ref v :: .ref a :: st) h = s_nx (3 = 3 ∧ g_c h a = tag ∧ g_z h ≤ a ∧ kd = 2 ∧ (fin = 1 → tb_i Y = 1)) (pc + 3) loc st (p_r h a k (some v)) := by
  show s_pf _ _ _ _ _ _ _ = _
  simp only [s_pf, hf]
theorem kok_0 {v : Int32} : kok 0 v := by simp [kok]
theorem kok_3 {v : Int32} : kok 3 v ↔ (v = 0 ∨ v = 1) := by simp [kok]
theorem kok_4 {v : Int32} : kok 4 v ↔ (-128 ≤ v ∧ v ≤ 127) := by simp [kok]
theorem kok_5 {v : Int32} : kok 5 v ↔ (0 ≤ v ∧ v ≤ 65535) := by simp [kok]
theorem kok_6 {v : Int32} : kok 6 v ↔ (-32768 ≤ v ∧ v ≤ 32767) := by simp [kok]
/-- putfield of a whole number -/
theorem Ok_pI {tag k kd fin a : Nat} {v : Int32} {st : List Value} (hd : decode (tb_b Y) pc = .ok (.putfield idx, 3)) (hf : tF (tb_o Y * 65536 + idx) = some (tag, k, kd, fin)) (h1 : ¬ kd = 1) (h2 : ¬ kd = 2) (hi : fin = 1 → tb_i Y = 1) : Ok Y pc loc (.int v :: .ref a :: st) h bc bs Q ↔ (g_c h a = tag ∧ g_z h ≤ a ∧ kok kd v) ∧ Ok Y (pc + 3) loc st (p_i h a k v) bc bs Q :=
  Ok_nc hd (sp_I hf) ⟨fun k => ⟨k.2.1, k.2.2.1, k.2.2.2.1⟩, fun k => ⟨rfl, k.1, k.2.1, k.2.2, h1, h2, hi⟩⟩
theorem Ok_pL {tag k fin a : Nat} {v : Int64} {st : List Value} (hd : decode (tb_b Y) pc = .ok (.putfield idx, 3)) (hf : tF (tb_o Y * 65536 + idx) = some (tag, k, 1, fin)) (hi : fin = 1 → tb_i Y = 1) : Ok Y pc loc (.long v :: .ref a :: st) h bc bs Q ↔ (g_c h a = tag ∧ g_z h ≤ a) ∧ Ok Y (pc + 3) loc st (p_l h a k v) bc bs Q :=
  Ok_nc hd (sp_L hf) ⟨fun k => ⟨k.2.1, k.2.2.1⟩, fun k => ⟨rfl, k.1, k.2, rfl, hi⟩⟩
theorem Ok_pR {tag k fin a v : Nat} {st : List Value} (hd : decode (tb_b Y) pc = .ok (.putfield idx, 3)) (hf : tF (tb_o Y * 65536 + idx) = some (tag, k, 2, fin)) (hi : fin = 1 → tb_i Y = 1) : Ok Y pc loc (.ref v :: .ref a :: st) h bc bs Q ↔ (g_c h a = tag ∧ g_z h ≤ a) ∧ Ok Y (pc + 3) loc st (p_r h a k (some v)) bc bs Q :=
  Ok_nc hd (sp_R hf) ⟨fun k => ⟨k.2.1, k.2.2.1⟩, fun k => ⟨rfl, k.1, k.2, rfl, hi⟩⟩
theorem Ok_gI {tag k kd fin a : Nat} {st : List Value} (hd : decode (tb_b Y) pc = .ok (.getfield idx, 3)) (hf : tF (tb_o Y * 65536 + idx) = some (tag, k, kd, fin)) (h1 : ¬ kd = 1) (h2 : ¬ kd = 2) : Ok Y pc loc (.ref a :: st) h bc bs Q ↔ g_c h a = tag ∧ Ok Y (pc + 3) loc (.int (g_i h a k) :: st) h bc bs Q :=
  Ok_nc hd (sg_I hf h1 h2) ⟨fun k => k.2, fun k => ⟨rfl, k⟩⟩
theorem Ok_gL {tag k fin a : Nat} {st : List Value} (hd : decode (tb_b Y) pc = .ok (.getfield idx, 3)) (hf : tF (tb_o Y * 65536 + idx) = some (tag, k, 1, fin)) : Ok Y pc loc (.ref a :: st) h bc bs Q ↔ g_c h a = tag ∧ Ok Y (pc + 3) loc (.long (g_l h a k) :: st) h bc bs Q :=
  Ok_nc hd (sg_L hf) ⟨fun k => k.2, fun k => ⟨rfl, k⟩⟩
theorem Ok_gR {tag k fin a : Nat} {st : List Value} (hd : decode (tb_b Y) pc = .ok (.getfield idx, 3)) (hf : tF (tb_o Y * 65536 + idx) = some (tag, k, 2, fin)) : Ok Y pc loc (.ref a :: st) h bc bs Q ↔ g_c h a = tag ∧ Ok Y (pc + 3) loc (va_rf (g_r h a k) :: st) h bc bs Q :=
  Ok_nc hd (sg_R hf) ⟨fun k => k.2, fun k => ⟨rfl, k⟩⟩
/-- calls: static; virtual; special -/
theorem si_S {Z n tag : Nat} {as st : List Value} {mc ms : Nat} (hm : tM (tb_o Y * 65536 + idx) = some (Z, 0, n, tag)) (hk : tb_k Z = (mc, ms)) (ht : s_tk n stk = some (as, st)) : stp Y pc (.invokestatic idx) 3 loc stk h = s_ca (3 = 3 ∧ true = true) Z mc ms as (pc + 3) st := by
  show s_inv _ _ _ _ _ _ _ _ = _
  simp only [s_inv, hm, ht, hk, if_neg (show ¬ (0 : Nat) = 7 by decide), if_pos]
theorem si_V {Z kd n tag a : Nat} {as st : List Value} {mc ms : Nat} (hm : tM (tb_o Y * 65536 + idx) = some (Z, kd, n, tag)) (h7 : ¬ kd = 7) (h0 : ¬ kd = 0) (hk : tb_k Z = (mc, ms)) (ht : s_tk n stk = some (as, .ref a :: st)) : stp Y pc (.invokevirtual idx) 3 loc stk h = s_ca (3 = 3 ∧ false = false ∧ g_c h a = tag) Z mc ms (.ref a :: as) (pc + 3) st := by
  show s_inv _ _ _ _ _ _ _ _ = _
  simp only [s_inv, hm, ht, hk, if_neg h7, if_neg h0]
theorem si_I {Z kd n tag a : Nat} {as st : List Value} {mc ms : Nat} (hm : tI (tb_o Y * 65536 + idx) = some (Z, kd, n, tag)) (h6 : ¬ kd = 6) (hk : tb_k Z = (mc, ms)) (ht : s_tk n stk = some (as, .ref a :: st)) : stp Y pc (.invokespecial idx) 3 loc stk h = s_ca (3 = 3 ∧ g_c h a = tag) Z mc ms (.ref a :: as) (pc + 3) st := by
  show s_spe _ _ _ _ _ _ _ = _
  simp only [s_spe, hm, ht, hk, if_neg h6]
theorem si_O {Z n tag a : Nat} {st : List Value} (hm : tI (tb_o Y * 65536 + idx) = some (Z, 6, n, tag)) : stp Y pc (.invokespecial idx) 3 loc (.ref a :: st) h = s_nx (3 = 3) (pc + 3) loc st h := by
  show s_spe _ _ _ _ _ _ _ = _
  simp only [s_spe, hm, if_pos]
theorem st_th {E : Nat} (he : tE (Y * 65536 + pc) = some E) : stp Y pc (.new idx) 3 loc stk h = s_th (3 = 3) E := by
  show s_nw _ _ _ _ _ _ _ = _
  simp only [s_nw, he]
theorem st_nw {tag n : Nat} (he : tE (Y * 65536 + pc) = none) (hc : tC (tb_o Y * 65536 + idx) = some (tag, n)) : stp Y pc (.new idx) 3 loc stk h = s_al (3 = 3) n (pc + 3) loc (.ref (g_t h) :: stk) (p_N h tag 0) := by
  show s_nw _ _ _ _ _ _ _ = _
  simp only [s_nw, he, hc]
theorem kok_of0 {kd : Nat} {x : Int32} (hk : kd = 0) : kok kd x := by subst hk; exact kok_0
theorem kok_to {kd k2 : Nat} {x : Int32} (hk : kd = k2) (k : kok kd x) : kok k2 x := hk ▸ k
theorem kok_fr {kd k2 : Nat} {x : Int32} (hk : kd = k2) (k : kok k2 x) : kok kd x := hk ▸ k
end OkRows

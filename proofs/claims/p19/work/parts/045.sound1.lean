/-! THE SMALL MACHINE IS RIGHT OF THE LARGE ONE: what is shown of Ok holds of the JVM's own steps -/
/-- the words that every contract takes with it -/
def Wd : List Cond := (sbs ++ lw_tbl).filter goodWord
theorem Wd_in {w : Cond} (h : w ∈ Wd) : w ∈ sbs ∨ w ∈ lw_tbl := List.mem_append.mp (List.mem_filter.mp h).1
theorem Wd_good : ∀ w ∈ Wd, (w.onTables && w.keeps) = true ∨ ∃ ty, w = .arrayClass ty := fun _ h => good_of_word (List.mem_filter.mp h).2
theorem Wd_at {w : Cond} (i : Nat) (h : lw_at i = some w) (hg : goodWord w = true) : w ∈ Wd := List.mem_filter.mpr ⟨List.mem_append.mpr (Or.inr (lw_at_in h)), hg⟩
/-! locals -/
def prs (loc : List Value) : List (Nat × Value) := (List.range loc.length).filterMap (fun j => (loc[j]?).bind (fun v => if v = mk0 then none else some (j, v)))
theorem prs_mem {loc : List Value} {j : Nat} {w : Value} : (j, w) ∈ prs loc ↔ loc[j]? = some w ∧ w ≠ mk0 := by
  unfold prs
  rw [List.mem_filterMap]
  constructor
  · rintro ⟨i, hi, h⟩
    cases hl : loc[i]? with
    | none => rw [hl] at h; cases h
    | some v =>
      rw [hl] at h
      simp only [Option.bind_some] at h
      by_cases hv : v = mk0
      · rw [if_pos hv] at h; cases h
      · rw [if_neg hv] at h
        cases h
        exact ⟨hl, hv⟩
  · rintro ⟨h1, h2⟩
    refine ⟨j, List.mem_range.mpr (List.getElem?_eq_some_iff.mp h1).1, ?_⟩
    rw [h1]
    simp [h2]
def RL (n : Nat) (loc : List Value) (ls : Array Slot) : Prop := loc.length = n ∧ lv_has ls n (prs loc)
theorem RL.at {n i : Nat} {loc : List Value} {ls : Array Slot} {v : Value} (h : RL n loc ls) (hi : loc[i]? = some v) (hv : v ≠ mk0) : ls[i]? = some (.val v) := h.2.2.2 (i, v) (prs_mem.mpr ⟨hi, hv⟩)
theorem RL.size {n : Nat} {loc : List Value} {ls : Array Slot} (h : RL n loc ls) : ls.size = n := h.2.1
theorem fixp_len (l : List Value) (k : Nat) : (fixp l k).length = l.length := by
  unfold fixp
  cases k with
  | zero => rfl
  | succ j =>
    cases h : l[j]? with
    | none => simp only [h]
    | some v =>
      simp only [h]
      by_cases hv : v.category = 2
      · rw [if_pos hv, List.length_set]
      · rw [if_neg hv]
theorem fixp_at {l : List Value} {k j : Nat} {w : Value} (h : (fixp l k)[j]? = some w) (hw : w ≠ mk0) : l[j]? = some w ∧ ¬ (j + 1 = k ∧ w.category = 2) := by
  unfold fixp at h
  cases k with
  | zero => exact ⟨h, fun z => by omega⟩
  | succ i =>
    cases hi : l[i]? with
    | none =>
      simp only [hi] at h
      refine ⟨h, fun z => ?_⟩
      have : j = i := by omega
      subst this
      rw [hi] at h
      cases h
    | some v =>
      simp only [hi] at h
      by_cases hv : v.category = 2
      · rw [if_pos hv] at h
        by_cases hj : i = j
        · subst hj
          rw [List.getElem?_set_self (List.getElem?_eq_some_iff.mp hi).1] at h
          exact absurd (Option.some.inj h).symm hw
        · rw [List.getElem?_set_ne hj] at h
          exact ⟨h, fun z => hj (by omega)⟩
      · rw [if_neg hv] at h
        refine ⟨h, fun z => ?_⟩
        have : j = i := by omega
        subst this
        rw [hi] at h
        cases h
        exact hv z.2
theorem RL_st1 {n i : Nat} {loc : List Value} {ls' : Array Slot} {v : Value} (hn : loc.length = n) (hi : i < n) (h : lv_has ls' n ((i, v) :: (prs loc).filter (fun q => !(q.1 == i) && !(q.1 + 1 == i && q.2.category == 2)))) : RL n (st1 loc i v) ls' := by
  refine ⟨by rw [st1, List.length_set, fixp_len, hn], h.1, h.2.1, ?_⟩
  rintro ⟨j, w⟩ hq
  obtain ⟨h1, h2⟩ := prs_mem.mp hq
  by_cases hj : i = j
  · subst hj
    rw [st1, List.getElem?_set_self (by rw [fixp_len, hn]; exact hi)] at h1
    cases h1
    exact h.2.2 _ List.mem_cons_self
  · rw [st1, List.getElem?_set_ne hj] at h1
    obtain ⟨h3, h4⟩ := fixp_at h1 h2
    refine h.2.2 (j, w) (List.mem_cons_of_mem _ (List.mem_filter.mpr ⟨prs_mem.mpr ⟨h3, h2⟩, ?_⟩))
    have e1 : (j == i) = false := by simp; omega
    by_cases e2 : j + 1 = i
    · have e3 : ¬ w.category = 2 := fun z => h4 ⟨e2, z⟩
      simp [e1, e3]
    · simp [e1, e2]
theorem RL_st2 {n i : Nat} {loc : List Value} {ls' : Array Slot} {v : Value} (hn : loc.length = n) (hi : i + 1 < n) (h : lv_has ls' n ((i, v) :: (prs loc).filter (fun q => !(q.1 == i) && (!(q.1 == i + 1) && !(q.1 + 1 == i && q.2.category == 2))))) : RL n (st2 loc i v) ls' := by
  refine ⟨by rw [st2, List.length_set, List.length_set, fixp_len, hn], h.1, h.2.1, ?_⟩
  rintro ⟨j, w⟩ hq
  obtain ⟨h1, h2⟩ := prs_mem.mp hq
  by_cases hk : i + 1 = j
  · subst hk
    rw [st2, List.getElem?_set_self (by rw [List.length_set, fixp_len, hn]; exact hi)] at h1
    exact absurd (Option.some.inj h1).symm h2
  · rw [st2, List.getElem?_set_ne hk] at h1
    by_cases hj : i = j
    · subst hj
      rw [List.getElem?_set_self (by rw [fixp_len, hn]; omega)] at h1
      cases h1
      exact h.2.2 _ List.mem_cons_self
    · rw [List.getElem?_set_ne hj] at h1
      obtain ⟨h3, h4⟩ := fixp_at h1 h2
      refine h.2.2 (j, w) (List.mem_cons_of_mem _ (List.mem_filter.mpr ⟨prs_mem.mpr ⟨h3, h2⟩, ?_⟩))
      have e1 : (j == i) = false := by simp; omega
      have e4 : (j == i + 1) = false := by simp; omega
      by_cases e2 : j + 1 = i
      · have e3 : ¬ w.category = 2 := fun z => h4 ⟨e2, z⟩
        simp [e1, e4, e3]
      · simp [e1, e2, e4]
theorem ent_args {vs : List Value} : ∀ (k j : Nat) (w : Value), (ent vs)[j]? = some w → w ≠ mk0 → (k + j, w) ∈ lv_args k vs := by
  induction vs with
  | nil => intro k j w h; cases h
  | cons v vs ih =>
    intro k j w h hw
    unfold ent at h
    unfold lv_args
    by_cases hc : v.category = 2
    · rw [if_pos hc] at h ⊢
      match j, h with
      | 0, h => cases h; exact List.mem_cons_self
      | 1, h => cases h; exact absurd rfl hw
      | j + 2, h => exact List.mem_cons_of_mem _ (by rw [show k + (j + 2) = k + 2 + j by omega]; exact ih (k + 2) j w h hw)
    · rw [if_neg hc] at h ⊢
      match j, h with
      | 0, h => cases h; exact List.mem_cons_self
      | j + 1, h => exact List.mem_cons_of_mem _ (by rw [show k + (j + 1) = k + 1 + j by omega]; exact ih (k + 1) j w h hw)
theorem ent_sl (vs : List Value) : (lg_sl vs).length = (ent vs).length := by
  induction vs with
  | nil => rfl
  | cons v vs ih =>
    unfold ent lg_sl
    rw [List.flatMap_cons, List.length_append]
    by_cases hc : v.category = 2
    · rw [if_pos hc, if_pos hc]
      simp only [List.length_cons, List.length_nil]
      rw [show (List.flatMap (fun v => if v.category = 2 then [Slot.val v, Slot.second] else [Slot.val v]) vs).length = (ent vs).length from ih]
      omega
    · rw [if_neg hc, if_neg hc]
      simp only [List.length_cons, List.length_nil]
      rw [show (List.flatMap (fun v => if v.category = 2 then [Slot.val v, Slot.second] else [Slot.val v]) vs).length = (ent vs).length from ih]
      omega
theorem RL_entry {vs : List Value} {n : Nat} (h : (ent vs).length ≤ n) : RL n (entN n vs) ((lg_sl vs ++ List.replicate (n - (lg_sl vs).length) Slot.unset).toArray) := by
  have e := lv_entry vs (n := n) (by rw [ent_sl]; exact h)
  refine ⟨by rw [entN, List.length_append, List.length_replicate]; omega, e.1, e.2.1, ?_⟩
  rintro ⟨j, w⟩ hq
  obtain ⟨h1, h2⟩ := prs_mem.mp hq
  refine e.2.2 (j, w) ?_
  have h3 : (ent vs)[j]? = some w := by
    unfold entN at h1
    by_cases hj : j < (ent vs).length
    · rw [List.getElem?_append_left hj] at h1
      exact h1
    · rw [List.getElem?_append_right (by omega)] at h1
      exact absurd (List.eq_of_mem_replicate (List.mem_of_getElem? h1)) h2
  have := ent_args 0 j w h3 h2
  rwa [Nat.zero_add] at this
/-! memory and heap -/
def fv (h : MH) (a t k : Nat) : Value := if fkd t k = 1 then .long (g_l h a k) else if fkd t k = 2 then va_rf (g_r h a k) else .int (g_i h a k)
def arO (h : MH) (a t : Nat) : vp_A := (g_n h a, if t = 102 then .inr (.inl (g_l h a)) else if t = 106 then .inr (.inr (.inr (.inr (g_r h a)))) else .inl (g_i h a))
def cellR (D : va_G) (cA : Nat → ClassId) (h : MH) (a : Nat) (H : Heap) : Prop :=
  (g_c h a ≤ 100 → ∃ r, cls[g_c h a - 1]? = some r ∧ t_OB a (D.1 (g_c h a - 1)) r.2.2 (D.2 (g_c h a - 1)) H (fv h a (g_c h a))) ∧
  (¬ g_c h a ≤ 100 → g_c h a ≤ 106 ∧ H[a]? = some (vp_cell (cA (g_c h a)) (arO h a (g_c h a)))) ∧
  (g_c h a = 103 → ∀ j, fits .byte (.int (g_i h a j)) = true)
def tysW (cA : Nat → ClassId) : List (ClassId × FieldType) := [(cA 101, .int), (cA 102, .long), (cA 103, .byte), (cA 104, .char), (cA 105, .boolean), (cA 106, .object "SluiceshelfModel$Pane")]
/-- the heap holds the memory: above the first address of the run its cells; below it the constants, as they were -/
def Rel (base : Nat) (D : va_G) (cA : Nat → ClassId) (h0 h : MH) (H : Heap) : Prop :=
  g_t h = H.size ∧ g_z h = base ∧ base ≤ H.size ∧ g_z h0 = base ∧ (∀ j, g_a h j = g_a h0 j) ∧
  (∀ a, a < base → g_c h a = g_c h0 a ∧ g_n h a = g_n h0 a ∧ (∀ k, g_i h a k = g_i h0 a k) ∧ ∀ k, g_r h a k = g_r h0 a k) ∧
  ∀ a, base ≤ a → g_c h a ≠ 0 → cellR D cA h a H
abbrev Ab (base : Nat) : Nat → Prop := fun q => base ≤ q
/-- a constant: a String, or a row of bytes, outside of what the run may change -/
def cstR (base : Nat) (h0 : MH) (a : Nat) (U : State) (H : Heap) : Prop :=
  (g_c h0 a = 11 ∧ va_O "java/lang/String" a (Ab base) U H ∧ (∃ v, g_r h0 a 0 = some v ∧ va_OF "java/lang/String" "value" "[B" (.ref v) a (Ab base) U H) ∧ va_OF "java/lang/String" "coder" "B" (.int (g_i h0 a 1)) a (Ab base) U H) ∨
  (g_c h0 a = 103 ∧ va_T .byte a (g_n h0 a) (fun j => .int (g_i h0 a j)) (Ab base) U H ∧ ∀ j, fits .byte (.int (g_i h0 a j)) = true) ∨
  (g_c h0 a = 107 ∧ va_X a (g_n h0 a) (g_i h0 a) U H ∧ a < base)
/-- what stays all the run: the classes, statics, Strings -/
def gsv (h : MH) : Int32 ⊕ Nat → Value
  | .inl v => .int v
  | .inr j => .ref (g_a h j)
def nstW : Cond → Bool
  | .fieldLinkNest .. => true
  | .methodLinkNest .. => true
  | .castable .. => true
  | .declares .. => true
  | _ => false
theorem nstW_warm {w : Cond} {s U : State} (hw : nstW w = true) (hW : s.WarmedH U.vm) (h : va_Nw w s) : va_Nw w U := by
  cases w <;> first | (cases hw; done) | exact va_Nw.warmF hW h | exact va_Nw.warmM hW h | exact va_Nw.warmC hW h | exact va_Nw.warmD hW h
def SF (base : Nat) (D : va_G) (cA : Nat → ClassId) (h0 : MH) (U : State) (H : Heap) : Prop :=
  va_K D cls (tysW cA) U ∧ (∀ a, a < base → g_c h0 a ≠ 0 → cstR base h0 a U H) ∧
  (∀ e ∈ tG_l, va_Z e.2.2.1 e.2.2.2.1 e.2.2.2.2.1 (gsv h0 e.2.1) (Ab base) U H) ∧
  (∀ e ∈ tS_l, vk_R e.1 e.2.1 e.2.2.1 (g_a h0 e.2.2.2) U) ∧
  vx_Zq Bundle.tN "UNASSIGNED_STACK" Bundle.steD (Ab base) U H ∧ vx_Zq Bundle.tN "SUPPRESSED_SENTINEL" Bundle.listD (Ab base) U H ∧
  (∀ w ∈ lw_tbl, nstW w = true → va_Nw w U) ∧ va_AO "SluiceshelfModel$Pane" U ∧ (∀ i ∈ [1, 2, 3], ∀ j ∈ [1, 2, 3], i ≠ j → va_Nc (exN i) (exN j) U)
theorem cstR.moved {base : Nat} {h0 : MH} {a : Nat} {u U : State} {H : Heap} (hvm : u.vm.Alike U.vm) (h : cstR base h0 a u H) : cstR base h0 a U H := by
  rcases h with ⟨h1, h2, ⟨v, h3, h4⟩, h5⟩ | ⟨h1, h2, h3⟩ | ⟨h1, h2, h3⟩
  · exact Or.inl ⟨h1, h2.moved hvm, ⟨v, h3, h4.moved hvm⟩, h5.moved hvm⟩
  · exact Or.inr (Or.inl ⟨h1, h2.moved hvm, h3⟩)
  · exact Or.inr (Or.inr ⟨h1, h2.moved hvm, h3⟩)
theorem cstR.kept {base : Nat} {h0 : MH} {a : Nat} {U : State} {H H1 : Heap} (h : cstR base h0 a U H) (hq : ∀ q : Nat, q < H.size → ¬ Ab base q → H1[q]? = H[q]?) : cstR base h0 a U H1 := by
  rcases h with ⟨h1, h2, ⟨v, h3, h4⟩, h5⟩ | ⟨h1, h2, h3⟩ | ⟨h1, h2, h3⟩
  · exact Or.inl ⟨h1, h2.kept hq, ⟨v, h3, h4.kept hq⟩, h5.kept hq⟩
  · exact Or.inr (Or.inl ⟨h1, h2.kept hq, h3⟩)
  · refine Or.inr (Or.inr ⟨h1, h2.kept (hq a ?_ (fun z => by have : base ≤ a := z; omega)), h3⟩)
    obtain ⟨scr, e1, -⟩ := h2
    exact (Array.getElem?_eq_some_iff.mp e1).1
theorem SF.go {base : Nat} {D : va_G} {cA : Nat → ClassId} {h0 : MH} {u U : State} {H H1 : Heap} (h : SF base D cA h0 u H) (hW : u.WarmedH U.vm) (hq : ∀ q : Nat, q < H.size → ¬ Ab base q → H1[q]? = H[q]?) : SF base D cA h0 U H1 := by
  obtain ⟨h1, h2, h3, h4, h5, h6, h7, h8, h9⟩ := h
  exact ⟨h1.moved hW.alike, fun a ha hc => ((h2 a ha hc).moved hW.alike).kept hq, fun e he => ((h3 e he).moved hW.alike).kept hq, fun e he => (h4 e he).warm hW, (h5.moved hW.alike).kept hq, (h6.moved hW.alike).kept hq, fun w hw hn => nstW_warm hn hW (h7 w hw hn), va_AO.moved hW.alike h8, fun i hi j hj n => (h9 i hi j hj n).moved hW.alike⟩
/-! one situation of a method's body -/
def fit0 (l : Launch) (base : Nat) (D : va_G) (cA : Nat → ClassId) (h0 : MH) (Y : Nat) (p : Program) (R : Room) (s : State) (m : MethodId) (args : Array Value) (meth : Method) (c : Code) (mc ms : Nat) : Prop :=
  (p.tables.exec = Jvm.exec ∧ c.code = tb_b Y) ∧ (c.maxLocals = tb_m Y ∧ meth.sig.returnType = tb_r Y ∧ s.vm.findClass (cn (tb_o Y)) = some m.cls ∧ (∀ w ∈ Wd, w.before args s = true)) ∧
  (meth.locks = false ∧ (tb_i Y = 1 → meth.name = "<init>") ∧ SF base D cA h0 s s.heap ∧ base ≤ s.heap.size ∧ l.stackTraces = false) ∧
  (tb_d Y ≤ R.frames ∧ 40 * tb_d Y ≤ R.locals ∧ mc ≤ R.cells ∧ ms ≤ R.slots) ∧ 11 ≤ tb_d Y ∧ c.exceptionTable.toList = tableOf (hhY Y)
def QcO (base : Nat) (D : va_G) (cA : Nat → ClassId) (h0 : MH) (Q : MR → MH → Prop) : Array Value → State → Outcome → State → Prop := fun _ st o t =>
  ∃ (v : Option Value) (h' : MH), o = .returned v ∧ Q (.inl v) h' ∧ Rel base D cA h0 h' t.heap ∧ va_F (Ab base) st t
def XcO (base : Nat) (D : va_G) (cA : Nat → ClassId) (h0 : MH) (Q : MR → MH → Prop) : String → State → State → Prop := fun E st t =>
  ∃ (En : Nat) (h' : MH), exN En = E ∧ Q (.inr En) h' ∧ Rel base D cA h0 h' t.heap ∧ va_F (Ab base) st t
def SX (l : Launch) (base : Nat) (D : va_G) (cA : Nat → ClassId) (h0 : MH) : MX := fun Y pc loc stk h bc bs Q =>
  ∀ (p : Program) (e : Env) (R : Room) (s : State) (m : MethodId) (args : Array Value) (below : List Frame) (meth : Method) (c : Code) (H : Heap) (locs : List Loc) (cells slots mc ms : Nat) (ls : Array Slot),
    fit0 l base D cA h0 Y p R s m args meth c mc ms → cells + bc ≤ mc → slots + bs ≤ ms → RL (tb_m Y) loc ls → Rel base D cA h0 h H → va_S (Ab base) s.heap H locs →
    W p l e R s m args below meth c H locs cells slots (vx_MQ below (QcO base D cA h0 Q) (XcO base D cA h0 Q) args s mc ms (Ab base)) (F0 m pc ls stk)

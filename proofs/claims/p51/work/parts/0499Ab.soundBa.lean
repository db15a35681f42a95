section
/-! throws, switches, returns -/
def exCh : List String := ["java/lang/RuntimeException", "java/lang/Exception"]
def okEw (Y ik ic E : Nat) : Bool := (Cond.classLink (cn (tb_o Y)) ik (exN E) :: Cond.initialized (exN E) :: vx_atS (cn (tb_o Y)) ic (exN E) exCh).all (fun w => vx_ot w && (memB w && (goodWord w || nstW w)))
def okEs (Y is : Nat) : Bool := tS_l.any (fun x => decide (x.1 = cn (tb_o Y) ∧ x.2.1 = is))
/-- what a word of a throw must be -/
def okWd (w : Cond) : Bool := vx_ot w && (memB w && (goodWord w || nstW w))
theorem own_mem {own own' X : String} {ic ic' : Nat} {names : List String} {w : Cond} (h : w ∈ vx_atS own ic X names) : w = .methodLink own ic (Bundle.initS X) ∨ w ∈ vx_atS own' ic' X names := by
  unfold vx_atS at h ⊢
  obtain ⟨h1, h2⟩ := List.mem_filter.mp h
  unfold Bundle.ownAtoms at h1
  rcases List.mem_append.mp h1 with z | z
  · exact Or.inr (List.mem_filter.mpr ⟨by unfold Bundle.ownAtoms; exact List.mem_append_left _ z, h2⟩)
  · rcases List.mem_cons.mp z with z | z
    · exact Or.inl z
    · exact Or.inr (List.mem_filter.mpr ⟨by unfold Bundle.ownAtoms; exact List.mem_append_right _ (List.mem_cons_of_mem _ z), h2⟩)
/-- of a kind of throw the words are checked once; elsewhere those two that the place names -/
theorem okEw_of {Y ik ic Y' ik' ic' E : Nat} (h : okEw Y' ik' ic' E = true) (h1 : okWd (.classLink (cn (tb_o Y)) ik (exN E)) = true) (h2 : okWd (.methodLink (cn (tb_o Y)) ic (Bundle.initS (exN E))) = true) : okEw Y ik ic E = true := by
  unfold okEw at h ⊢
  have h0 := List.all_eq_true.mp h
  refine List.all_eq_true.mpr fun w hw => ?_
  rcases List.mem_cons.mp hw with rfl | hw
  · exact h1
  rcases List.mem_cons.mp hw with rfl | hw
  · exact h0 _ (List.mem_cons_of_mem _ List.mem_cons_self)
  rcases own_mem (own' := cn (tb_o Y')) (ic' := ic') hw with rfl | hw
  · exact h2
  · exact h0 _ (List.mem_cons_of_mem _ (List.mem_cons_of_mem _ hw))
def okE (e : Nat × Nat × (Nat × Nat × Nat × Nat)) : Bool :=
  decide (hhY (e.1 / 65536) = [] ∧ Bundle.fit (exN e.2.1) = true) && (decide (decode (tb_b (e.1 / 65536)) (e.1 % 65536) = .ok (.new e.2.2.1, 3)) && (decide (decode (tb_b (e.1 / 65536)) (e.1 % 65536 + 3) = .ok (.dup, 1)) && (okEs (e.1 / 65536) e.2.2.2.1 && (okEw (e.1 / 65536) e.2.2.1 e.2.2.2.2.1 e.2.1 && (match e.2.2.2.2.2 with
  | 0 => decide (decode (tb_b (e.1 / 65536)) (e.1 % 65536 + 4) = .ok (.ldc e.2.2.2.1, 2)) && (decide (decode (tb_b (e.1 / 65536)) (e.1 % 65536 + 6) = .ok (.invokespecial e.2.2.2.2.1, 3)) && decide (decode (tb_b (e.1 / 65536)) (e.1 % 65536 + 9) = .ok (.athrow, 1)))
  | _ => decide (decode (tb_b (e.1 / 65536)) (e.1 % 65536 + 4) = .ok (.ldc_w e.2.2.2.1, 3)) && (decide (decode (tb_b (e.1 / 65536)) (e.1 % 65536 + 7) = .ok (.invokespecial e.2.2.2.2.1, 3)) && decide (decode (tb_b (e.1 / 65536)) (e.1 % 65536 + 10) = .ok (.athrow, 1))))))))
def okE1 (e : Nat × Nat × (Nat × Nat × Nat × Nat)) : Bool :=
  decide (hhY (e.1 / 65536) = [] ∧ Bundle.fit (exN e.2.1) = true) && (decide (decode (tb_b (e.1 / 65536)) (e.1 % 65536) = .ok (.new e.2.2.1, 3)) && (decide (decode (tb_b (e.1 / 65536)) (e.1 % 65536 + 3) = .ok (.dup, 1)) && (okEs (e.1 / 65536) e.2.2.2.1 && ((okWd (.classLink (cn (tb_o (e.1 / 65536))) e.2.2.1 (exN e.2.1)) && (okWd (.methodLink (cn (tb_o (e.1 / 65536))) e.2.2.2.2.1 (Bundle.initS (exN e.2.1))) && decide (e.2.1 = 1 ∨ e.2.1 = 2 ∨ e.2.1 = 3))) && (match e.2.2.2.2.2 with
  | 0 => decide (decode (tb_b (e.1 / 65536)) (e.1 % 65536 + 4) = .ok (.ldc e.2.2.2.1, 2)) && (decide (decode (tb_b (e.1 / 65536)) (e.1 % 65536 + 6) = .ok (.invokespecial e.2.2.2.2.1, 3)) && decide (decode (tb_b (e.1 / 65536)) (e.1 % 65536 + 9) = .ok (.athrow, 1)))
  | _ => decide (decode (tb_b (e.1 / 65536)) (e.1 % 65536 + 4) = .ok (.ldc_w e.2.2.2.1, 3)) && (decide (decode (tb_b (e.1 / 65536)) (e.1 % 65536 + 7) = .ok (.invokespecial e.2.2.2.2.1, 3)) && decide (decode (tb_b (e.1 / 65536)) (e.1 % 65536 + 10) = .ok (.athrow, 1))))))))
theorem okEr : (okEw 103 297 301 1 && (okEw 73 182 186 2 && okEw 115 369 373 3)) = true := by decide +kernel
theorem okEr_1 : okEw 103 297 301 1 = true := by
  have h := okEr
  simp only [Bool.and_eq_true] at h
  exact h.1
theorem okEr_2 : okEw 73 182 186 2 = true := by
  have h := okEr
  simp only [Bool.and_eq_true] at h
  exact h.2.1
theorem okEr_3 : okEw 115 369 373 3 = true := by
  have h := okEr
  simp only [Bool.and_eq_true] at h
  exact h.2.2
theorem okE1_all : tE_l.all okE1 = true := by decide +kernel
theorem okE_of {e : Nat × Nat × (Nat × Nat × Nat × Nat)} (h : okE1 e = true) : okE e = true := by
  simp only [okE1, Bool.and_eq_true] at h
  obtain ⟨a1, a2, a3, a4, ⟨a5, a6, a7⟩, a8⟩ := h
  simp only [okE, Bool.and_eq_true]
  refine ⟨a1, a2, a3, a4, ?_, a8⟩
  replace a7 := of_decide_eq_true a7
  rcases a7 with z | z | z <;> rw [z] at a5 a6 ⊢
  · exact okEw_of okEr_1 a5 a6
  · exact okEw_of okEr_2 a5 a6
  · exact okEw_of okEr_3 a5 a6
theorem okE_all : tE_l.all okE = true := List.all_eq_true.mpr fun e he => okE_of (List.all_eq_true.mp okE1_all e he)
end

section
theorem exCh_fit : ∀ n ∈ exCh, Bundle.fit n = true := by
  intro n hn
  have h : exCh.all (fun n => Bundle.fit n) = true := by decide +kernel
  exact List.all_eq_true.mp h n hn
theorem tE_of {q E : Nat} (hf : tE q = some E) : ∃ x, (q, E, x) ∈ tE_l := by
  unfold tE at hf
  rw [Option.map_eq_some_iff] at hf
  obtain ⟨w, hw, rfl⟩ := hf
  obtain ⟨m1, m2⟩ := find_mem hw
  obtain ⟨w1, w2, w3⟩ := w
  simp only at m2
  subst m2
  exact ⟨w3, m1⟩
section SXK
variable {l : Launch} {base : Nat} {D : va_G} {cA : Nat → ClassId} {h0 : MH}
variable {Y pc idx : Nat} {loc stk : List Value} {h h' : MH} {bc bs : Nat} {Q : MR → MH → Prop}
theorem sx_th {E : Nat} (hd : decode (tb_b Y) pc = .ok (.new idx, 3)) (hf : tE (Y * 65536 + pc) = some E) (hpc : pc < 65536) (hbc : 1 ≤ bc) (hbs : 6 ≤ bs) (k : ∀ t : Nat, g_t h ≤ t → Q (.inr E) (p_T h t)) : SX l base D cA h0 Y pc loc [] h bc bs Q := by
  intro p e R s m args below meth c H locs cells slots mc ms ls S h1 h2 hl hr hs
  obtain ⟨⟨hx, hb⟩, ⟨hml, hrt, hown, hts⟩, ⟨hlk, hin0, hsf, hbs0, hst⟩, ⟨hR1, hR2, hR3, hR4⟩, hrk, htab⟩ := S
  obtain ⟨⟨ik, is, ic, w⟩, hw⟩ := tE_of hf
  have hok := List.all_eq_true.mp okE_all _ hw
  simp only [okE, key_div hpc, key_mod hpc] at hok
  simp only [Bool.and_eq_true, decide_eq_true_eq] at hok
  obtain ⟨⟨hh, hfit⟩, d0, d3, hs0, hwd, hdd⟩ := hok
  unfold okEs at hs0
  obtain ⟨x, x1, x2⟩ := List.any_eq_true.mp hs0
  simp only [decide_eq_true_eq] at x2
  have hstr := hsf.2.2.2.1 x x1
  rw [x2.1, x2.2] at hstr
  unfold okEw at hwd
  have hall := List.all_eq_true.mp hwd
  have hgood : ∀ w ∈ Cond.classLink (cn (tb_o Y)) ik (exN E) :: Cond.initialized (exN E) :: vx_atS (cn (tb_o Y)) ic (exN E) exCh, vx_ot w = true := fun w hw => by
    have := hall w hw
    simp only [Bool.and_eq_true] at this
    exact this.1
  have hat : ∀ w ∈ Cond.classLink (cn (tb_o Y)) ik (exN E) :: Cond.initialized (exN E) :: vx_atS (cn (tb_o Y)) ic (exN E) exCh, w.before args s = true := fun w hw => by
    have := hall w hw
    simp only [Bool.and_eq_true, Bool.or_eq_true] at this
    obtain ⟨t1, t2, t3⟩ := this
    replace t2 := memB_in t2
    rcases t3 with t3 | t3
    · exact hts _ (Wd_mem t2 t3)
    · have z := hsf.2.2.2.2.2.2.1 w t2 t3
      exact va_Nw.use (by cases w <;> first | rfl | cases t3) z
  have hX : ∀ t : State, s.vm.Alike t.vm → H.size ≤ t.heap.size → (∀ q : Nat, q < H.size → t.heap[q]? = H[q]?) → XcO base D cA h0 Q (exN E) s t := fun t _ t1 t2 =>
    ⟨E, p_T h t.heap.size, rfl, k _ (by rw [hr.1]; exact t1), hr.top t1 rfl t2, Nat.le_trans hs.1 t1, fun q q1 q2 => (t2 q (Nat.lt_of_lt_of_le q1 hs.1)).trans (hs.2.1 q q1 q2)⟩
  have hno : ∀ x ∈ c.exceptionTable.toList, ∀ q : Nat, covers x q = false := fun x hx => by rw [htab, hh] at hx; cases hx
  cases w with
  | zero =>
    simp only [Bool.and_eq_true, decide_eq_true_eq] at hdd
    exact vx_throwS (A := Ab base) hx hb hst hown hfit exCh_fit (hat _ List.mem_cons_self) (hat _ (List.mem_cons_of_mem _ List.mem_cons_self)) hstr (fun w hw => hat w (List.mem_cons_of_mem _ (List.mem_cons_of_mem _ hw))) hgood hsf.2.2.2.2.1 hsf.2.2.2.2.2.1 hs (by rw [hml]; exact hl.2.1) d0 d3 hdd.1 hdd.2.1 hdd.2.2 (fun x hx => hno x hx _) (by show 2 + 3 < R.frames; omega) (by show 0 + (13 * 3 + 43) ≤ R.locals; omega) (by omega) (by omega) hlk hX hs.2.2 (by omega) (by omega)
  | succ w =>
    simp only [Bool.and_eq_true, decide_eq_true_eq] at hdd
    exact vx_throwSW (A := Ab base) hx hb hst hown hfit exCh_fit (hat _ List.mem_cons_self) (hat _ (List.mem_cons_of_mem _ List.mem_cons_self)) hstr (fun w hw => hat w (List.mem_cons_of_mem _ (List.mem_cons_of_mem _ hw))) hgood hsf.2.2.2.2.1 hsf.2.2.2.2.2.1 hs (by rw [hml]; exact hl.2.1) d0 d3 hdd.1 hdd.2.1 hdd.2.2 (fun x hx => hno x hx _) (by show 2 + 3 < R.frames; omega) (by show 0 + (13 * 3 + 43) ≤ R.locals; omega) (by omega) (by omega) hlk hX hs.2.2 (by omega) (by omega)
/-! switches -/
theorem sw_in {pc : Nat} {x : Int32} : ∀ (os : List Int) (lo : Int) (i : Nat) (o : Int), os[i]? = some o → x.toInt = lo + i → ∃ q ∈ sw_al pc x lo os, q.1 ∧ q.2 = jmp pc o
  | [], lo, i, o, h, _ => by cases h
  | o' :: os, lo, 0, o, h, hx => by
    cases h
    refine ⟨_, List.mem_cons_self, ?_, rfl⟩
    show x = Int32.ofInt lo
    rw [show lo = x.toInt by omega, Int32.ofInt_toInt]
  | o' :: os, lo, i + 1, o, h, hx => by
    obtain ⟨q, h1, h2⟩ := sw_in (pc := pc) (x := x) os (lo + 1) i o (by simpa using h) (by omega)
    exact ⟨q, List.mem_cons_of_mem _ h1, h2⟩
theorem sx_ts {d lo hi : Int} {os : Array Int} {len : Nat} {x : Int32} (hd : decode (tb_b Y) pc = .ok (.tableswitch d lo hi os, len)) (hlen : lo + os.toList.length = hi + 1) (hd0 : 0 ≤ (pc : Int) + d) (hos : ∀ o ∈ os.toList, 0 ≤ (pc : Int) + o)
    (k : ∀ q ∈ (x.toInt < lo ∨ hi < x.toInt, jmp pc d) :: sw_al pc x lo os.toList, q.1 → SX l base D cA h0 Y q.2 loc stk h bc bs Q) : SX l base D cA h0 Y pc loc (.int x :: stk) h bc bs Q := by
  intro p e R s m args below meth c H locs cells slots mc ms ls S h1 h2 hl hr hs
  by_cases hx : x.toInt < lo ∨ hi < x.toInt
  · exact lv_tableOut S.1.1 S.1.2 hd hx (jmp_eq hd0) (k _ List.mem_cons_self hx p e R s m args below meth c H locs cells slots mc ms ls S h1 h2 hl hr hs)
  · have hi1 : (x.toInt - lo).toNat < os.toList.length := by omega
    have e1 : os.toList[(x.toInt - lo).toNat]? = some os.toList[(x.toInt - lo).toNat] := List.getElem?_eq_getElem hi1
    obtain ⟨q, q1, q2, q3⟩ := sw_in (pc := pc) (x := x) os.toList lo _ _ e1 (by omega)
    have kk := k q (List.mem_cons_of_mem _ q1) q2 p e R s m args below meth c H locs cells slots mc ms ls S h1 h2 hl hr hs
    rw [q3] at kk
    exact lv_tableIn S.1.1 S.1.2 hd (fun z => hx (Or.inl z)) (fun z => hx (Or.inr z)) (by rw [← Array.getElem?_toList]; exact e1) (jmp_eq (hos _ (List.getElem_mem hi1))) kk
theorem lk_in {pc : Nat} {x : Int32} {d : Int} : ∀ (ps : List (Int × Int)), (∀ q ∈ ps, (Int32.ofInt q.1).toInt = q.1) → ∃ q ∈ lk_al pc x d ps, q.1 ∧ q.2 = jmp pc (Op.lookupswitch.offset ps d x.toInt)
  | [], _ => ⟨_, List.mem_cons_self, trivial, rfl⟩
  | (a, o) :: ps, h => by
    have ha := h (a, o) List.mem_cons_self
    by_cases hx : x = Int32.ofInt a
    · refine ⟨_, List.mem_cons_self, hx, ?_⟩
      have : x.toInt = a := by rw [hx]; exact ha
      simp [Op.lookupswitch.offset, this]
    · obtain ⟨q, q1, q2, q3⟩ := lk_in (pc := pc) (x := x) (d := d) ps (fun q hq => h q (List.mem_cons_of_mem _ hq))
      refine ⟨(¬ x = Int32.ofInt a ∧ q.1, q.2), List.mem_cons_of_mem _ (List.mem_map.mpr ⟨q, q1, rfl⟩), ⟨hx, q2⟩, ?_⟩
      rw [q3, lv_osw hx ha]
theorem lk_off {ps : List (Int × Int)} {d : Int} {x : Int} {P : Int → Prop} (hd : P d) (h : ∀ q ∈ ps, P q.2) : P (Op.lookupswitch.offset ps d x) := by
  induction ps with
  | nil => exact hd
  | cons q ps ih =>
    have := ih (fun q hq => h q (List.mem_cons_of_mem _ hq))
    obtain ⟨a, o⟩ := q
    rw [Op.lookupswitch.offset_cons]
    split
    · exact h _ List.mem_cons_self
    · exact this
theorem sx_lk {d : Int} {ps : Array (Int × Int)} {len : Nat} {x : Int32} (hd : decode (tb_b Y) pc = .ok (.lookupswitch d ps, len)) (hp : (ps.toList.zip (ps.toList.drop 1)).all (fun (a, next) => a.1 < next.1) = true) (hd0 : 0 ≤ (pc : Int) + d) (hos : ∀ q ∈ ps.toList, 0 ≤ (pc : Int) + q.2 ∧ (Int32.ofInt q.1).toInt = q.1)
    (k : ∀ q ∈ lk_al pc x d ps.toList, q.1 → SX l base D cA h0 Y q.2 loc stk h bc bs Q) : SX l base D cA h0 Y pc loc (.int x :: stk) h bc bs Q := by
  intro p e R s m args below meth c H locs cells slots mc ms ls S h1 h2 hl hr hs
  obtain ⟨q, q1, q2, q3⟩ := lk_in (pc := pc) (x := x) (d := d) ps.toList (fun q hq => (hos q hq).2)
  have kk := k q q1 q2 p e R s m args below meth c H locs cells slots mc ms ls S h1 h2 hl hr hs
  rw [q3] at kk
  exact lv_lookup S.1.1 S.1.2 hd hp rfl (jmp_eq (lk_off (P := fun o => 0 ≤ (pc : Int) + o) hd0 (fun q hq => (hos q hq).1))) kk
/-! returns -/
theorem rk_nar {rt : Option FieldType} {v : Int32} (h1 : rkd rt ≠ 1) (h2 : rkd rt ≠ 2) (h9 : rkd rt ≠ 9) (hk : kok (rkd rt) v) : ∃ ty, rt = some ty ∧ narrow ty (.int v) = .int v := by
  cases rt with
  | none => exact absurd rfl h9
  | some ty =>
    refine ⟨ty, rfl, ?_⟩
    cases ty with
    | boolean => rcases hk.1 rfl with rfl | rfl <;> rfl
    | byte =>
      obtain ⟨z1, z2⟩ := hk.2.1 rfl
      have z3 := Int32.le_iff_toInt_le.mp z1
      have z4 := Int32.le_iff_toInt_le.mp z2
      show Value.int v.toInt8.toInt32 = .int v
      rw [lg_i2b_small (v := v) (by exact z3) (by have : (127 : Int32).toInt = 127 := rfl; omega)]
    | char =>
      obtain ⟨z1, z2⟩ := hk.2.2.1 rfl
      have z3 := Int32.le_iff_toInt_le.mp z1
      have z4 := Int32.le_iff_toInt_le.mp z2
      have e3 : (0 : Int32).toInt = 0 := rfl
      have e4 : (65535 : Int32).toInt = 65535 := rfl
      show Value.int v.toUInt32.toUInt16.toUInt32.toInt32 = .int v
      have e5 : v.toUInt32.toNat < 65536 := by
        have : v.toInt = v.toBitVec.toInt := rfl
        have h6 : v.toUInt32.toNat = v.toBitVec.toNat := rfl
        rw [BitVec.toInt_eq_toNat_cond] at this
        split at this <;> omega
      have e6 : v.toUInt32.toUInt16.toUInt32 = v.toUInt32 := by
        apply UInt32.toNat_inj.mp
        simp
        omega
      rw [e6, Int32.toInt32_toUInt32]
    | short =>
      obtain ⟨z1, z2⟩ := hk.2.2.2 rfl
      have z3 := Int32.le_iff_toInt_le.mp z1
      have z4 := Int32.le_iff_toInt_le.mp z2
      show Value.int v.toInt16.toInt32 = .int v
      rw [lg_i2s_small (v := v) (by exact z3) (by have : (32767 : Int32).toInt = 32767 := rfl; omega)]
    | int => rfl
    | long => exact absurd rfl h1
    | float => rfl
    | double => rfl
    | _ => exact absurd rfl h2
theorem ret_go {p : Program} {e : Env} {R : Room} {s : State} {m : MethodId} {args : Array Value} {below : List Frame} {meth : Method} {c : Code} {H : Heap} {locs : List Loc} {cells slots mc ms : Nat} {Qc : Array Value → State → Outcome → State → Prop} {XC : String → State → State → Prop} {g : JFrame} (h1 : cells ≤ mc) (h2 : slots ≤ ms) (k : W p l e R s m args below meth c H locs mc ms (MQ below Qc args s mc ms (Ab base)) g) : W p l e R s m args below meth c H locs cells slots (vx_MQ below Qc XC args s mc ms (Ab base)) g :=
  fun T hT X => vx_ret k T hT (stand_widen X h1 h2)
theorem sx_ri {v : Int32} (hd : decode (tb_b Y) pc = .ok (.ireturn, 1)) (h1 : rkd (tb_r Y) ≠ 1) (h2 : rkd (tb_r Y) ≠ 2) (h9 : rkd (tb_r Y) ≠ 9) (hk : kok (rkd (tb_r Y)) v) (k : Q (.inl (some (.int v))) h) : SX l base D cA h0 Y pc loc [.int v] h bc bs Q := by
  intro p e R s m args below meth c H locs cells slots mc ms ls S g1 g2 hl hr hs
  obtain ⟨⟨hx, hb⟩, ⟨hml, hrt, hown, hts⟩, ⟨hlk, hin0, hsf, hbs0, hst⟩, -, -, -⟩ := S
  obtain ⟨ty, e1, e2⟩ := rk_nar h1 h2 h9 hk
  exact ret_go (by omega) (by omega) (W.zret hx hb (hrt.trans e1) e2 (fun t ht hW => ⟨some (.int v), h, rfl, k, by rw [ht]; exact hr, hs.F ht⟩) hs.2.2 hd hlk)
theorem sx_rl {v : Int64} (hd : decode (tb_b Y) pc = .ok (.lreturn, 1)) (h1 : rkd (tb_r Y) = 1) (k : Q (.inl (some (.long v))) h) : SX l base D cA h0 Y pc loc [.long v] h bc bs Q := by
  intro p e R s m args below meth c H locs cells slots mc ms ls S g1 g2 hl hr hs
  obtain ⟨⟨hx, hb⟩, ⟨hml, hrt, hown, hts⟩, ⟨hlk, hin0, hsf, hbs0, hst⟩, -, -, -⟩ := S
  have e1 : tb_r Y = some .long := by
    cases hr9 : tb_r Y with
    | none => rw [hr9] at h1; cases h1
    | some ty => rw [hr9] at h1; cases ty <;> first | rfl | cases h1
  exact ret_go (by omega) (by omega) (W.lret hx hb (hrt.trans e1) (fun t ht hW => ⟨some (.long v), h, rfl, k, by rw [ht]; exact hr, hs.F ht⟩) hs.2.2 hd hlk)
theorem sx_ra {v : Nat} (hd : decode (tb_b Y) pc = .ok (.areturn, 1)) (h1 : rkd (tb_r Y) = 2) (k : Q (.inl (some (.ref v))) h) : SX l base D cA h0 Y pc loc [.ref v] h bc bs Q := by
  intro p e R s m args below meth c H locs cells slots mc ms ls S g1 g2 hl hr hs
  obtain ⟨⟨hx, hb⟩, ⟨hml, hrt, hown, hts⟩, ⟨hlk, hin0, hsf, hbs0, hst⟩, -, -, -⟩ := S
  have hrr : ∃ rt, tb_r Y = some rt ∧ ((∃ n, rt = .object n) ∨ ∃ t, rt = .array t) := by
    cases hr9 : tb_r Y with
    | none => rw [hr9] at h1; cases h1
    | some ty => rw [hr9] at h1; cases ty <;> first | exact ⟨_, rfl, Or.inl ⟨_, rfl⟩⟩ | exact ⟨_, rfl, Or.inr ⟨_, rfl⟩⟩ | cases h1
  obtain ⟨rt, e1, e2⟩ := hrr
  exact ret_go (by omega) (by omega) (W.aret hx hb (hrt.trans e1) e2 (Or.inr ⟨v, rfl⟩) (fun t ht hW => ⟨some (.ref v), h, rfl, k, by rw [ht]; exact hr, hs.F ht⟩) hs.2.2 hd hlk)
theorem sx_rv (hd : decode (tb_b Y) pc = .ok (.return_, 1)) (h1 : rkd (tb_r Y) = 9) (k : Q (.inl none) h) : SX l base D cA h0 Y pc loc [] h bc bs Q := by
  intro p e R s m args below meth c H locs cells slots mc ms ls S g1 g2 hl hr hs
  obtain ⟨⟨hx, hb⟩, ⟨hml, hrt, hown, hts⟩, ⟨hlk, hin0, hsf, hbs0, hst⟩, -, -, -⟩ := S
  have e1 : tb_r Y = none := by
    cases hr9 : tb_r Y with
    | none => rfl
    | some ty => rw [hr9] at h1; cases ty <;> cases h1
  exact ret_go (by omega) (by omega) (W.vret hx hb (hrt.trans e1) (fun t ht hW => ⟨none, h, rfl, k, by rw [ht]; exact hr, hs.F ht⟩) hs.2.2 hd hlk)
end SXK
end

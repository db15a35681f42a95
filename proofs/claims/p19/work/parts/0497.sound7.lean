/-! one-step calls, constants -/
def atW (i : Nat) (w : Cond) : Bool := decide (lw_at i = some w) && goodWord w
theorem atW_in {i : Nat} {w : Cond} (h : atW i w = true) : w ∈ Wd := by
  simp only [atW, Bool.and_eq_true, decide_eq_true_eq] at h
  exact Wd_at i h.1 h.2
def okG (e : Nat × (Int32 ⊕ Nat) × (String × String × String × Nat)) : Bool := atW e.2.2.2.2.2 (.fieldLink (cn (e.1 / 65536)) (e.1 % 65536) e.2.2.1 e.2.2.2.1 e.2.2.2.2.1)
theorem okG_all : tG_l.all okG = true := by decide +kernel
def okV (e : Nat × (Value ⊕ Nat) × Nat) : Bool := match e.2.1 with
  | .inl (.int v) => atW e.2.2 (.constant (cn (e.1 / 65536)) (e.1 % 65536) v)
  | .inl (.long v) => atW e.2.2 (.constantLong (cn (e.1 / 65536)) (e.1 % 65536) v)
  | .inl _ => false
  | .inr j => tS_l.any (fun x => decide (x.1 = cn (e.1 / 65536) ∧ x.2.1 = e.1 % 65536 ∧ x.2.2.2 = j))
theorem okV_all : tV_l.all okV = true := by decide +kernel
def okI6 (e : Nat × (Nat × Nat × Nat × Nat) × List Nat) : Bool := if e.2.1.2.1 = 6 then (match e.2.2 with
  | [a, b, c] => atW a (.methodLink (cn (e.1 / 65536)) (e.1 % 65536) Lib.objectInit) && (atW b (.instanceMethod Lib.objectInit) && atW c (.code Lib.objectInit ⟨#[0xb1]⟩ 1 none))
  | _ => false) else true
theorem okI6_all : tI_l.all okI6 = true := by decide +kernel
def okM7 (e : Nat × (Nat × Nat × Nat × Nat) × List Nat) : Bool := if e.2.1.2.1 = 7 then (match e.2.2 with
  | [a, b, c, d] => atW a (.methodLink (cn (e.1 / 65536)) (e.1 % 65536) arraycopyName) && (atW b (.native arraycopyName) && (atW c (.static arraycopyName) && atW d (.initialized "java/lang/System")))
  | _ => false) else if e.2.1.2.1 = 8 then (match e.2.2 with
  | [a, b, c, d, f, g] => atW a (.methodLink (cn (e.1 / 65536)) (e.1 % 65536) ⟨"[B", "clone", "()Ljava/lang/Object;"⟩) && (atW b (.sameMethod "[B" "java/lang/Object" "clone" "()Ljava/lang/Object;") && (atW c (.native ⟨"java/lang/Object", "clone", "()Ljava/lang/Object;"⟩) && (atW d (.instanceMethod ⟨"java/lang/Object", "clone", "()Ljava/lang/Object;"⟩) && (atW f (.selects "[B" ⟨"[B", "clone", "()Ljava/lang/Object;"⟩ ⟨"java/lang/Object", "clone", "()Ljava/lang/Object;"⟩) && decide (lw_tbl[g]? = some (.castable "[B" "java/lang/Cloneable"))))))
  | _ => false) else if e.2.1.2.1 = 9 then (match e.2.2 with
  | [a, b, c] => atW a (.methodLink (cn (e.1 / 65536)) (e.1 % 65536) Lib.Math.min.name) && (atW b (.static Lib.Math.min.name) && atW c (.initialized "java/lang/Math"))
  | _ => false) else if e.2.1.2.1 = 10 then (match e.2.2 with
  | [a, b, c] => atW a (.methodLink (cn (e.1 / 65536)) (e.1 % 65536) Lib.Math.max.name) && (atW b (.static Lib.Math.max.name) && atW c (.initialized "java/lang/Math"))
  | _ => false) else if e.2.1.2.1 = 11 then (match e.2.2 with
  | [a, b, c] => atW a (.methodLink (cn (e.1 / 65536)) (e.1 % 65536) Lib.Math.abs.name) && (atW b (.static Lib.Math.abs.name) && atW c (.initialized "java/lang/Math"))
  | _ => false) else true
theorem okM7_all : tM_l.all okM7 = true := by decide +kernel
def okX (e : Nat × Nat) : Bool := atW e.2 (.classLink (cn (e.1 / 65536)) (e.1 % 65536) "[B")
theorem okX_all : tX_l.all okX = true := by decide +kernel
theorem find_mem {β : Type} {l : List (Nat × β)} {q : Nat} {v : Nat × β} (h : l.find? (fun e => e.1 == q) = some v) : v ∈ l ∧ v.1 = q := ⟨List.mem_of_find?_eq_some h, by have := List.find?_some h; simpa using this⟩
theorem key_div {o idx : Nat} (h : idx < 65536) : (o * 65536 + idx) / 65536 = o := by omega
theorem key_mod {o idx : Nat} (h : idx < 65536) : (o * 65536 + idx) % 65536 = idx := by omega
section SXF
variable {l : Launch} {base : Nat} {D : va_G} {cA : Nat → ClassId} {h0 : MH}
variable {Y pc idx : Nat} {loc stk : List Value} {h h' : MH} {bc bs : Nat} {Q : MR → MH → Prop}
theorem sx_gets {v : Int32 ⊕ Nat} (hd : decode (tb_b Y) pc = .ok (.getstatic idx, 3)) (hf : tG (tb_o Y * 65536 + idx) = some v) (hidx : idx < 65536) (k : SX l base D cA h0 Y (pc + 3) loc (gsv h v :: stk) h bc bs Q) : SX l base D cA h0 Y pc loc stk h bc bs Q := by
  intro p e R s m args below meth c H locs cells slots mc ms ls S h1 h2 hl hr hs
  have KK := k p e R s m args below meth c H locs cells slots mc ms ls S h1 h2 hl hr hs
  obtain ⟨⟨hx, hb⟩, ⟨hml, hrt, hown, hts⟩, ⟨hlk, hin0, hsf, hbs, hst⟩, -, -⟩ := S
  unfold tG at hf
  rw [Option.map_eq_some_iff] at hf
  obtain ⟨w, hw, rfl⟩ := hf
  obtain ⟨m1, m2⟩ := find_mem hw
  have hok := List.all_eq_true.mp okG_all _ m1
  unfold okG at hok
  rw [m2, key_div hidx, key_mod hidx] at hok
  have hz := hsf.2.2.1 _ m1
  have ev : gsv h0 w.2.1 = gsv h w.2.1 := by
    cases w.2.1 with
    | inl v => rfl
    | inr j => simp only [gsv, hr.2.2.2.2.1 j]
  rw [ev] at hz
  exact va_gets hx hb hz hs hown (hts _ (atW_in hok)) (fun _ z => z) hd KK
theorem tV_of {v : Value ⊕ Nat} {q : Nat} (hf : tV q = some v) : ∃ wi, (q, v, wi) ∈ tV_l := by
  unfold tV at hf
  rw [Option.map_eq_some_iff] at hf
  obtain ⟨w, hw, rfl⟩ := hf
  obtain ⟨m1, m2⟩ := find_mem hw
  obtain ⟨w1, w2, w3⟩ := w
  simp only at m2
  subst m2
  exact ⟨w3, m1⟩
theorem sx_ldcI {v : Int32} (hd : decode (tb_b Y) pc = .ok (.ldc idx, 2)) (hf : tV (tb_o Y * 65536 + idx) = some (.inl (.int v))) (hidx : idx < 65536) (k : SX l base D cA h0 Y (pc + 2) loc (.int v :: stk) h bc bs Q) : SX l base D cA h0 Y pc loc stk h bc bs Q := by
  intro p e R s m args below meth c H locs cells slots mc ms ls S h1 h2 hl hr hs
  have KK := k p e R s m args below meth c H locs cells slots mc ms ls S h1 h2 hl hr hs
  obtain ⟨⟨hx, hb⟩, ⟨hml, hrt, hown, hts⟩, -, -, -⟩ := S
  obtain ⟨wi, hw⟩ := tV_of hf
  have hok := List.all_eq_true.mp okV_all _ hw
  simp only [okV, key_div hidx, key_mod hidx] at hok
  exact lv_ldc hx hb hown (hts _ (atW_in hok)) hd KK
theorem sx_ldcwI {v : Int32} (hd : decode (tb_b Y) pc = .ok (.ldc_w idx, 3)) (hf : tV (tb_o Y * 65536 + idx) = some (.inl (.int v))) (hidx : idx < 65536) (k : SX l base D cA h0 Y (pc + 3) loc (.int v :: stk) h bc bs Q) : SX l base D cA h0 Y pc loc stk h bc bs Q := by
  intro p e R s m args below meth c H locs cells slots mc ms ls S h1 h2 hl hr hs
  have KK := k p e R s m args below meth c H locs cells slots mc ms ls S h1 h2 hl hr hs
  obtain ⟨⟨hx, hb⟩, ⟨hml, hrt, hown, hts⟩, -, -, -⟩ := S
  obtain ⟨wi, hw⟩ := tV_of hf
  have hok := List.all_eq_true.mp okV_all _ hw
  simp only [okV, key_div hidx, key_mod hidx] at hok
  exact lv_ldcw hx hb hown (hts _ (atW_in hok)) hd KK
theorem sx_ldc2 {v : Int64} (hd : decode (tb_b Y) pc = .ok (.ldc2_w idx, 3)) (hf : tV (tb_o Y * 65536 + idx) = some (.inl (.long v))) (hidx : idx < 65536) (k : SX l base D cA h0 Y (pc + 3) loc (.long v :: stk) h bc bs Q) : SX l base D cA h0 Y pc loc stk h bc bs Q := by
  intro p e R s m args below meth c H locs cells slots mc ms ls S h1 h2 hl hr hs
  have KK := k p e R s m args below meth c H locs cells slots mc ms ls S h1 h2 hl hr hs
  obtain ⟨⟨hx, hb⟩, ⟨hml, hrt, hown, hts⟩, -, -, -⟩ := S
  obtain ⟨wi, hw⟩ := tV_of hf
  have hok := List.all_eq_true.mp okV_all _ hw
  simp only [okV, key_div hidx, key_mod hidx] at hok
  exact lv_ldc2 hx hb hown (hts _ (atW_in hok)) hd KK
theorem sx_ldcS {j : Nat} (hd : decode (tb_b Y) pc = .ok (.ldc idx, 2)) (hf : tV (tb_o Y * 65536 + idx) = some (.inr j)) (hidx : idx < 65536) (k : SX l base D cA h0 Y (pc + 2) loc (.ref (g_a h j) :: stk) h bc bs Q) : SX l base D cA h0 Y pc loc stk h bc bs Q := by
  intro p e R s m args below meth c H locs cells slots mc ms ls S h1 h2 hl hr hs
  have KK := k p e R s m args below meth c H locs cells slots mc ms ls S h1 h2 hl hr hs
  obtain ⟨⟨hx, hb⟩, ⟨hml, hrt, hown, hts⟩, ⟨hlk, hin0, hsf, hbs, hst⟩, -, -⟩ := S
  obtain ⟨wi, hw⟩ := tV_of hf
  have hok := List.all_eq_true.mp okV_all _ hw
  simp only [okV, key_div hidx, key_mod hidx] at hok
  obtain ⟨x, x1, x2⟩ := List.any_eq_true.mp hok
  simp only [decide_eq_true_eq] at x2
  have hz := hsf.2.2.2.1 x x1
  rw [x2.1, x2.2.1, x2.2.2, ← hr.2.2.2.2.1 j] at hz
  exact va_ldcS hx hb hown hz hd KK
theorem tI_of {v : Nat × Nat × Nat × Nat} {q : Nat} (hf : tI q = some v) : ∃ ws, (q, v, ws) ∈ tI_l := by
  unfold tI at hf
  rw [Option.map_eq_some_iff] at hf
  obtain ⟨w, hw, rfl⟩ := hf
  obtain ⟨m1, m2⟩ := find_mem hw
  obtain ⟨w1, w2, w3⟩ := w
  simp only at m2
  subst m2
  exact ⟨w3, m1⟩
theorem tM_of {v : Nat × Nat × Nat × Nat} {q : Nat} (hf : tM q = some v) : ∃ ws, (q, v, ws) ∈ tM_l := by
  unfold tM at hf
  rw [Option.map_eq_some_iff] at hf
  obtain ⟨w, hw, rfl⟩ := hf
  obtain ⟨m1, m2⟩ := find_mem hw
  obtain ⟨w1, w2, w3⟩ := w
  simp only at m2
  subst m2
  exact ⟨w3, m1⟩
theorem sx_obj {Z n tag a : Nat} (hd : decode (tb_b Y) pc = .ok (.invokespecial idx, 3)) (hf : tI (tb_o Y * 65536 + idx) = some (Z, 6, n, tag)) (hidx : idx < 65536) (hrk : 2 ≤ tb_d Y) (hcs : (stk.map (fun v => v.category)).sum ≤ 8) (k : SX l base D cA h0 Y (pc + 3) loc stk h bc bs Q) : SX l base D cA h0 Y pc loc (.ref a :: stk) h bc bs Q := by
  intro p e R s m args below meth c H locs cells slots mc ms ls S h1 h2 hl hr hs
  have KK := k p e R s m args below meth c H locs cells slots mc ms ls S h1 h2 hl hr hs
  obtain ⟨⟨hx, hb⟩, ⟨hml, hrt, hown, hts⟩, ⟨hlk, hin0, hsf, hbs, hst⟩, ⟨hR1, hR2, hR3, hR4⟩, -⟩ := S
  obtain ⟨ws, hw⟩ := tI_of hf
  have hok := List.all_eq_true.mp okI6_all _ hw
  simp only [okI6, key_div hidx, key_mod hidx, if_pos] at hok
  match ws, hok with
  | [a, b, d], hok =>
    simp only [Bool.and_eq_true] at hok
    exact W.objInit hx hb hown (hts _ (atW_in hok.1)) (hts _ (atW_in hok.2.1)) (hts _ (atW_in hok.2.2)) rfl (by rw [hml]; exact hl.2.1) rfl hd (by omega) (by show 2 * 0 + _ + 12 ≤ _; omega) KK
theorem sx_copy {Z n9 tag a d : Nat} {n sp dp : Int32} (hd : decode (tb_b Y) pc = .ok (.invokestatic idx, 3)) (hf : tM (tb_o Y * 65536 + idx) = some (Z, 7, n9, tag)) (hidx : idx < 65536) (hrk : 3 ≤ tb_d Y) (hcs : (stk.map (fun v => v.category)).sum ≤ 8)
    (hca : g_c h a = 103) (hcd : g_c h d = 103) (hz : g_z h ≤ d) (g1 : ¬ sp < 0) (g2 : ¬ dp < 0) (g3 : ¬ n < 0) (g4 : sp.toNatClampNeg + n.toNatClampNeg ≤ g_n h a) (g5 : dp.toNatClampNeg + n.toNatClampNeg ≤ g_n h d)
    (k : SX l base D cA h0 Y (pc + 3) loc stk (p_C h d (va_cpy (g_i h a) (g_i h d) sp.toNatClampNeg dp.toNatClampNeg n.toNatClampNeg)) bc bs Q) : SX l base D cA h0 Y pc loc (.int n :: .int dp :: .ref d :: .int sp :: .ref a :: stk) h bc bs Q := by
  intro p e R s m args below meth c H locs cells slots mc ms ls S h1 h2 hl hr hs
  have S0 := S
  obtain ⟨⟨hx, hb⟩, ⟨hml, hrt, hown, hts⟩, ⟨hlk, hin0, hsf, hbs, hst⟩, ⟨hR1, hR2, hR3, hR4⟩, -⟩ := S
  obtain ⟨ws, hw⟩ := tM_of hf
  have hok := List.all_eq_true.mp okM7_all _ hw
  simp only [okM7, key_div hidx, key_mod hidx, if_pos] at hok
  have hdb : base ≤ d := by rw [← hr.2.1]; exact hz
  have hA := (hsf.1.2 2 _ rfl).1
  have hcell := hr.arr hdb hcd (by decide)
  have hfd := (hr.2.2.2.2.2.2 d hdb (by omega)).2.2 hcd
  have fin : ∀ (scr : Cell), H[a]? = some scr → s.isArrayOf scr .byte → scr.vm ≠ .unknown → g_n h a ≤ scr.slots.size → (∀ j : Nat, j < g_n h a → scr.slots[j]? = some (.int (g_i h a j))) → (∀ j, fits .byte (.int (g_i h a j)) = true) → W p l e R s m args below meth c H locs cells slots (vx_MQ below (QcO base D cA h0 Q) (XcO base D cA h0 Q) args s mc ms (Ab base)) (F0 m pc ls (.int n :: .int dp :: .ref d :: .int sp :: .ref a :: stk)) := by
    intro scr a1 a2 a3 a4 a5 a6
    match ws, hok with
    | [w1, w2, w3, w4], hok =>
      simp only [Bool.and_eq_true] at hok
      refine cp_raw hx hb (by rw [hml]; exact hl.2.1.symm) hown (hts _ (atW_in hok.1)) (hts _ (atW_in hok.2.1)) (hts _ (atW_in hok.2.2.1)) (hts _ (atW_in hok.2.2.2)) a1 a2 a3 a4 a5 (n1 := g_n h d) (g := g_i h d) hcell hA g1 g2 g3 g4 g5 a6 (by omega) (by
        have : nativeFrameWords "java/lang/System" "arraycopy" 5 + 11 ≤ 60 := by decide
        omega) hd fun H1 L e z oq hL => ?_
      refine k _ _ _ _ _ _ _ _ _ H1 _ _ _ _ _ _ S0 h1 h2 hl (hr.put hdb z oq sameB_C (cellR_arr (t := 103) hcd (by decide) (by decide) ?_ ?_)) ⟨by rw [z]; exact hs.1, fun q q1 q2 => (oq q (fun e => q2 (by rw [e]; exact hdb))).trans (hs.2.1 q q1 q2), fun q hq => ?_⟩
      · rw [e]
        have e2 : g_i (p_C h d (va_cpy (g_i h a) (g_i h d) sp.toNatClampNeg dp.toNatClampNeg n.toNatClampNeg)) d = va_cpy (g_i h a) (g_i h d) sp.toNatClampNeg dp.toNatClampNeg n.toNatClampNeg := by
          funext j
          rw [i_pC, if_pos rfl]
        unfold arO
        rw [e2]
        rfl
      · intro _ j
        rw [i_pC, if_pos rfl]
        unfold va_cpy
        split
        · exact a6 _
        · exact hfd j
      · rcases List.mem_append.mp hq with z9 | z9
        · exact hs.2.2 q z9
        · rw [hL q z9]; exact hdb
  by_cases hab : base ≤ a
  · have hca' := hr.arr hab hca (by decide)
    exact fin _ hca' (hA (g_n h a) (fun j => .int (g_i h a j))) (fun z => by cases z) (by show _ ≤ (arrV _ _ _).slots.size; rw [arrV_size]; exact Nat.le_refl _) (fun j hj => arrV_read _ _ hj) ((hr.2.2.2.2.2.2 a hab (by omega)).2.2 hca)
  · obtain ⟨b1, b2, b3, -⟩ := hr.2.2.2.2.2.1 a (by omega)
    rcases hsf.2.1 a (by omega) (by rw [← b1]; omega) with z | ⟨z1, ⟨scr, t1, t2, t3, t4, t5, t6, t7⟩, z3⟩ | z
    · have := z.1
      omega
    · exact fin scr (by rw [hs.2.1 a (Array.getElem?_eq_some_iff.mp t1).1 t7]; exact t1) t2 t3 (by rw [b2]; exact t4) (fun j hj => by rw [b3]; exact t6 j (by rw [← b2]; exact hj)) (fun j => by rw [b3]; exact z3 j)
    · have := z.1
      omega
theorem sx_clone {Z n9 tag a : Nat} (hd : decode (tb_b Y) pc = .ok (.invokevirtual idx, 3)) (hf : tM (tb_o Y * 65536 + idx) = some (Z, 8, n9, tag)) (hidx : idx < 65536) (hrk : 3 ≤ tb_d Y) (hcs : (stk.map (fun v => v.category)).sum ≤ 8)
    (hca : g_c h a = 103) (hz : g_z h ≤ a) (hbc : 1 ≤ bc) (hbn : g_n h a ≤ bs)
    (k : SX l base D cA h0 Y (pc + 3) loc (.ref (g_t h) :: stk) (p_C (p_N h 103 (g_n h a)) (g_t h) (g_i h a)) (bc - 1) (bs - g_n h a) Q) : SX l base D cA h0 Y pc loc (.ref a :: stk) h bc bs Q := by
  intro p e R s m args below meth c H locs cells slots mc ms ls S h1 h2 hl hr hs
  have S0 := S
  obtain ⟨⟨hx, hb⟩, ⟨hml, hrt, hown, hts⟩, ⟨hlk, hin0, hsf, hbs, hst⟩, ⟨hR1, hR2, hR3, hR4⟩, -⟩ := S
  obtain ⟨ws, hw⟩ := tM_of hf
  have hok := List.all_eq_true.mp okM7_all _ hw
  simp only [okM7, key_div hidx, key_mod hidx, if_pos, show ¬ (8 : Nat) = 7 by decide, if_false] at hok
  have hab : base ≤ a := by rw [← hr.2.1]; exact hz
  have hA := (hsf.1.2 2 _ rfl).1
  have hcell := hr.arr hab hca (by decide)
  have hfa := (hr.2.2.2.2.2.2 a hab (by omega)).2.2 hca
  match ws, hok with
  | [w1, w2, w3, w4, w5, w6], hok =>
    simp only [Bool.and_eq_true, decide_eq_true_eq] at hok
    refine cl_raw hx hb (by rw [hml]; exact hl.2.1.symm) hown (hts _ (atW_in hok.1)) (hts _ (atW_in hok.2.1)) (hts _ (atW_in hok.2.2.1)) (hts _ (atW_in hok.2.2.2.1)) (hts _ (atW_in hok.2.2.2.2.1)) (hsf.2.2.2.2.2.2.1 _ (List.mem_of_getElem? hok.2.2.2.2.2) rfl) hcell hA (hsf.1.2 2 _ rfl).2 (fun i v hv => ?_) (by omega) (by omega) (by omega) (by show slots + g_n h a ≤ _; omega) hd fun H1 e z oq => ?_
    · have hv' : (arrV (cA 103) (g_n h a) (fun j => .int (g_i h a j))).slots[i]? = some v := hv
      have hi : i < g_n h a := by
        have := (Array.getElem?_eq_some_iff.mp hv').1
        rwa [arrV_size] at this
      rw [arrV_read _ _ hi] at hv'
      cases hv'
      exact hfa i
    · rw [← hr.1]
      refine k _ _ _ _ _ _ _ _ _ H1 _ _ _ _ _ _ S0 (by omega) (by show slots + g_n h a + _ ≤ _; omega) hl ?_ (S_new hs z oq)
      have hn1 : Rel base D cA h0 (p_C (p_N h 103 (g_n h a)) (g_t h) (g_i h a)) H1 := by
        have hlt := fun b hb hc => Rel.lt (a := b) hr hb hc
        obtain ⟨r1, r2, r3, r4, r5, r6, r7⟩ := hr
        refine ⟨by show g_t h + 1 = _; rw [z, r1], r2, by omega, r4, r5, fun b hb => ?_, fun b hb hcb => ?_⟩
        · have hne : ¬ b = g_t h := by omega
          obtain ⟨u1, u2, u3, u4⟩ := r6 b hb
          exact ⟨by rw [c_pC, c_pN, if_neg hne]; exact u1, by rw [n_pC, n_pN, if_neg hne]; exact u2, fun k => by rw [i_pC, if_neg hne, i_pN, if_neg hne]; exact u3 k, fun k => by rw [r_pC, r_pN, if_neg hne]; exact u4 k⟩
        · by_cases hne : b = g_t h
          · subst hne
            refine cellR_arr (t := 103) (by rw [c_pC, c_pN, if_pos rfl]) (by decide) (by decide) ?_ ?_
            · rw [r1, e, ← r1]
              have e2 : g_i (p_C (p_N h 103 (g_n h a)) (g_t h) (g_i h a)) (g_t h) = g_i h a := by funext j; rw [i_pC, if_pos rfl]
              have e3 : g_n (p_C (p_N h 103 (g_n h a)) (g_t h) (g_i h a)) (g_t h) = g_n h a := by rw [n_pC, n_pN, if_pos rfl]
              unfold arO
              rw [e2, e3]
              rfl
            · intro _ j
              rw [i_pC, if_pos rfl]
              exact hfa j
          · rw [c_pC, c_pN, if_neg hne] at hcb
            exact cellR.kept (by rw [c_pC, c_pN, if_neg hne]) (by rw [n_pC, n_pN, if_neg hne]) (fun k => by rw [i_pC, if_neg hne, i_pN, if_neg hne]) (fun k => by rw [l_pC, l_pN, if_neg hne]) (fun k => by rw [r_pC, r_pN, if_neg hne]) (oq b (hlt b hb hcb)) (r7 b hb hcb)
      exact hn1
theorem sx_ckc {a : Nat} (hd : decode (tb_b Y) pc = .ok (.checkcast idx, 3)) (hf : tX (tb_o Y * 65536 + idx) = true) (hidx : idx < 65536) (hca : g_c h a = 103) (hz : g_z h ≤ a) (k : SX l base D cA h0 Y (pc + 3) loc (.ref a :: stk) h bc bs Q) : SX l base D cA h0 Y pc loc (.ref a :: stk) h bc bs Q := by
  intro p e R s m args below meth c H locs cells slots mc ms ls S h1 h2 hl hr hs
  have KK := k p e R s m args below meth c H locs cells slots mc ms ls S h1 h2 hl hr hs
  obtain ⟨⟨hx, hb⟩, ⟨hml, hrt, hown, hts⟩, ⟨hlk, hin0, hsf, hbs, hst⟩, -, -⟩ := S
  unfold tX at hf
  obtain ⟨w, w1, w2⟩ := List.any_eq_true.mp hf
  have hok := List.all_eq_true.mp okX_all _ w1
  simp only [beq_iff_eq] at w2
  simp only [okX, w2, key_div hidx, key_mod hidx] at hok
  have hP := P1 (D := D) (e := .inl (cA 103, arO h a 103)) (hr.arr (by rw [← hr.2.1]; exact hz) hca (by decide))
  exact va_castA hx hb hown (hts _ (atW_in hok)) hP 0 rfl (hsf.1.2 2 _ rfl).2 hd KK
theorem sx_min {Z n9 tag : Nat} {x y : Int32} (hd : decode (tb_b Y) pc = .ok (.invokestatic idx, 3)) (hf : tM (tb_o Y * 65536 + idx) = some (Z, 9, n9, tag)) (hidx : idx < 65536) (hrk : 2 ≤ tb_d Y) (hcs : (stk.map (fun v => v.category)).sum ≤ 8) (k : SX l base D cA h0 Y (pc + 3) loc (.int (if y < x then y else x) :: stk) h bc bs Q) : SX l base D cA h0 Y pc loc (.int y :: .int x :: stk) h bc bs Q := by
  intro p e R s m args below meth c H locs cells slots mc ms ls S h1 h2 hl hr hs
  have KK := k p e R s m args below meth c H locs cells slots mc ms ls S h1 h2 hl hr hs
  obtain ⟨⟨hx, hb⟩, ⟨hml, hrt, hown, hts⟩, ⟨hlk, hin0, hsf, hbs, hst⟩, ⟨hR1, hR2, hR3, hR4⟩, -⟩ := S
  obtain ⟨ws, hw⟩ := tM_of hf
  have hok := List.all_eq_true.mp okM7_all _ hw
  simp only [okM7, key_div hidx, key_mod hidx, if_pos, show ¬ (9 : Nat) = 7 by decide, show ¬ (9 : Nat) = 8 by decide, if_false] at hok
  match ws, hok with
  | [a, b, d], hok =>
    simp only [Bool.and_eq_true] at hok
    exact va_mmin hx hb (by rw [hml]; exact hl.2.1.symm) hown (hts _ (atW_in hok.1)) (hts _ (atW_in hok.2.1)) (hts _ (atW_in hok.2.2)) (hts _ (Wd_mem cw_min rfl)) (by omega) (by omega) (by omega) (by omega) hd KK
theorem sx_max {Z n9 tag : Nat} {x y : Int32} (hd : decode (tb_b Y) pc = .ok (.invokestatic idx, 3)) (hf : tM (tb_o Y * 65536 + idx) = some (Z, 10, n9, tag)) (hidx : idx < 65536) (hrk : 2 ≤ tb_d Y) (hcs : (stk.map (fun v => v.category)).sum ≤ 8) (k : SX l base D cA h0 Y (pc + 3) loc (.int (if x < y then y else x) :: stk) h bc bs Q) : SX l base D cA h0 Y pc loc (.int y :: .int x :: stk) h bc bs Q := by
  intro p e R s m args below meth c H locs cells slots mc ms ls S h1 h2 hl hr hs
  have KK := k p e R s m args below meth c H locs cells slots mc ms ls S h1 h2 hl hr hs
  obtain ⟨⟨hx, hb⟩, ⟨hml, hrt, hown, hts⟩, ⟨hlk, hin0, hsf, hbs, hst⟩, ⟨hR1, hR2, hR3, hR4⟩, -⟩ := S
  obtain ⟨ws, hw⟩ := tM_of hf
  have hok := List.all_eq_true.mp okM7_all _ hw
  simp only [okM7, key_div hidx, key_mod hidx, if_pos, show ¬ (10 : Nat) = 7 by decide, show ¬ (10 : Nat) = 8 by decide, show ¬ (10 : Nat) = 9 by decide, if_false] at hok
  match ws, hok with
  | [a, b, d], hok =>
    simp only [Bool.and_eq_true] at hok
    exact va_mmax hx hb (by rw [hml]; exact hl.2.1.symm) hown (hts _ (atW_in hok.1)) (hts _ (atW_in hok.2.1)) (hts _ (atW_in hok.2.2)) (hts _ (Wd_mem cw_max rfl)) (by omega) (by omega) (by omega) (by omega) hd KK
theorem sx_abs {Z n9 tag : Nat} {x : Int32} (hd : decode (tb_b Y) pc = .ok (.invokestatic idx, 3)) (hf : tM (tb_o Y * 65536 + idx) = some (Z, 11, n9, tag)) (hidx : idx < 65536) (hrk : 2 ≤ tb_d Y) (hcs : (stk.map (fun v => v.category)).sum ≤ 8) (k : SX l base D cA h0 Y (pc + 3) loc (.int (if 0 ≤ x then x else 0 - x) :: stk) h bc bs Q) : SX l base D cA h0 Y pc loc (.int x :: stk) h bc bs Q := by
  intro p e R s m args below meth c H locs cells slots mc ms ls S h1 h2 hl hr hs
  have KK := k p e R s m args below meth c H locs cells slots mc ms ls S h1 h2 hl hr hs
  obtain ⟨⟨hx, hb⟩, ⟨hml, hrt, hown, hts⟩, ⟨hlk, hin0, hsf, hbs, hst⟩, ⟨hR1, hR2, hR3, hR4⟩, -⟩ := S
  obtain ⟨ws, hw⟩ := tM_of hf
  have hok := List.all_eq_true.mp okM7_all _ hw
  simp only [okM7, key_div hidx, key_mod hidx, if_pos, show ¬ (11 : Nat) = 7 by decide, show ¬ (11 : Nat) = 8 by decide, show ¬ (11 : Nat) = 9 by decide, show ¬ (11 : Nat) = 10 by decide, if_false] at hok
  match ws, hok with
  | [a, b, d], hok =>
    simp only [Bool.and_eq_true] at hok
    exact va_mabs hx hb (by rw [hml]; exact hl.2.1.symm) hown (hts _ (atW_in hok.1)) (hts _ (atW_in hok.2.1)) (hts _ (atW_in hok.2.2)) (hts _ (Wd_mem cw_abs rfl)) (by omega) (by omega) (by omega) (by omega) hd KK
end SXF

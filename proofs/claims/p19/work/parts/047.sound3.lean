/-! fields -/
/-- a word of the tables, sought among those of its kind -/
def tk_a : List Cond := lw_tbl.filter (fun u => Nat.beq u.ctorIdx (Cond.lays "" "" "" "").ctorIdx)
def tk_b : List Cond := lw_tbl.filter (fun u => Nat.beq u.ctorIdx (Cond.laysFinal "" "" "" "").ctorIdx)
def tk_c : List Cond := lw_tbl.filter (fun u => Nat.beq u.ctorIdx (Cond.classLink "" 0 "").ctorIdx)
def tk_d : List Cond := lw_tbl.filter (fun u => Nat.beq u.ctorIdx (Cond.methodLink "" 0 ⟨"", "", ""⟩).ctorIdx)
def tk_e : List Cond := lw_tbl.filter (fun u => Nat.beq u.ctorIdx (Cond.initialized "").ctorIdx)
def tkOf : Cond → List Cond
  | .lays _ _ _ _ => tk_a
  | .laysFinal _ _ _ _ => tk_b
  | .classLink _ _ _ => tk_c
  | .methodLink _ _ _ => tk_d
  | .initialized _ => tk_e
  | _ => lw_tbl
def memB (w : Cond) : Bool := decide (w ∈ tkOf w)
theorem memB_in {w : Cond} (h : memB w = true) : w ∈ lw_tbl := by
  have h1 := of_decide_eq_true h
  unfold tkOf at h1
  split at h1
  · exact (List.mem_filter.mp h1).1
  · exact (List.mem_filter.mp h1).1
  · exact (List.mem_filter.mp h1).1
  · exact (List.mem_filter.mp h1).1
  · exact (List.mem_filter.mp h1).1
  · exact h1
def okR (r : vw_C) : Bool := (u_ws r.1 r.2.1 r.2.2).all (fun w => memB w && goodWord w) && ((List.range r.2.2).all (fun k => (parseFieldDescriptor (r.2.1 k).2.2.1).isSome) && (List.range r.2.2).all (fun a => (List.range r.2.2).all (fun b => decide (a = b) || decide ((r.2.1 a).2.1 ≠ (r.2.1 b).2.1))))
theorem okR_all : cls.all okR = true := by decide +kernel
def tyk (kd : Nat) (t : Option FieldType) : Bool := match kd with
  | 0 => decide (t = some .int)
  | 1 => decide (t = some .long)
  | 3 => decide (t = some .boolean)
  | 4 => decide (t = some .byte)
  | 2 => match t with | some (.object _) => true | some (.array _) => true | _ => false
  | _ => false
def okF (e : Nat × (Nat × Nat × Nat × Nat) × (Nat × Nat)) : Bool := match cls[e.2.1.1 - 1]? with
  | none => false
  | some r => decide (1 ≤ e.2.1.1 ∧ e.2.1.1 ≤ 100 ∧ e.2.1.2.1 < r.2.2 ∧ fkd e.2.1.1 e.2.1.2.1 = e.2.1.2.2.1 ∧ ((r.2.1 e.2.1.2.1).2.2.2 = true ↔ e.2.1.2.2.2 = 1)) && (tyk e.2.1.2.2.1 (parseFieldDescriptor (r.2.1 e.2.1.2.1).2.2.1) &&
      (((decide (e.2.2.1 = 0)) && (decide (lw_at e.2.2.2 = some (.fieldLink (cn (e.1 / 65536)) (e.1 % 65536) (r.2.1 e.2.1.2.1).1 (r.2.1 e.2.1.2.1).2.1 (r.2.1 e.2.1.2.1).2.2.1)) && goodWord (.fieldLink (cn (e.1 / 65536)) (e.1 % 65536) (r.2.1 e.2.1.2.1).1 (r.2.1 e.2.1.2.1).2.1 (r.2.1 e.2.1.2.1).2.2.1))) ||
       ((decide (e.2.2.1 = 1 ∧ (r.2.1 e.2.1.2.1).2.2.2 = false)) && decide (lw_at e.2.2.2 = some (.fieldLinkNest (cn (e.1 / 65536)) (e.1 % 65536) (r.2.1 e.2.1.2.1).1 (r.2.1 e.2.1.2.1).2.1 (r.2.1 e.2.1.2.1).2.2.1 "SluiceshelfLaw"))) ||
       ((decide (e.2.2.1 = 0 ∧ (r.2.1 e.2.1.2.1).2.2.2 = true ∧ (r.2.1 e.2.1.2.1).1 ≠ cn (e.1 / 65536))) && false)))
theorem okF_all : tF_l.all okF = true := by decide +kernel
theorem tF_mem {q : Nat} {v : Nat × Nat × Nat × Nat} (h : tF q = some v) : ∃ x, (q, v, x) ∈ tF_l := by
  unfold tF at h
  rw [Option.map_eq_some_iff] at h
  obtain ⟨e, h1, h2⟩ := h
  have h3 := List.find?_some h1
  obtain ⟨a, b, x⟩ := e
  simp only [beq_iff_eq] at h3 h2
  subst h3; subst h2
  exact ⟨x, List.mem_of_find?_eq_some h1⟩
theorem okR_of {i : Nat} {r : vw_C} (h : cls[i]? = some r) : (∀ w ∈ u_ws r.1 r.2.1 r.2.2, w ∈ Wd) ∧ (∀ k, k < r.2.2 → parseFieldDescriptor (r.2.1 k).2.2.1 = some ((parseFieldDescriptor (r.2.1 k).2.2.1).getD .int)) ∧ ∀ a, a < r.2.2 → ∀ b, b < r.2.2 → a ≠ b → (r.2.1 a).2.1 ≠ (r.2.1 b).2.1 := by
  have h1 := List.all_eq_true.mp okR_all r (List.mem_of_getElem? h)
  simp only [okR, Bool.and_eq_true, List.all_eq_true, decide_eq_true_eq, List.mem_range, Bool.or_eq_true] at h1
  obtain ⟨h2, h3, h4⟩ := h1
  refine ⟨fun w hw => List.mem_filter.mpr ⟨List.mem_append.mpr (Or.inr (memB_in (h2 w hw).1)), (h2 w hw).2⟩, fun k hk => ?_, fun a ha b hb n => ?_⟩
  · have := h3 k hk
    cases hp : parseFieldDescriptor (r.2.1 k).2.2.1 with
    | none => rw [hp] at this; cases this
    | some t => rfl
  · rcases h4 a ha b hb with z | z
    · exact absurd z n
    · exact z
section SXB
variable {l : Launch} {base : Nat} {D : va_G} {cA : Nat → ClassId} {h0 : MH}
variable {Y pc idx : Nat} {loc stk : List Value} {h h' : MH} {bc bs : Nat} {Q : MR → MH → Prop}
def sameB (a : Nat) (h h' : MH) : Prop := g_t h' = g_t h ∧ g_z h' = g_z h ∧ (∀ j, g_a h' j = g_a h j) ∧ (∀ b, g_c h' b = g_c h b ∧ g_n h' b = g_n h b) ∧ ∀ b, b ≠ a → (∀ k, g_i h' b k = g_i h b k) ∧ (∀ k, g_l h' b k = g_l h b k) ∧ ∀ k, g_r h' b k = g_r h b k
theorem sameB_i {a k : Nat} {v : Int32} : sameB a h (p_i h a k v) := ⟨rfl, rfl, fun _ => rfl, fun _ => ⟨rfl, rfl⟩, fun b hb => ⟨fun j => by rw [i_pi, if_neg (fun z => hb z.1)], fun _ => rfl, fun _ => rfl⟩⟩
theorem sameB_l {a k : Nat} {v : Int64} : sameB a h (p_l h a k v) := ⟨rfl, rfl, fun _ => rfl, fun _ => ⟨rfl, rfl⟩, fun b hb => ⟨fun _ => rfl, fun j => by rw [l_pl, if_neg (fun z => hb z.1)], fun _ => rfl⟩⟩
theorem sameB_r {a k : Nat} {v : Option Nat} : sameB a h (p_r h a k v) := ⟨rfl, rfl, fun _ => rfl, fun _ => ⟨rfl, rfl⟩, fun b hb => ⟨fun _ => rfl, fun _ => rfl, fun j => by rw [r_pr, if_neg (fun z => hb z.1)]⟩⟩
theorem sameB_C {a : Nat} {f : Nat → Int32} : sameB a h (p_C h a f) := ⟨rfl, rfl, fun _ => rfl, fun _ => ⟨rfl, rfl⟩, fun b hb => ⟨fun j => by rw [i_pC, if_neg hb], fun _ => rfl, fun _ => rfl⟩⟩
theorem cellR.kept {a : Nat} {H H' : Heap} (hc : g_c h' a = g_c h a) (hn : g_n h' a = g_n h a) (hi : ∀ k, g_i h' a k = g_i h a k) (hl : ∀ k, g_l h' a k = g_l h a k) (hr : ∀ k, g_r h' a k = g_r h a k) (oq : H'[a]? = H[a]?) (k : cellR D cA h a H) : cellR D cA h' a H' := by
  have ei : g_i h' a = g_i h a := funext hi
  have el : g_l h' a = g_l h a := funext hl
  have er : g_r h' a = g_r h a := funext hr
  have ef : fv h' a = fv h a := by funext t k; simp only [fv, ei, el, er]
  have ea : arO h' a = arO h a := by funext t; simp only [arO, hn, ei, el, er]
  obtain ⟨k1, k2, k3⟩ := k
  refine ⟨fun z => ?_, fun z => ?_, fun z => ?_⟩
  · rw [hc] at z ⊢
    rw [ef]
    obtain ⟨r, a1, a2⟩ := k1 z
    exact ⟨r, a1, a2.kept oq⟩
  · rw [hc] at z ⊢
    rw [ea]
    exact ⟨(k2 z).1, oq.trans (k2 z).2⟩
  · rw [hc] at z
    rw [ei]
    exact k3 z
theorem Rel.lt {H : Heap} {a : Nat} (hr : Rel base D cA h0 h H) (ha : base ≤ a) (hc : g_c h a ≠ 0) : a < H.size := by
  obtain ⟨-, -, -, -, -, -, h7⟩ := hr
  obtain ⟨k1, k2, -⟩ := h7 a ha hc
  by_cases z : g_c h a ≤ 100
  · obtain ⟨r, -, cell, q1, -⟩ := k1 z
    exact (Array.getElem?_eq_some_iff.mp q1).1
  · exact (Array.getElem?_eq_some_iff.mp (k2 z).2).1
theorem Rel.put {a : Nat} {H H' : Heap} (hr : Rel base D cA h0 h H) (ha : base ≤ a) (hz : H'.size = H.size) (oq : ∀ q, q ≠ a → H'[q]? = H[q]?) (hh : sameB a h h') (hc : cellR D cA h' a H') : Rel base D cA h0 h' H' := by
  obtain ⟨r1, r2, r3, r4, r5, r6, r7⟩ := hr
  obtain ⟨s1, s2, s3, s4, s5⟩ := hh
  refine ⟨by rw [s1, hz]; exact r1, by rw [s2]; exact r2, by rw [hz]; exact r3, r4, fun j => by rw [s3]; exact r5 j, fun b hb => ?_, fun b hb hcb => ?_⟩
  · have hne : b ≠ a := by omega
    obtain ⟨t1, -, t3⟩ := s5 b hne
    obtain ⟨u1, u2, u3, u4⟩ := r6 b hb
    exact ⟨by rw [(s4 b).1]; exact u1, by rw [(s4 b).2]; exact u2, fun k => by rw [t1]; exact u3 k, fun k => by rw [t3]; exact u4 k⟩
  · by_cases hne : b = a
    · subst hne; exact hc
    · obtain ⟨t1, t2, t3⟩ := s5 b hne
      rw [(s4 b).1] at hcb
      exact cellR.kept (s4 b).1 (s4 b).2 t1 t2 t3 (oq b hne) (r7 b hb hcb)
theorem Rel.new {tag n : Nat} {H H' : Heap} (hr : Rel base D cA h0 h H) (hz : H'.size = H.size + 1) (oq : ∀ q, q < H.size → H'[q]? = H[q]?) (hc : cellR D cA (p_N h tag n) (g_t h) H') : Rel base D cA h0 (p_N h tag n) H' := by
  have hlt := fun a ha hc => Rel.lt (a := a) hr ha hc
  obtain ⟨r1, r2, r3, r4, r5, r6, r7⟩ := hr
  refine ⟨by rw [t_pN, hz, r1], r2, by omega, r4, r5, fun b hb => ?_, fun b hb hcb => ?_⟩
  · have hne : ¬ b = g_t h := by omega
    obtain ⟨u1, u2, u3, u4⟩ := r6 b hb
    exact ⟨by rw [c_pN, if_neg hne]; exact u1, by rw [n_pN, if_neg hne]; exact u2, fun k => by rw [i_pN, if_neg hne]; exact u3 k, fun k => by rw [r_pN, if_neg hne]; exact u4 k⟩
  · by_cases hne : b = g_t h
    · subst hne; exact hc
    · rw [c_pN, if_neg hne] at hcb
      exact cellR.kept (by rw [c_pN, if_neg hne]) (by rw [n_pN, if_neg hne]) (fun k => by rw [i_pN, if_neg hne]) (fun k => by rw [l_pN, if_neg hne]) (fun k => by rw [r_pN, if_neg hne]) (oq b (hlt b hb hcb)) (r7 b hb hcb)
theorem Rel.top {t : Nat} {H H' : Heap} (hr : Rel base D cA h0 h H) (hz : H.size ≤ H'.size) (ht : t = H'.size) (oq : ∀ q, q < H.size → H'[q]? = H[q]?) : Rel base D cA h0 (p_T h t) H' := by
  have hlt := fun a ha hc => Rel.lt (a := a) hr ha hc
  obtain ⟨r1, r2, r3, r4, r5, r6, r7⟩ := hr
  exact ⟨ht, r2, by omega, r4, r5, r6, fun b hb hcb => cellR.kept (h := h) rfl rfl (fun _ => rfl) (fun _ => rfl) (fun _ => rfl) (oq b (hlt b hb hcb)) (r7 b hb hcb)⟩
theorem S_put {H0 H H1 : Heap} {locs : List Loc} {a k : Nat} (h : va_S (Ab base) H0 H locs) (z : H1.size = H.size) (oq : ∀ q : Nat, q ≠ a → H1[q]? = H[q]?) (ha : base ≤ a) : va_S (Ab base) H0 H1 (locs ++ [⟨a, k⟩]) := h.put z oq ha
theorem S_new {H0 H H1 : Heap} {locs : List Loc} (h : va_S (Ab base) H0 H locs) (z : H1.size = H.size + 1) (oq : ∀ q : Nat, q < H.size → H1[q]? = H[q]?) : va_S (Ab base) H0 H1 locs := ⟨by have := h.1; omega, fun q h1 h2 => (oq q (Nat.lt_of_lt_of_le h1 h.1)).trans (h.2.1 q h1 h2), h.2.2⟩
theorem fv_i {a t k kd : Nat} (e : fkd t k = kd) (h1 : ¬ kd = 1) (h2 : ¬ kd = 2) : fv h a t k = .int (g_i h a k) := by unfold fv; rw [e, if_neg h1, if_neg h2]
theorem fv_l {a t k : Nat} (e : fkd t k = 1) : fv h a t k = .long (g_l h a k) := by unfold fv; rw [e, if_pos rfl]
theorem fv_r {a t k : Nat} (e : fkd t k = 2) : fv h a t k = va_rf (g_r h a k) := by unfold fv; rw [e, if_neg (by decide), if_pos rfl]
/-- getfield -/
theorem sx_gf {tag k kd fin a : Nat} {v : Value} (hd : decode (tb_b Y) pc = .ok (.getfield idx, 3)) (hf : tF (tb_o Y * 65536 + idx) = some (tag, k, kd, fin)) (hidx : idx < 65536) (hc : g_c h a = tag) (hv : (if kd = 1 then .long (g_l h a k) else if kd = 2 then va_rf (g_r h a k) else .int (g_i h a k)) = v) (kk : SX l base D cA h0 Y (pc + 3) loc (v :: stk) h bc bs Q) : SX l base D cA h0 Y pc loc (.ref a :: stk) h bc bs Q := by
  intro p e R s m args below meth c H locs cells slots mc ms ls S h1 h2 hl hr hs
  have KK := kk p e R s m args below meth c H locs cells slots mc ms ls S h1 h2 hl hr hs
  obtain ⟨⟨hx, hb⟩, ⟨hml, hrt, hown, hts⟩, ⟨hlk, hin, hsf, hbs, hst⟩, -, -⟩ := S
  obtain ⟨x, hx9⟩ := tF_mem hf
  have hok := List.all_eq_true.mp okF_all _ hx9
  have e1 : (tb_o Y * 65536 + idx) / 65536 = tb_o Y := by omega
  have e2 : (tb_o Y * 65536 + idx) % 65536 = idx := by omega
  simp only [okF, e1, e2] at hok
  cases hcl : cls[tag - 1]? with
  | none => rw [hcl] at hok; cases hok
  | some r =>
    rw [hcl] at hok
    simp only [Bool.and_eq_true, Bool.or_eq_true, decide_eq_true_eq, Bool.false_eq_true, and_false, or_false] at hok
    obtain ⟨⟨c1, c2, c3, c4, c5⟩, c6, c7⟩ := hok
    obtain ⟨o1, o2, o3⟩ := okR_of hcl
    have hfv : fv h a tag k = v := by unfold fv; rw [c4]; exact hv
    by_cases ha : base ≤ a
    · obtain ⟨k1, -, -⟩ := hr.2.2.2.2.2.2 a ha (by omega)
      obtain ⟨r', g1, g2⟩ := k1 (by omega)
      rw [hc] at g1 g2
      cases g1.symm.trans hcl
      have hP : va_P D cls [(a, .inr (tag - 1, (List.range r.2.2).map (fv h a tag)))] H := by
        intro i q hq
        have : i = 0 := by have := (List.getElem?_eq_some_iff.mp hq).1; simpa using this
        subst this
        cases hq
        exact ⟨r, hcl, g2.to (fun j hj => by simp [vp_V, List.getD, hj])⟩
      have hvv : ((List.range r.2.2).map (fv h a tag))[k]? = some v := by simp [c3, hfv]
      rcases c7 with ⟨-, w1, w2⟩ | ⟨-, w1⟩
      · exact va_get (D := D) (cl := cls) (tys := tysW cA) (ws := [(a, .inr (tag - 1, (List.range r.2.2).map (fv h a tag)))]) (Ts := Wd) hx hb hts o1 hown hsf.1 hP 0 rfl hcl k c3 (hts _ (Wd_at _ w1 w2)) (fun _ z => z) hvv hd KK
      · exact va_getN (D := D) (cl := cls) (tys := tysW cA) (ws := [(a, .inr (tag - 1, (List.range r.2.2).map (fv h a tag)))]) (Ts := Wd) hx hb hts o1 hown hsf.1 hP 0 rfl hcl k c3 ((hsf.2.2.2.2.2.2.1 _ (lw_at_in w1) rfl).use rfl) (fun _ z => z) hvv hd KK
    · obtain ⟨b1, b2, b3, b4⟩ := hr.2.2.2.2.2.1 a (by omega)
      have hst0 := hsf.2.1 a (by omega) (by rw [← b1]; omega)
      rcases hst0 with ⟨t1, t2, ⟨v0, t3, t4⟩, t5⟩ | ⟨t1, -, -⟩ | ⟨t1, -, -⟩
      · have ht : tag = 11 := by rw [← hc, b1, t1]
        subst ht
        have hcl2 : r = ("java/lang/String", uT11, 2) := (Option.some.inj hcl).symm
        subst hcl2
        rcases c7 with ⟨-, w1, w2⟩ | ⟨w0, w1⟩
        · match k, c3, c4, c5, c6, w1, w2, hfv with
          | 0, c3, c4, c5, c6, w1, w2, hfv =>
            have : v = .ref v0 := by rw [← hfv, fv_r (by decide), b4, t3]; rfl
            subst this
            exact vk_getf hx hb t4 hs hown (hts _ (Wd_at _ w1 w2)) (fun _ z => z) hd KK
          | 1, c3, c4, c5, c6, w1, w2, hfv =>
            have : v = .int (g_i h0 a 1) := by rw [← hfv, fv_i (kd := 4) (by decide) (by decide) (by decide), b3]
            subst this
            exact vk_getf hx hb t5 hs hown (hts _ (Wd_at _ w1 w2)) (fun _ z => z) hd KK
          | k + 2, c3, c4, c5, c6, w1, w2, hfv => exact absurd c3 (by show ¬ k + 2 < 2; omega)
        · exfalso
          match k, c3, w0 with
          | 0, c3, w0 => exact absurd w0.2 (by decide)
          | 1, c3, w0 => exact absurd w0.2 (by decide)
          | k + 2, c3, w0 => exact absurd c3 (by show ¬ k + 2 < 2; omega)
      · omega
      · omega
end SXB

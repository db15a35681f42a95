/-! META: more room does no harm; what lies below the run's first address stays -/
theorem Kc_up {X X' : MX} (hX : ∀ Y pc loc stk h bc bs bc' bs' Q, bc ≤ bc' → bs ≤ bs' → X Y pc loc stk h bc bs Q → X' Y pc loc stk h bc' bs' Q) {Y pc pc' : Nat} {loc rest : List Value} {bc bs bc' bs' : Nat} {Q : MR → MH → Prop} (h1 : bc ≤ bc') (h2 : bs ≤ bs') (r : MR) (h : MH) (k : Kc X Y pc pc' loc rest bc bs Q r h) : Kc X' Y pc pc' loc rest bc' bs' Q r h := by
  cases r with
  | inl v => exact hX _ _ _ _ _ _ _ _ _ _ h1 h2 k
  | inr E =>
    simp only [Kc] at k ⊢
    by_cases hy : hhY Y = []
    · rw [if_pos hy] at k ⊢
      exact k
    · rw [if_neg hy] at k ⊢
      cases hp : hnd Y pc E with
      | none => simp only [hp] at k
      | some p => simp only [hp] at k ⊢; exact fun q => hX _ _ _ _ _ _ _ _ _ _ h1 h2 (k q)
def upX : MX := fun Y pc loc stk h bc bs Q => ∀ bc' bs' : Nat, bc ≤ bc' → bs ≤ bs' → Ok Y pc loc stk h bc' bs' Q
theorem Ok_le {Y pc : Nat} {loc stk : List Value} {h : MH} {bc bs : Nat} {Q : MR → MH → Prop} (k : Ok Y pc loc stk h bc bs Q) : ∀ bc' bs' : Nat, bc ≤ bc' → bs ≤ bs' → Ok Y pc loc stk h bc' bs' Q :=
  k upX (fun _ _ _ _ _ _ _ _ _ hQ k bc' bs' h1 h2 => Ok_mono _ _ _ _ _ _ _ _ _ hQ (k bc' bs' h1 h2))
    (fun Y pc loc stk h bc bs Q hF bc' bs' h1 h2 => by
      refine Ok_in ?_
      revert hF
      generalize step Y pc loc stk h = s
      intro hF
      obtain ⟨c, s⟩ := s
      obtain ⟨hc, k⟩ := hF
      refine ⟨hc, ?_⟩
      rcases s with ⟨k1, n, pc', loc', stk', h'⟩ | ⟨alts, loc', stk'⟩ | ⟨Z, mc, ms, args, pc', rest⟩ | v | E
      · exact ⟨Nat.le_trans k.1 h1, Nat.le_trans k.2.1 h2, k.2.2 _ _ (Nat.sub_le_sub_right h1 _) (Nat.sub_le_sub_right h2 _)⟩
      · exact fun q hq hq1 => k q hq hq1 _ _ h1 h2
      · refine ⟨Nat.le_trans k.1 h1, Nat.le_trans k.2.1 h2, k.2.2.1, k.2.2.2.1, ?_⟩
        exact Ok_mono _ _ _ _ _ _ _ _ _ (fun r m q => Kc_up (X := upX) (X' := Ok) (fun _ _ _ _ _ _ _ _ _ _ a b z => z _ _ a b) (Nat.sub_le_sub_right h1 _) (Nat.sub_le_sub_right h2 _) r m q) (k.2.2.2.2 mc ms (Nat.le_refl _) (Nat.le_refl _))
      · exact k
      · exact ⟨Nat.le_trans k.1 h1, Nat.le_trans k.2.1 h2, k.2.2⟩)
/-- below the run's first address all is as it was -/
def Lw (h m : MH) : Prop := g_z m = g_z h ∧ g_t h ≤ g_t m ∧ (∀ j, g_a m j = g_a h j) ∧ ∀ a, a < g_z h → (g_c m a = g_c h a ∧ g_n m a = g_n h a) ∧ (∀ k, g_i m a k = g_i h a k) ∧ (∀ k, g_l m a k = g_l h a k) ∧ ∀ k, g_r m a k = g_r h a k
theorem Lw_rfl {h : MH} : Lw h h := ⟨rfl, Nat.le_refl _, fun _ => rfl, fun _ _ => ⟨⟨rfl, rfl⟩, fun _ => rfl, fun _ => rfl, fun _ => rfl⟩⟩
theorem Lw_tr {h m q : MH} (f : Lw h m) (g : Lw m q) : Lw h q := by
  obtain ⟨f1, f2, f3, f4⟩ := f
  obtain ⟨g1, g2, g3, g4⟩ := g
  refine ⟨g1.trans f1, Nat.le_trans f2 g2, fun j => (g3 j).trans (f3 j), fun a ha => ?_⟩
  obtain ⟨⟨a1, a2⟩, a3, a4, a5⟩ := f4 a ha
  obtain ⟨⟨b1, b2⟩, b3, b4, b5⟩ := g4 a (by rw [f1]; exact ha)
  exact ⟨⟨b1.trans a1, b2.trans a2⟩, fun k => (b3 k).trans (a3 k), fun k => (b4 k).trans (a4 k), fun k => (b5 k).trans (a5 k)⟩
theorem Lw_pi {h : MH} {a k : Nat} {v : Int32} (ha : g_z h ≤ a) : Lw h (p_i h a k v) :=
  ⟨rfl, Nat.le_refl _, fun _ => rfl, fun b hb => ⟨⟨rfl, rfl⟩, fun j => by rw [mi_pi, if_neg (fun z => by omega)], fun _ => rfl, fun _ => rfl⟩⟩
theorem Lw_pl {h : MH} {a k : Nat} {v : Int64} (ha : g_z h ≤ a) : Lw h (p_l h a k v) :=
  ⟨rfl, Nat.le_refl _, fun _ => rfl, fun b hb => ⟨⟨rfl, rfl⟩, fun _ => rfl, fun j => by rw [ml_pl, if_neg (fun z => by omega)], fun _ => rfl⟩⟩
theorem Lw_pr {h : MH} {a k : Nat} {v : Option Nat} (ha : g_z h ≤ a) : Lw h (p_r h a k v) :=
  ⟨rfl, Nat.le_refl _, fun _ => rfl, fun b hb => ⟨⟨rfl, rfl⟩, fun _ => rfl, fun _ => rfl, fun j => by rw [mr_pr, if_neg (fun z => by omega)]⟩⟩
theorem Lw_pC {h : MH} {a : Nat} {f : Nat → Int32} (ha : g_z h ≤ a) : Lw h (p_C h a f) :=
  ⟨rfl, Nat.le_refl _, fun _ => rfl, fun b hb => ⟨⟨rfl, rfl⟩, fun j => by rw [mi_pC, if_neg (by omega)], fun _ => rfl, fun _ => rfl⟩⟩
theorem Lw_pN {h : MH} {t n : Nat} (hz : g_z h ≤ g_t h) : Lw h (p_N h t n) :=
  ⟨rfl, Nat.le_succ _, fun _ => rfl, fun b hb => ⟨⟨by rw [mc_pN, if_neg (by omega)], by rw [mn_pN, if_neg (by omega)]⟩, fun j => by rw [mi_pN, if_neg (by omega)], fun j => by rw [ml_pN, if_neg (by omega)], fun j => by rw [mr_pN, if_neg (by omega)]⟩⟩
theorem Lw_pT {h : MH} {t : Nat} (ht : g_t h ≤ t) : Lw h (p_T h t) :=
  ⟨rfl, ht, fun _ => rfl, fun _ _ => ⟨⟨rfl, rfl⟩, fun _ => rfl, fun _ => rfl, fun _ => rfl⟩⟩
def Lstp (h : MH) (s : SR) : Prop := s.1 → match s.2 with
  | .inl q => g_z h ≤ g_t h → Lw h q.2.2.2.2.2
  | .inr _ => True
theorem Lstp_no {h : MH} : Lstp h s_no := fun c => c.elim
theorem Lstp_nx {h : MH} {c : Prop} {pc : Nat} {loc stk : List Value} : Lstp h (s_nx c pc loc stk h) := fun _ _ => Lw_rfl
theorem Lstp_i {h : MH} {c : Prop} {pc a k : Nat} {v : Int32} {loc stk : List Value} (f : c → g_z h ≤ a) : Lstp h (s_nx c pc loc stk (p_i h a k v)) := fun z _ => Lw_pi (f z)
theorem Lstp_l {h : MH} {c : Prop} {pc a k : Nat} {v : Int64} {loc stk : List Value} (f : c → g_z h ≤ a) : Lstp h (s_nx c pc loc stk (p_l h a k v)) := fun z _ => Lw_pl (f z)
theorem Lstp_r {h : MH} {c : Prop} {pc a k : Nat} {v : Option Nat} {loc stk : List Value} (f : c → g_z h ≤ a) : Lstp h (s_nx c pc loc stk (p_r h a k v)) := fun z _ => Lw_pr (f z)
theorem Lstp_C {h : MH} {c : Prop} {pc a : Nat} {v : Nat → Int32} {loc stk : List Value} (f : c → g_z h ≤ a) : Lstp h (s_nx c pc loc stk (p_C h a v)) := fun z _ => Lw_pC (f z)
theorem Lstp_N {h : MH} {c : Prop} {pc n m t : Nat} {loc stk : List Value} : Lstp h (s_al c n pc loc stk (p_N h t m)) := fun _ hz => Lw_pN hz
theorem Lstp_NC {h : MH} {c : Prop} {pc n m t : Nat} {f : Nat → Int32} {loc stk : List Value} : Lstp h (s_al c n pc loc stk (p_C (p_N h t m) (g_t h) f)) := fun _ hz => Lw_tr (Lw_pN hz) (Lw_pC hz)
theorem Lstp_br {h : MH} {c : Prop} {x : List (Prop × Nat)} {loc stk : List Value} : Lstp h (s_br c x loc stk) := fun _ => trivial
theorem Lstp_ca {h : MH} {c : Prop} {Z mc ms pc : Nat} {as rest : List Value} : Lstp h (s_ca c Z mc ms as pc rest) := fun _ => trivial
theorem Lstp_re {h : MH} {c : Prop} {v : Option Value} : Lstp h (s_re c v) := fun _ => trivial
theorem Lstp_th {h : MH} {c : Prop} {E : Nat} : Lstp h (s_th c E) := fun _ => trivial
set_option maxHeartbeats 8000000 in
theorem Lstp_stp {Y pc len : Nat} {ins : Instr} {loc stk : List Value} {h : MH} : Lstp h (stp Y pc ins len loc stk h) := by
  cases ins <;> first
    | exact Lstp_no
    | (dsimp only [stp, s_bin, s_binL, s_shL, s_un, s_unL, s_ldI, s_ldL, s_ldA, s_stI, s_stL, s_stA, s_ldx, s_stx, s_inv, s_inv2, s_spe, s_spe2, s_nw, s_nw2, s_gf, s_gf2, s_pf, s_pf2, s_ret] <;> (try exact Lstp_no) <;> (repeat' split) <;> (first | exact Lstp_no | exact Lstp_nx | exact Lstp_br | exact Lstp_ca | exact Lstp_re | exact Lstp_th | exact Lstp_N | exact Lstp_NC | exact Lstp_i (fun c => c.2.2.1) | exact Lstp_l (fun c => c.2.2.1) | exact Lstp_r (fun c => c.2.2.1) | exact Lstp_C (fun c => c.2.2.2.2.2.1)))
theorem Lstp_step {Y pc : Nat} {loc stk : List Value} {h : MH} : Lstp h (step Y pc loc stk h) := by
  unfold step
  split
  · split
    · exact Lstp_stp
    · exact Lstp_no
  · exact Lstp_no
def lwX : MX := fun Y pc loc stk h bc bs Q => Ok Y pc loc stk h bc bs (fun r m => Q r m ∧ (g_z h ≤ g_t h → Lw h m))
theorem Ok_low {Y pc : Nat} {loc stk : List Value} {h : MH} {bc bs : Nat} {Q : MR → MH → Prop} (k : Ok Y pc loc stk h bc bs Q) : Ok Y pc loc stk h bc bs (fun r m => Q r m ∧ (g_z h ≤ g_t h → Lw h m)) :=
  k lwX (fun _ _ _ _ _ _ _ _ _ hQ k => Ok_mono _ _ _ _ _ _ _ _ _ (fun r m q => ⟨hQ r m q.1, q.2⟩) k)
    (fun Y pc loc stk h bc bs Q hF => by
      refine Ok_in ?_
      have sl := Lstp_step (Y := Y) (pc := pc) (loc := loc) (stk := stk) (h := h)
      revert hF sl
      generalize step Y pc loc stk h = s
      intro hF sl
      obtain ⟨c, s⟩ := s
      obtain ⟨hc, k⟩ := hF
      refine ⟨hc, ?_⟩
      replace sl := sl hc
      rcases s with ⟨k1, n, pc', loc', stk', h'⟩ | ⟨alts, loc', stk'⟩ | ⟨Z, mc, ms, args, pc', rest⟩ | v | E
      · refine ⟨k.1, k.2.1, Ok_mono _ _ _ _ _ _ _ _ _ (fun r m q => ⟨q.1, fun hz => ?_⟩) k.2.2⟩
        have s1 := sl hz
        exact Lw_tr s1 (q.2 (by rw [s1.1]; exact Nat.le_trans hz s1.2.1))
      · exact k
      · refine ⟨k.1, k.2.1, k.2.2.1, k.2.2.2.1, Ok_mono _ _ _ _ _ _ _ _ _ (fun r m q => ?_) k.2.2.2.2⟩
        obtain ⟨q1, q2⟩ := q
        have go : ∀ {pc : Nat} {loc stk : List Value} {bc bs : Nat}, lwX Y pc loc stk m bc bs Q → Ok Y pc loc stk m bc bs (fun r m => Q r m ∧ (g_z h ≤ g_t h → Lw h m)) := fun z => Ok_mono _ _ _ _ _ _ _ _ _ (fun r m2 q => ⟨q.1, fun hz => by
          have s1 := q2 hz
          exact Lw_tr s1 (q.2 (by rw [s1.1]; exact Nat.le_trans hz s1.2.1))⟩) z
        cases r with
        | inl v => exact go q1
        | inr E =>
          simp only [Kc] at q1 ⊢
          by_cases hy : hhY Y = []
          · rw [if_pos hy] at q1 ⊢
            exact ⟨q1, q2⟩
          · rw [if_neg hy] at q1 ⊢
            cases hp : hnd Y pc E with
            | none => simp only [hp] at q1
            | some p => simp only [hp] at q1 ⊢; exact fun q => go (q1 q)
      · exact ⟨k, fun _ => Lw_rfl⟩
      · exact ⟨k.1, k.2.1, fun t ht => ⟨k.2.2 t ht, fun _ => Lw_pT ht⟩⟩)

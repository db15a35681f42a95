/-! contracts out of the small machine; calls -/
def okZ (Z : Nat) : Bool := decide (Z < NM ∧ Z ≠ LAW ∧ (tb_y Z).cls = cn (tb_o Z) ∧ plainName (tb_y Z).cls = true ∧ (tb_i Z = 1 → (tb_y Z).name = "<init>") ∧ (tb_y Z).cls ≠ "java/lang/invoke/MethodHandle" ∧ (tb_y Z).cls ≠ "java/lang/invoke/VarHandle" ∧ tb_m Z ≤ 21 ∧ 11 ≤ tb_d Z)
theorem cwd_in {Z : Nat} (h : okZ Z = true) : cwd Z ∈ Wd := by
  simp only [okZ, decide_eq_true_eq] at h
  refine Wd_mem (cw_of h.1 h.2.1) ?_
  unfold cwd
  by_cases hh : hhY Z = []
  · rw [if_pos hh]; rfl
  · rw [if_neg hh]; rfl
def wsZ (Z : Nat) : List Cond := cwd Z :: Wd
def rmZ (Z mc ms : Nat) : Room := { frames := tb_d Z, cells := mc, slots := ms, locals := 40 * tb_d Z }
theorem wsZ_in {Z : Nat} (h : okZ Z = true) : ∀ w ∈ wsZ Z, w ∈ Wd := by
  intro w hw
  rcases List.mem_cons.mp hw with z | z
  · rw [z]; exact cwd_in h
  · exact z
theorem wsZ_0 {Z : Nat} (hh : hhY Z = []) : wsZ Z = Cond.code (tb_y Z) (tb_b Z) (tb_m Z) (tb_r Z) :: Wd := by unfold wsZ cwd; rw [if_pos hh]
theorem wsZ_1 {Z : Nat} (hh : ¬ hhY Z = []) : wsZ Z = Cond.codeWith (tb_y Z) (tb_b Z) (tb_m Z) (tb_r Z) (hhY Z) :: Wd := by unfold wsZ cwd; rw [if_neg hh]
def PcO (base : Nat) (D : va_G) (cA : Nat → ClassId) (h0 : MH) (as : List Value) (h : MH) : Array Value → State → Prop := fun v U => v = as.toArray ∧ Rel base D cA h0 h U.heap ∧ SF base D cA h0 U U.heap ∧ base ≤ U.heap.size
section SXG
variable {l : Launch} {base : Nat} {D : va_G} {cA : Nat → ClassId} {h0 : MH}
theorem PcO_blind {as : List Value} {h : MH} : FrameBlind (PcO base D cA h0 as h) := fun _ U _ _ q => ⟨q.1, q.2.1, q.2.2.1.go (State.WarmedH.refl U) (fun _ _ _ => rfl), q.2.2.2⟩
theorem SX_met {Z : Nat} {as : List Value} {h : MH} {mc ms : Nat} {Q1 : MR → MH → Prop} (hst : l.stackTraces = false) (hz : okZ Z = true) (hm : (ent as).length ≤ tb_m Z) (k : SX l base D cA h0 Z 0 (entN (tb_m Z) as) [] h mc ms Q1) :
    vx_Met l (tb_y Z) (wsZ Z) (rmZ Z mc ms) (PcO base D cA h0 as h) (QcO base D cA h0 Q1) (XcO base D cA h0 Q1) mc ms (Ab base) := by
  have hz2 := hz
  simp only [okZ, decide_eq_true_eq] at hz2
  obtain ⟨-, -, z1, z2, z3, z4, z5, z6, z7⟩ := hz2
  have body : ∀ p e s m args below meth c s₁, BodyLoose p l (tb_y Z) (headSpec (wsZ Z) (rmZ Z mc ms)) (tb_b Z) (tb_m Z) (tb_r Z) e s m args below meth c s₁ → c.maxLocals = tb_m Z → c.exceptionTable.toList = tableOf (hhY Z) → PcO base D cA h0 as h args s →
      W p l e (headSpec (wsZ Z) (rmZ Z mc ms)).room s m args below meth c s.heap [] 0 0 (vx_MQ below (QcO base D cA h0 Q1) (XcO base D cA h0 Q1) args s mc ms (Ab base)) (entryFrame m args (tb_m Z)) := by
    intro p e s m args below meth c s₁ B hml htab hp
    obtain ⟨rfl, hr, hsf, hbs⟩ := hp
    have hts := atoms_spec (ws := wsZ Z) B.pre
    rw [lg_entry_eq]
    exact k p e _ s m _ below meth c s.heap [] 0 0 mc ms _ ⟨⟨B.exec, B.bytes⟩, ⟨hml, B.returns, by rw [← z1]; exact findClass_of_methodNamed B.named, fun w hw => hts w (List.mem_cons_of_mem _ hw)⟩, ⟨B.notSynchronized, fun hi => ((name_of_methodNamed B.named B.method).1).trans (z3 hi), hsf, hbs, hst⟩, ⟨Nat.le_refl _, Nat.le_refl _, Nat.le_refl _, Nat.le_refl _⟩, z7, htab⟩ (by omega) (by omega) (RL_entry hm) hr va_S.rf
  by_cases hh : hhY Z = []
  · refine vx_ofW z2 (wsZ_0 hh) (fun p e s m args below meth c s₁ B hml hex hp => body p e s m args below meth c s₁ B hml ?_ hp)
    rw [hh]
    exact List.eq_nil_iff_forall_not_mem.mpr (fun x hx => hex x hx)
  · refine vx_ofWH z2 (wsZ_1 hh) (fun p e s m args below meth c s₁ B hml hp => body p e s m args below meth c s₁ B hml ?_ hp)
    have hts := atoms_spec (ws := wsZ Z) B.pre
    exact vx_table (x := tb_y Z) B (hts _ (by rw [wsZ_1 hh]; exact List.mem_cons_self))
variable {p : Program} {e : Env} {R : Room} {s : State} {m : MethodId} {args : Array Value} {below : List Frame} {meth : Method} {c : Code} {H : Heap} {locs : List Loc} {cells slots : Nat}
theorem run_go {mcZ msZ pc : Nat} {ls : Array Slot} {stk rest : List Value} {G : State → Prop} {a : Array Value} {Q1 : MR → MH → Prop} (hr : vx_Run p l e R s m args below meth c H locs cells slots mcZ msZ (F0 m pc ls stk) rest (QcO base D cA h0 Q1 a) (XcO base D cA h0 Q1) (Ab base)) (hS : va_S (Ab base) s.heap H locs)
    (kx : ∀ (En : Nat) (h' : MH) (ce : Cell) (q : Nat) (H1 : Heap) (locs1 : List Loc), Q1 (.inr En) h' → Rel base D cA h0 h' H1 → va_S (Ab base) s.heap H1 locs1 → H1[q]? = some ce → ce.vm = .none → s.vm.findClass (exN En) = some ce.cls → vx_W p l e R s m args below meth c H1 locs1 (cells + mcZ) (slots + msZ) G (F0 m pc ls rest) q)
    (kk : ∀ (v : Option Value) (h' : MH) (H1 : Heap) (locs1 : List Loc), Q1 (.inl v) h' → Rel base D cA h0 h' H1 → va_S (Ab base) s.heap H1 locs1 → W p l e R s m args below meth c H1 locs1 (cells + mcZ) (slots + msZ) G (F0 m (pc + 3) ls (v.toList ++ rest))) : W p l e R s m args below meth c H locs cells slots G (F0 m pc ls stk) := by
  intro T hT X
  rcases hr T hT X with ⟨v, st₀, t, T', L, g0, X', hL, e1, e2, hq, st⟩ | ⟨q, st₀, t, T', L, E, ce, g0, X', hL, e1, e2, hx, hce, hcv, hcl, st⟩
  · obtain ⟨v', h', hv, hQ, hR, hF⟩ := hq
    cases hv
    obtain ⟨k1, k2, k3⟩ := vx_keep (A1 := Ab base) (free := Ab base) g0 e1 hS (fun _ _ z => z) (fun _ z => z) hL hF
    obtain ⟨t2, a1, b1⟩ := kk v h' T'.heap (locs ++ L) hQ (by rw [e1]; exact hR) k3 T' rfl X'
    exact ⟨t2, st t2 a1, b1⟩
  · obtain ⟨En, h', hE, hQ, hR, hF⟩ := hx
    subst hE
    obtain ⟨k1, k2, k3⟩ := vx_keep (A1 := Ab base) (free := Ab base) g0 e1 hS (fun _ _ z => z) (fun _ z => z) hL hF
    obtain ⟨t2, a1, b1⟩ := kx En h' ce q T'.heap (locs ++ L) hQ (by rw [e1]; exact hR) k3 (by rw [e1]; exact hce) hcv hcl T' rfl X'
    exact ⟨t2, st.trans a1, b1⟩
end SXG

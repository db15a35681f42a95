/-! META: what a method gives is of its kind -/
def retOk (Y : Nat) (r : MR) : Prop := ∀ v : Int32, r = .inl (some (.int v)) → kok (rkd (tb_r Y)) v
def Rstp (Y : Nat) (s : SR) : Prop := s.1 → ∀ v : Int32, s.2 = .inr (.inr (.inr (.inl (some (.int v))))) → kok (rkd (tb_r Y)) v
section
variable {Y n pc Z mc ms E x : Nat} {c : Prop} {loc stk as rest : List Value} {h : MH} {al : List (Prop × Nat)} {y : Int64} {v : Int32}
theorem Rstp_no : Rstp Y s_no := fun c => c.elim
theorem Rstp_nx : Rstp Y (s_nx c pc loc stk h) := fun _ _ e => by simp [s_nx] at e
theorem Rstp_al : Rstp Y (s_al c n pc loc stk h) := fun _ _ e => by simp [s_al] at e
theorem Rstp_br : Rstp Y (s_br c al loc stk) := fun _ _ e => by simp [s_br] at e
theorem Rstp_ca : Rstp Y (s_ca c Z mc ms as pc rest) := fun _ _ e => by simp [s_ca] at e
theorem Rstp_th : Rstp Y (s_th c E) := fun _ _ e => by simp [s_th] at e
theorem Rstp_r0 : Rstp Y (s_re c none) := fun _ _ e => by simp [s_re] at e
theorem Rstp_rl : Rstp Y (s_re c (some (.long y))) := fun _ _ e => by simp [s_re] at e
theorem Rstp_rr : Rstp Y (s_re c (some (.ref x))) := fun _ _ e => by simp [s_re] at e
theorem Rstp_rn : Rstp Y (s_re c (some .null)) := fun _ _ e => by simp [s_re] at e
theorem Rstp_ri (f : c → kok (rkd (tb_r Y)) v) : Rstp Y (s_re c (some (.int v))) := fun z w e => by
  simp [s_re] at e
  subst e
  exact f z
set_option maxHeartbeats 8000000 in
theorem Rstp_stp {ins : Instr} {len : Nat} : Rstp Y (stp Y pc ins len loc stk h) := by
  cases ins <;> dsimp only [stp, s_bin, s_binL, s_shL, s_un, s_unL, s_ldI, s_ldL, s_ldA, s_stI, s_stL, s_stA, s_ldx, s_stx, s_inv, s_inv2, s_spe, s_spe2, s_nw, s_nw2, s_gf, s_gf2, s_pf, s_pf2, s_ret] <;> (try exact Rstp_no) <;> (repeat' split) <;>
    first | exact Rstp_no | exact Rstp_nx | exact Rstp_br | exact Rstp_ca | exact Rstp_th | exact Rstp_al | exact Rstp_r0 | exact Rstp_rl | exact Rstp_rr | exact Rstp_rn | exact Rstp_ri (fun c => c.2.2.2.2)
theorem Rstp_step : Rstp Y (step Y pc loc stk h) := by
  unfold step
  split
  · split
    · exact Rstp_stp
    · exact Rstp_no
  · exact Rstp_no
end
def koX : MX := fun Y pc loc stk h bc bs Q => Ok Y pc loc stk h bc bs (fun r m => Q r m ∧ retOk Y r)
theorem Ok_kok {Y pc : Nat} {loc stk : List Value} {h : MH} {bc bs : Nat} {Q : MR → MH → Prop} (k : Ok Y pc loc stk h bc bs Q) : Ok Y pc loc stk h bc bs (fun r m => Q r m ∧ retOk Y r) :=
  k koX (fun _ _ _ _ _ _ _ _ _ hQ k => Ok_mono _ _ _ _ _ _ _ _ _ (fun r m q => ⟨hQ r m q.1, q.2⟩) k)
    (fun Y pc loc stk h bc bs Q hF => by
      refine Ok_in ?_
      have sl := Rstp_step (Y := Y) (pc := pc) (loc := loc) (stk := stk) (h := h)
      revert hF sl
      generalize step Y pc loc stk h = s
      intro hF sl
      obtain ⟨c, s⟩ := s
      obtain ⟨hc, k⟩ := hF
      refine ⟨hc, ?_⟩
      replace sl := sl hc
      rcases s with ⟨k1, n, pc', loc', stk', h'⟩ | ⟨alts, loc', stk'⟩ | ⟨Z, mc, ms, args, pc', rest⟩ | v | E
      · exact k
      · exact k
      · refine ⟨k.1, k.2.1, k.2.2.1, k.2.2.2.1, Ok_mono _ _ _ _ _ _ _ _ _ (fun r m q => ?_) k.2.2.2.2⟩
        obtain ⟨q1, -⟩ := q
        cases r with
        | inl v => exact q1
        | inr E =>
          simp only [Kc] at q1 ⊢
          by_cases hy : hhY Y = []
          · rw [if_pos hy] at q1 ⊢
            exact ⟨q1, fun v e => by cases e⟩
          · rw [if_neg hy] at q1 ⊢
            cases hp : hnd Y pc E with
            | none => simp only [hp] at q1
            | some p => simp only [hp] at q1 ⊢; exact q1
      · exact ⟨k, fun w e => sl w (by have e2 := Sum.inl.inj e; subst e2; rfl)⟩
      · exact ⟨k.1, k.2.1, fun t ht => ⟨k.2.2 t ht, fun w e => by cases e⟩⟩)
theorem bo_0 : ((0 : Int32).toInt64 = (0 : Int64)) = True := eq_true rfl
theorem bo_1 : ((1 : Int32).toInt64 = (1 : Int64)) = True := eq_true rfl

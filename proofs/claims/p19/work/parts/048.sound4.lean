section SXC
variable {l : Launch} {base : Nat} {D : va_G} {cA : Nat → ClassId} {h0 : MH}
variable {Y pc idx : Nat} {loc stk : List Value} {h h' : MH} {bc bs : Nat} {Q : MR → MH → Prop}
/-- putfield: a value that fits, the memory behind it told -/
theorem sx_pf {tag k kd fin a : Nat} {v : Value} (hd : decode (tb_b Y) pc = .ok (.putfield idx, 3)) (hf : tF (tb_o Y * 65536 + idx) = some (tag, k, kd, fin)) (hidx : idx < 65536) (hc : g_c h a = tag) (hz : g_z h ≤ a) (hi : fin = 1 → okI Y tag k)
    (hfin : ∀ t, tyk kd (some t) = true → narrow t v = v ∧ fits t v = true) (hs' : sameB a h h') (hv : fv h' a tag k = v) (ho : ∀ j, j ≠ k → fv h' a tag j = fv h a tag j)
    (kk : SX l base D cA h0 Y (pc + 3) loc stk h' bc bs Q) : SX l base D cA h0 Y pc loc (v :: .ref a :: stk) h bc bs Q := by
  intro p e R s m args below meth c H locs cells slots mc ms ls S h1 h2 hl hr hs
  have KK := kk p e R s m args below meth c
  have S0 := S
  obtain ⟨⟨hx, hb⟩, ⟨hml, hrt, hown, hts⟩, ⟨hlk, hin, hsf, hbs, hst⟩, -, -⟩ := S
  obtain ⟨x, hx9⟩ := tF_mem hf
  have hok := List.all_eq_true.mp okF_all _ hx9
  have e1 : (tb_o Y * 65536 + idx) / 65536 = tb_o Y := by omega
  have e2 : (tb_o Y * 65536 + idx) % 65536 = idx := by omega
  simp only [okF, e1, e2] at hok
  cases hcl : cls[tag - 1]? with
  | none => rw [hcl] at hok; cases hok
  | some r =>
    rw [hcl] at hok
    simp only [Bool.and_eq_true, Bool.or_eq_true, decide_eq_true_eq, Bool.false_eq_true, and_false, or_false] at hok
    obtain ⟨⟨c1, c2, c3, c4, c5⟩, c6, c7⟩ := hok
    obtain ⟨o1, o2, o3⟩ := okR_of hcl
    have ha : base ≤ a := by rw [← hr.2.1]; exact hz
    obtain ⟨k1, -, -⟩ := hr.2.2.2.2.2.2 a ha (by omega)
    obtain ⟨r', g1, cell, q1, q2, q3, q4⟩ := k1 (by omega)
    rw [hc] at g1 q2 q4
    cases g1.symm.trans hcl
    have hap := va_apart (own := cn (tb_o Y)) (tys := tysW cA) (D := D) hts o1 (fun k => (parseFieldDescriptor (r.2.1 k).2.2.1).getD .int) o2 o3 hsf.1 hcl
    obtain ⟨hS, hfc, kC, hkC, hkind⟩ := hsf.1.1 _ r hcl
    obtain ⟨cf, kf, fi, f, hfi, hsl⟩ := hS k c3
    have hlay := hts _ (o1 _ (u_in_lay c3))
    have hst9 := (u_facts hfc hkC (u_lays hts o1 c3) hfi).1
    have hd9 := o2 k c3
    have hnf := hfin ((parseFieldDescriptor (r.2.1 k).2.2.1).getD .int) (by rw [← hd9]; exact c6)
    unfold u_lay at hlay
    have fin9 : ∀ (H' : Heap), H'[a]? = some (cell.setSlot f.slot v) → H'.size = H.size → (∀ q, q ≠ a → H'[q]? = H[q]?) →
        W p l e R s m args below meth c H' (locs ++ [⟨a, f.slot⟩]) cells slots (vx_MQ below (QcO base D cA h0 Q) (XcO base D cA h0 Q) args s mc ms (Ab base)) (F0 m (pc + 3) ls stk) := by
      intro H' a1 a2 a3
      refine KK H' _ cells slots mc ms ls S0 h1 h2 hl (hr.put ha a2 a3 hs' ?_) (S_put hs a2 a3 ha)
      have hc' : g_c h' a = tag := by rw [(hs'.2.2.2.1 a).1]; exact hc
      refine ⟨fun _ => ?_, fun z => absurd (by omega) z, fun z => by omega⟩
      rw [hc']
      refine ⟨r, hcl, cell.setSlot f.slot v, a1, q2, q3, fun j hj => ?_⟩
      rw [hsl]
      have := t_set q4 hap c3 v j hj
      rw [this]
      by_cases hjk : j = k
      · subst hjk
        simp [updV, hv]
      · simp [updV, hjk, ho j hjk]
    by_cases hfb : (r.2.1 k).2.2.2 = true
    · rw [if_pos hfb] at hlay
      rcases c7 with ⟨-, w1, w2⟩ | ⟨w0, w1⟩
      · have hlink := hts _ (Wd_at _ w1 w2)
        have hcf : m.cls = cf := by
          obtain ⟨_, _, c', _, _, _, -, -, hf', -, -, -, hown2, -⟩ := Cond.laysFinal_spec hlay
          have e1 : c' = cf := by have := hfi.symm.trans hf'; simp at this; exact this.1.symm
          have hdecl : (r.2.1 k).1 = cn (tb_o Y) := by
            have z := (hi (c5.mp hfb)).2
            rw [hcl] at z
            exact Option.some.inj z
          rw [hdecl] at hown2
          rw [← e1]; exact Option.some.inj (hown.symm.trans hown2)
        have h6 := u_fits hfc hkC hkind (Or.inr hlay) hfi hd9 hnf.1 hnf.2
        exact W.putFinK hx hb hown hlink hfi hst9 hcf (hin (hi (c5.mp hfb)).1) (by rw [q2]; exact h6) q1 q3 (by rw [hsl]; exact k2_hasslot (q4 k c3)) rfl rfl hd fin9
      · exact absurd w0.2 (by rw [hfb]; decide)
    · rw [if_neg hfb] at hlay
      have h6 := u_store hfc hkC hkind hlay hfi hd9 hnf.1 hnf.2
      rcases c7 with ⟨-, w1, w2⟩ | ⟨w0, w1⟩
      · exact W.putK hx hb (f := f) ⟨hown, hts _ (Wd_at _ w1 w2), ⟨_, _, _, hfi⟩, hst9⟩ (by rw [q2]; exact h6) q1 q3 (by rw [hsl]; exact k2_hasslot (q4 k c3)) rfl rfl hd fin9
      · exact va_WputK hx hb (f := f) hown ((hsf.2.2.2.2.2.2.1 _ (lw_at_in w1) rfl).use rfl) hfi hst9 (by rw [q2]; exact h6) q1 q3 (by rw [hsl]; exact k2_hasslot (q4 k c3)) rfl rfl hd fin9
end SXC

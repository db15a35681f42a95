theorem p_i_self (h : MH) (a k : Nat) : p_i h a k (g_i h a k) = h := by
  obtain ⟨h1, h2, h3, h4, h5, h6⟩ := h
  simp only [p_i, g_i]
  congr
  funext b j
  by_cases hb : b = a ∧ j = k
  · rw [if_pos hb, hb.1, hb.2]
  · rw [if_neg hb]
theorem c_setPlace {h : MH} {w : Nat} {x : Int32} {Q : MR → MH → Prop} (hc : g_c h w = 4) (hz : g_z h ≤ w) : Ok 38 0 [.ref w, .int x] [] h 0 0 Q ↔ Q (.inl none) (p_i (p_i h w 4 x) w 6 (if g_i h w 6 ≤ x then g_i h w 6 else -1)) := by
  have e := p_i_self (p_i h w 4 x) w 6
  simp only [i_pi, Nat.reduceEqDiff, and_false, if_false] at e
  by_cases h1 : g_i h w 6 ≤ x <;> simp only [o38_0, o38_1, o38_2, o38_5, o38_6, o38_9, o38_10, o38_13, o38_14, o38_15, o38_18, kok_0, true_and, and_true, c_pi, c_pl, c_pr, c_pN, c_pT, c_pC, n_pi, n_pl, n_pr, n_pN, n_pT, n_pC, i_pi, i_pl, i_pr, i_pN, i_pT, i_pC, l_pi, l_pl, l_pr, l_pN, l_pT, l_pC, r_pi, r_pl, r_pr, r_pN, r_pT, r_pC, t_pi, t_pl, t_pr, t_pN, t_pT, t_pC, z_pi, z_pl, z_pr, z_pN, z_pT, z_pC, a_pi, a_pl, a_pr, a_pN, a_pT, a_pC, csum_0, csum_i, csum_l, csum_r, csum_n, Kn_v, Kn_0, Kn_x, Nat.zero_le, true_implies, forall_const, hc, hz, h1, e, Nat.reduceEqDiff, and_false, if_false, not_true_eq_false, not_false_eq_true, false_implies, if_true]

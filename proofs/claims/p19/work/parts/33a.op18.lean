/-! pass, the op -/
theorem cT_pL {h : MH} {q w r a : Nat} {f : Nat → Int64} : cT (p_L h a f) q w r = cT h q w r := id rfl
theorem mT_pL {h : MH} {q k w r a : Nat} {f : Nat → Int64} : mT (p_L h a f) q k w r = mT h q k w r := id rfl
theorem d_nz {d : Nat} (h : d < 100) (z : ¬ Int32.ofNat d = 0) : ¬ d = 0 := fun e => z (by rw [e]; rfl)
theorem d_z {d : Nat} (h : d < 100) (z : Int32.ofNat d = 0) : d = 0 := by
  have := congrArg Int32.toNatClampNeg z
  rw [n_cl (by omega)] at this
  exact this
theorem cT0_mWo1 {A : Nat → Nat} {h : MH} {t : QT} (hA : inj40 A) : cT (mW (h) (A 27) 1 (A 32) (A 35) t) (A 5) (A 8) (A 9) = cT h (A 5) (A 8) (A 9) := by
  simp only [mW]; repeat rw [cT0_pi hA (by decide)]
theorem pal01 {A : Nat → Nat} {M : Nat} (hM : M < 100) : ∀ (d n : Nat) (t u : QT) (rc rm : Nat → Int64), n + d = M → t ∈ QS0 → u ∈ QS1 → lyF t = Int32.ofNat d → (∀ k, k < 16 → rc k = rm k) →
    ∃ (N : Nat) (t2 u2 : QT) (rc2 rm2 : Nat → Int64), t2 ∈ QS0 ∧ u2 ∈ QS1 ∧ (∀ k, k < 16 → rc2 k = rm2 k) ∧
      (∀ (h : MH) (Q : MR → MH → Prop), K A h → Cn A h → (Ok 73 37 [.ref (A 0), .int 0, .int 1, .ref (A 5), .ref (A 6), .int (Int32.ofNat M), .int (Int32.ofNat n)] [] (cW (cW (p_L h (A 3) (rc)) (A 5) (A 8) (A 9) t) (A 6) (A 10) (A 11) u) 1 6 Q ↔ Ok 73 67 [.ref (A 0), .int 0, .int 1, .ref (A 5), .ref (A 6), .int (Int32.ofNat M), .int (Int32.ofNat N)] [] (cW (cW (p_L h (A 3) (rc2)) (A 5) (A 8) (A 9) t2) (A 6) (A 10) (A 11) u2) 1 6 Q)) ∧ (∀ (m : MH) (Q : MR → MH → Prop), K A m → Cn A m → (Ok 197 40 [.ref (A 22), .int 0, .int 1, .int (Int32.ofNat n)] [] (mW (mW (p_L m (A 23) (rm)) (A 27) 0 (A 31) (A 34) t) (A 27) 1 (A 32) (A 35) u) 0 0 Q ↔ Ok 197 80 [.ref (A 22), .int 0, .int 1, .int (Int32.ofNat N)] [] (mW (mW (p_L m (A 23) (rm2)) (A 27) 0 (A 31) (A 34) t2) (A 27) 1 (A 32) (A 35) u2) 0 0 Q))
  | d, n, t, u, rc, rm, hd, m1, m2, hl, hr => by
    by_cases e2 : u.2.1 - u.1 = 0
    · exact ⟨n, t, u, rc, rm, m1, m2, hr, fun h Q vk vcn => pce01 vk vcn m1 m2 (Or.inr e2), fun m Q vk vcn => pme01 vk vcn m1 m2 (Or.inr e2)⟩
    by_cases e1 : t.2.2.2.2.1 - t.2.2.2.1 = 0
    · have z := ((qN_0 _ m1).1 e1).1
      rw [hl] at z
      have z2 := d_z (by omega) z
      have hn : (Int32.ofNat n < Int32.ofNat M) = False := by rw [n_lt (by omega) (by omega)]; exact eq_false (by omega)
      exact ⟨n, t, u, rc, rm, m1, m2, hr, fun h Q vk vcn => pce01 vk vcn m1 m2 (Or.inl hn), fun m Q vk vcn => pme01 vk vcn m1 m2 (Or.inl e1)⟩
    have z := (qN_0 _ m1).2.1 e1
    obtain ⟨-, z1, z2⟩ := z
    rw [hl] at z1 z2
    have z3 := d_nz (by omega) z2
    obtain ⟨i1, i2, hj, hq1⟩ := (qO_0 _ m1).resolve_left e1
    obtain ⟨i3, i4, hk, hq2⟩ := (qI_1 _ m2).resolve_left e2
    have hn : (Int32.ofNat n < Int32.ofNat M) = True := by rw [n_lt (by omega) (by omega)]; exact eq_true (by omega)
    have z4 : Int32.ofNat d - 1 = Int32.ofNat (d - 1) := n_sub (a := d) (b := 1) (by omega) (by omega)
    obtain ⟨N, t2, u2, rc2, rm2, a1, a2, a3, a4, a5⟩ := pal01 hM (d - 1) (n + 1) (seF 1 5 (goF t)) (seF 1 3 (ciF u)) (fun x => if x = (6 + u.1).toNatClampNeg then rc (1 + t.2.2.2.1).toNatClampNeg else rc x) (fun x => if x = (6 + u.1).toNatClampNeg then rm (1 + t.2.2.2.1).toNatClampNeg else rm x) (by omega) hq1 hq2 (z1.trans z4) (fun k hk2 => by
      show (if _ then _ else _) = (if _ then _ else _)
      by_cases c : k = (6 + u.1).toNatClampNeg
      · rw [if_pos c, if_pos c]; exact hr _ (rdy_lt hj)
      · rw [if_neg c, if_neg c]; exact hr k hk2)
    exact ⟨N, t2, u2, rc2, rm2, a1, a2, a3, fun h Q vk vcn => (pcs01 vk vcn m1 m2 e1 e2 hn).trans (a4 h Q vk vcn), fun m Q vk vcn => (pms01 vk vcn m1 m2 e1 e2).trans (a5 m Q vk vcn)⟩
termination_by d => d
decreasing_by omega

theorem pas01 {A : Nat → Nat} {h : MH} (vk : K A h) (vcn : Cn A h) (m1 : cT h (A 5) (A 8) (A 9) ∈ QS0) (m2 : cT h (A 6) (A 10) (A 11) ∈ QS1) (vlr : Vlr A h) : ∃ (N : Nat) (t2 u2 : QT) (rc2 rm2 : Nat → Int64), t2 ∈ QS0 ∧ u2 ∈ QS1 ∧ (∀ k, k < 16 → rc2 k = rm2 k) ∧
    (∀ Q : MR → MH → Prop, Ok 73 37 [.ref (A 0), .int 0, .int 1, .ref (A 5), .ref (A 6), .int (lyF (cT h (A 5) (A 8) (A 9))), .int 0] [] (h) 1 6 Q ↔ Ok 73 67 [.ref (A 0), .int 0, .int 1, .ref (A 5), .ref (A 6), .int (lyF (cT h (A 5) (A 8) (A 9))), .int (Int32.ofNat N)] [] (cW (cW (p_L h (A 3) (rc2)) (A 5) (A 8) (A 9) t2) (A 6) (A 10) (A 11) u2) 1 6 Q) ∧ (∀ (m : MH) (Q : MR → MH → Prop), K A m → Cn A m → mT m (A 27) 0 (A 31) (A 34) = cT h (A 5) (A 8) (A 9) → mT m (A 27) 1 (A 32) (A 35) = cT h (A 6) (A 10) (A 11) → (∀ k, g_l m (A 23) k = g_l h (A 23) k) → (Ok 197 40 [.ref (A 22), .int 0, .int 1, .int 0] [] (m) 0 0 Q ↔ Ok 197 80 [.ref (A 22), .int 0, .int 1, .int (Int32.ofNat N)] [] (mW (mW (p_L m (A 23) (rm2)) (A 27) 0 (A 31) (A 34) t2) (A 27) 1 (A 32) (A 35) u2) 0 0 Q)) := by
  have hl := (qN_0 _ m1).2.2.1
  have hM := (qN_0 _ m1).2.2.2.1
  obtain ⟨N, t2, u2, rc2, rm2, a1, a2, a3, a4, a5⟩ := pal01 (A := A) (M := (lyF (cT h (A 5) (A 8) (A 9))).toNatClampNeg) (by omega) (lyF (cT h (A 5) (A 8) (A 9))).toNatClampNeg 0 (cT h (A 5) (A 8) (A 9)) (cT h (A 6) (A 10) (A 11)) (fun k => g_l h (A 3) k) (fun k => g_l h (A 23) k) (by omega) m1 m2 hl vlr
  rw [← hl] at a4
  refine ⟨N, t2, u2, rc2, rm2, a1, a2, a3, fun Q => ?_, fun m Q k1 k2 k3 k4 k5 => ?_⟩
  · have z := a4 h Q vk vcn
    rw [pL_self, cW_self, cW_self] at z
    exact z
  · have z := a5 m Q k1 k2
    rw [show (fun k => g_l h (A 23) k) = (fun k => g_l m (A 23) k) from funext fun k => (k5 k).symm, pL_self, ← k3, mW_self, ← k4, mW_self] at z
    exact z

theorem cT0_mWo2 {A : Nat → Nat} {h : MH} {t : QT} (hA : inj40 A) : cT (mW (h) (A 27) 2 (A 33) (A 36) t) (A 5) (A 8) (A 9) = cT h (A 5) (A 8) (A 9) := by
  simp only [mW]; repeat rw [cT0_pi hA (by decide)]
theorem pal02 {A : Nat → Nat} {M : Nat} (hM : M < 100) : ∀ (d n : Nat) (t u : QT) (rc rm : Nat → Int64), n + d = M → t ∈ QS0 → u ∈ QS2 → lyF t = Int32.ofNat d → (∀ k, k < 16 → rc k = rm k) →
    ∃ (N : Nat) (t2 u2 : QT) (rc2 rm2 : Nat → Int64), t2 ∈ QS0 ∧ u2 ∈ QS2 ∧ (∀ k, k < 16 → rc2 k = rm2 k) ∧
      (∀ (h : MH) (Q : MR → MH → Prop), K A h → Cn A h → (Ok 73 37 [.ref (A 0), .int 0, .int 2, .ref (A 5), .ref (A 7), .int (Int32.ofNat M), .int (Int32.ofNat n)] [] (cW (cW (p_L h (A 3) (rc)) (A 5) (A 8) (A 9) t) (A 7) (A 12) (A 13) u) 1 6 Q ↔ Ok 73 67 [.ref (A 0), .int 0, .int 2, .ref (A 5), .ref (A 7), .int (Int32.ofNat M), .int (Int32.ofNat N)] [] (cW (cW (p_L h (A 3) (rc2)) (A 5) (A 8) (A 9) t2) (A 7) (A 12) (A 13) u2) 1 6 Q)) ∧ (∀ (m : MH) (Q : MR → MH → Prop), K A m → Cn A m → (Ok 197 40 [.ref (A 22), .int 0, .int 2, .int (Int32.ofNat n)] [] (mW (mW (p_L m (A 23) (rm)) (A 27) 0 (A 31) (A 34) t) (A 27) 2 (A 33) (A 36) u) 0 0 Q ↔ Ok 197 80 [.ref (A 22), .int 0, .int 2, .int (Int32.ofNat N)] [] (mW (mW (p_L m (A 23) (rm2)) (A 27) 0 (A 31) (A 34) t2) (A 27) 2 (A 33) (A 36) u2) 0 0 Q))
  | d, n, t, u, rc, rm, hd, m1, m2, hl, hr => by
    by_cases e2 : u.2.1 - u.1 = 0
    · exact ⟨n, t, u, rc, rm, m1, m2, hr, fun h Q vk vcn => pce02 vk vcn m1 m2 (Or.inr e2), fun m Q vk vcn => pme02 vk vcn m1 m2 (Or.inr e2)⟩
    by_cases e1 : t.2.2.2.2.1 - t.2.2.2.1 = 0
    · have z := ((qN_0 _ m1).1 e1).1
      rw [hl] at z
      have z2 := d_z (by omega) z
      have hn : (Int32.ofNat n < Int32.ofNat M) = False := by rw [n_lt (by omega) (by omega)]; exact eq_false (by omega)
      exact ⟨n, t, u, rc, rm, m1, m2, hr, fun h Q vk vcn => pce02 vk vcn m1 m2 (Or.inl hn), fun m Q vk vcn => pme02 vk vcn m1 m2 (Or.inl e1)⟩
    have z := (qN_0 _ m1).2.1 e1
    obtain ⟨-, z1, z2⟩ := z
    rw [hl] at z1 z2
    have z3 := d_nz (by omega) z2
    obtain ⟨i1, i2, hj, hq1⟩ := (qO_0 _ m1).resolve_left e1
    obtain ⟨i3, i4, hk, hq2⟩ := (qI_2 _ m2).resolve_left e2
    have hn : (Int32.ofNat n < Int32.ofNat M) = True := by rw [n_lt (by omega) (by omega)]; exact eq_true (by omega)
    have z4 : Int32.ofNat d - 1 = Int32.ofNat (d - 1) := n_sub (a := d) (b := 1) (by omega) (by omega)
    obtain ⟨N, t2, u2, rc2, rm2, a1, a2, a3, a4, a5⟩ := pal02 hM (d - 1) (n + 1) (seF 1 5 (goF t)) (seF 0 6 (ciF u)) (fun x => if x = (9 + u.1).toNatClampNeg then rc (1 + t.2.2.2.1).toNatClampNeg else rc x) (fun x => if x = (9 + u.1).toNatClampNeg then rm (1 + t.2.2.2.1).toNatClampNeg else rm x) (by omega) hq1 hq2 (z1.trans z4) (fun k hk2 => by
      show (if _ then _ else _) = (if _ then _ else _)
      by_cases c : k = (9 + u.1).toNatClampNeg
      · rw [if_pos c, if_pos c]; exact hr _ (rdy_lt hj)
      · rw [if_neg c, if_neg c]; exact hr k hk2)
    exact ⟨N, t2, u2, rc2, rm2, a1, a2, a3, fun h Q vk vcn => (pcs02 vk vcn m1 m2 e1 e2 hn).trans (a4 h Q vk vcn), fun m Q vk vcn => (pms02 vk vcn m1 m2 e1 e2).trans (a5 m Q vk vcn)⟩
termination_by d => d
decreasing_by omega

theorem pas02 {A : Nat → Nat} {h : MH} (vk : K A h) (vcn : Cn A h) (m1 : cT h (A 5) (A 8) (A 9) ∈ QS0) (m2 : cT h (A 7) (A 12) (A 13) ∈ QS2) (vlr : Vlr A h) : ∃ (N : Nat) (t2 u2 : QT) (rc2 rm2 : Nat → Int64), t2 ∈ QS0 ∧ u2 ∈ QS2 ∧ (∀ k, k < 16 → rc2 k = rm2 k) ∧
    (∀ Q : MR → MH → Prop, Ok 73 37 [.ref (A 0), .int 0, .int 2, .ref (A 5), .ref (A 7), .int (lyF (cT h (A 5) (A 8) (A 9))), .int 0] [] (h) 1 6 Q ↔ Ok 73 67 [.ref (A 0), .int 0, .int 2, .ref (A 5), .ref (A 7), .int (lyF (cT h (A 5) (A 8) (A 9))), .int (Int32.ofNat N)] [] (cW (cW (p_L h (A 3) (rc2)) (A 5) (A 8) (A 9) t2) (A 7) (A 12) (A 13) u2) 1 6 Q) ∧ (∀ (m : MH) (Q : MR → MH → Prop), K A m → Cn A m → mT m (A 27) 0 (A 31) (A 34) = cT h (A 5) (A 8) (A 9) → mT m (A 27) 2 (A 33) (A 36) = cT h (A 7) (A 12) (A 13) → (∀ k, g_l m (A 23) k = g_l h (A 23) k) → (Ok 197 40 [.ref (A 22), .int 0, .int 2, .int 0] [] (m) 0 0 Q ↔ Ok 197 80 [.ref (A 22), .int 0, .int 2, .int (Int32.ofNat N)] [] (mW (mW (p_L m (A 23) (rm2)) (A 27) 0 (A 31) (A 34) t2) (A 27) 2 (A 33) (A 36) u2) 0 0 Q)) := by
  have hl := (qN_0 _ m1).2.2.1
  have hM := (qN_0 _ m1).2.2.2.1
  obtain ⟨N, t2, u2, rc2, rm2, a1, a2, a3, a4, a5⟩ := pal02 (A := A) (M := (lyF (cT h (A 5) (A 8) (A 9))).toNatClampNeg) (by omega) (lyF (cT h (A 5) (A 8) (A 9))).toNatClampNeg 0 (cT h (A 5) (A 8) (A 9)) (cT h (A 7) (A 12) (A 13)) (fun k => g_l h (A 3) k) (fun k => g_l h (A 23) k) (by omega) m1 m2 hl vlr
  rw [← hl] at a4
  refine ⟨N, t2, u2, rc2, rm2, a1, a2, a3, fun Q => ?_, fun m Q k1 k2 k3 k4 k5 => ?_⟩
  · have z := a4 h Q vk vcn
    rw [pL_self, cW_self, cW_self] at z
    exact z
  · have z := a5 m Q k1 k2
    rw [show (fun k => g_l h (A 23) k) = (fun k => g_l m (A 23) k) from funext fun k => (k5 k).symm, pL_self, ← k3, mW_self, ← k4, mW_self] at z
    exact z

theorem cT1_mWo0 {A : Nat → Nat} {h : MH} {t : QT} (hA : inj40 A) : cT (mW (h) (A 27) 0 (A 31) (A 34) t) (A 6) (A 10) (A 11) = cT h (A 6) (A 10) (A 11) := by
  simp only [mW]; repeat rw [cT1_pi hA (by decide)]
theorem pal10 {A : Nat → Nat} {M : Nat} (hM : M < 100) : ∀ (d n : Nat) (t u : QT) (rc rm : Nat → Int64), n + d = M → t ∈ QS1 → u ∈ QS0 → lyF t = Int32.ofNat d → (∀ k, k < 16 → rc k = rm k) →
    ∃ (N : Nat) (t2 u2 : QT) (rc2 rm2 : Nat → Int64), t2 ∈ QS1 ∧ u2 ∈ QS0 ∧ (∀ k, k < 16 → rc2 k = rm2 k) ∧
      (∀ (h : MH) (Q : MR → MH → Prop), K A h → Cn A h → (Ok 73 37 [.ref (A 0), .int 1, .int 0, .ref (A 6), .ref (A 5), .int (Int32.ofNat M), .int (Int32.ofNat n)] [] (cW (cW (p_L h (A 3) (rc)) (A 6) (A 10) (A 11) t) (A 5) (A 8) (A 9) u) 1 6 Q ↔ Ok 73 67 [.ref (A 0), .int 1, .int 0, .ref (A 6), .ref (A 5), .int (Int32.ofNat M), .int (Int32.ofNat N)] [] (cW (cW (p_L h (A 3) (rc2)) (A 6) (A 10) (A 11) t2) (A 5) (A 8) (A 9) u2) 1 6 Q)) ∧ (∀ (m : MH) (Q : MR → MH → Prop), K A m → Cn A m → (Ok 197 40 [.ref (A 22), .int 1, .int 0, .int (Int32.ofNat n)] [] (mW (mW (p_L m (A 23) (rm)) (A 27) 1 (A 32) (A 35) t) (A 27) 0 (A 31) (A 34) u) 0 0 Q ↔ Ok 197 80 [.ref (A 22), .int 1, .int 0, .int (Int32.ofNat N)] [] (mW (mW (p_L m (A 23) (rm2)) (A 27) 1 (A 32) (A 35) t2) (A 27) 0 (A 31) (A 34) u2) 0 0 Q))
  | d, n, t, u, rc, rm, hd, m1, m2, hl, hr => by
    by_cases e2 : u.2.1 - u.1 = 0
    · exact ⟨n, t, u, rc, rm, m1, m2, hr, fun h Q vk vcn => pce10 vk vcn m1 m2 (Or.inr e2), fun m Q vk vcn => pme10 vk vcn m1 m2 (Or.inr e2)⟩
    by_cases e1 : t.2.2.2.2.1 - t.2.2.2.1 = 0
    · have z := ((qN_1 _ m1).1 e1).1
      rw [hl] at z
      have z2 := d_z (by omega) z
      have hn : (Int32.ofNat n < Int32.ofNat M) = False := by rw [n_lt (by omega) (by omega)]; exact eq_false (by omega)
      exact ⟨n, t, u, rc, rm, m1, m2, hr, fun h Q vk vcn => pce10 vk vcn m1 m2 (Or.inl hn), fun m Q vk vcn => pme10 vk vcn m1 m2 (Or.inl e1)⟩
    have z := (qN_1 _ m1).2.1 e1
    obtain ⟨-, z1, z2⟩ := z
    rw [hl] at z1 z2
    have z3 := d_nz (by omega) z2
    obtain ⟨i1, i2, hj, hq1⟩ := (qO_1 _ m1).resolve_left e1
    obtain ⟨i3, i4, hk, hq2⟩ := (qI_0 _ m2).resolve_left e2
    have hn : (Int32.ofNat n < Int32.ofNat M) = True := by rw [n_lt (by omega) (by omega)]; exact eq_true (by omega)
    have z4 : Int32.ofNat d - 1 = Int32.ofNat (d - 1) := n_sub (a := d) (b := 1) (by omega) (by omega)
    obtain ⟨N, t2, u2, rc2, rm2, a1, a2, a3, a4, a5⟩ := pal10 hM (d - 1) (n + 1) (seF 1 3 (goF t)) (seF 1 5 (ciF u)) (fun x => if x = (1 + u.1).toNatClampNeg then rc (6 + t.2.2.2.1).toNatClampNeg else rc x) (fun x => if x = (1 + u.1).toNatClampNeg then rm (6 + t.2.2.2.1).toNatClampNeg else rm x) (by omega) hq1 hq2 (z1.trans z4) (fun k hk2 => by
      show (if _ then _ else _) = (if _ then _ else _)
      by_cases c : k = (1 + u.1).toNatClampNeg
      · rw [if_pos c, if_pos c]; exact hr _ (rdy_lt hj)
      · rw [if_neg c, if_neg c]; exact hr k hk2)
    exact ⟨N, t2, u2, rc2, rm2, a1, a2, a3, fun h Q vk vcn => (pcs10 vk vcn m1 m2 e1 e2 hn).trans (a4 h Q vk vcn), fun m Q vk vcn => (pms10 vk vcn m1 m2 e1 e2).trans (a5 m Q vk vcn)⟩
termination_by d => d
decreasing_by omega

theorem pas10 {A : Nat → Nat} {h : MH} (vk : K A h) (vcn : Cn A h) (m1 : cT h (A 6) (A 10) (A 11) ∈ QS1) (m2 : cT h (A 5) (A 8) (A 9) ∈ QS0) (vlr : Vlr A h) : ∃ (N : Nat) (t2 u2 : QT) (rc2 rm2 : Nat → Int64), t2 ∈ QS1 ∧ u2 ∈ QS0 ∧ (∀ k, k < 16 → rc2 k = rm2 k) ∧
    (∀ Q : MR → MH → Prop, Ok 73 37 [.ref (A 0), .int 1, .int 0, .ref (A 6), .ref (A 5), .int (lyF (cT h (A 6) (A 10) (A 11))), .int 0] [] (h) 1 6 Q ↔ Ok 73 67 [.ref (A 0), .int 1, .int 0, .ref (A 6), .ref (A 5), .int (lyF (cT h (A 6) (A 10) (A 11))), .int (Int32.ofNat N)] [] (cW (cW (p_L h (A 3) (rc2)) (A 6) (A 10) (A 11) t2) (A 5) (A 8) (A 9) u2) 1 6 Q) ∧ (∀ (m : MH) (Q : MR → MH → Prop), K A m → Cn A m → mT m (A 27) 1 (A 32) (A 35) = cT h (A 6) (A 10) (A 11) → mT m (A 27) 0 (A 31) (A 34) = cT h (A 5) (A 8) (A 9) → (∀ k, g_l m (A 23) k = g_l h (A 23) k) → (Ok 197 40 [.ref (A 22), .int 1, .int 0, .int 0] [] (m) 0 0 Q ↔ Ok 197 80 [.ref (A 22), .int 1, .int 0, .int (Int32.ofNat N)] [] (mW (mW (p_L m (A 23) (rm2)) (A 27) 1 (A 32) (A 35) t2) (A 27) 0 (A 31) (A 34) u2) 0 0 Q)) := by
  have hl := (qN_1 _ m1).2.2.1
  have hM := (qN_1 _ m1).2.2.2.1
  obtain ⟨N, t2, u2, rc2, rm2, a1, a2, a3, a4, a5⟩ := pal10 (A := A) (M := (lyF (cT h (A 6) (A 10) (A 11))).toNatClampNeg) (by omega) (lyF (cT h (A 6) (A 10) (A 11))).toNatClampNeg 0 (cT h (A 6) (A 10) (A 11)) (cT h (A 5) (A 8) (A 9)) (fun k => g_l h (A 3) k) (fun k => g_l h (A 23) k) (by omega) m1 m2 hl vlr
  rw [← hl] at a4
  refine ⟨N, t2, u2, rc2, rm2, a1, a2, a3, fun Q => ?_, fun m Q k1 k2 k3 k4 k5 => ?_⟩
  · have z := a4 h Q vk vcn
    rw [pL_self, cW_self, cW_self] at z
    exact z
  · have z := a5 m Q k1 k2
    rw [show (fun k => g_l h (A 23) k) = (fun k => g_l m (A 23) k) from funext fun k => (k5 k).symm, pL_self, ← k3, mW_self, ← k4, mW_self] at z
    exact z

theorem cT1_mWo2 {A : Nat → Nat} {h : MH} {t : QT} (hA : inj40 A) : cT (mW (h) (A 27) 2 (A 33) (A 36) t) (A 6) (A 10) (A 11) = cT h (A 6) (A 10) (A 11) := by
  simp only [mW]; repeat rw [cT1_pi hA (by decide)]
theorem pal12 {A : Nat → Nat} {M : Nat} (hM : M < 100) : ∀ (d n : Nat) (t u : QT) (rc rm : Nat → Int64), n + d = M → t ∈ QS1 → u ∈ QS2 → lyF t = Int32.ofNat d → (∀ k, k < 16 → rc k = rm k) →
    ∃ (N : Nat) (t2 u2 : QT) (rc2 rm2 : Nat → Int64), t2 ∈ QS1 ∧ u2 ∈ QS2 ∧ (∀ k, k < 16 → rc2 k = rm2 k) ∧
      (∀ (h : MH) (Q : MR → MH → Prop), K A h → Cn A h → (Ok 73 37 [.ref (A 0), .int 1, .int 2, .ref (A 6), .ref (A 7), .int (Int32.ofNat M), .int (Int32.ofNat n)] [] (cW (cW (p_L h (A 3) (rc)) (A 6) (A 10) (A 11) t) (A 7) (A 12) (A 13) u) 1 6 Q ↔ Ok 73 67 [.ref (A 0), .int 1, .int 2, .ref (A 6), .ref (A 7), .int (Int32.ofNat M), .int (Int32.ofNat N)] [] (cW (cW (p_L h (A 3) (rc2)) (A 6) (A 10) (A 11) t2) (A 7) (A 12) (A 13) u2) 1 6 Q)) ∧ (∀ (m : MH) (Q : MR → MH → Prop), K A m → Cn A m → (Ok 197 40 [.ref (A 22), .int 1, .int 2, .int (Int32.ofNat n)] [] (mW (mW (p_L m (A 23) (rm)) (A 27) 1 (A 32) (A 35) t) (A 27) 2 (A 33) (A 36) u) 0 0 Q ↔ Ok 197 80 [.ref (A 22), .int 1, .int 2, .int (Int32.ofNat N)] [] (mW (mW (p_L m (A 23) (rm2)) (A 27) 1 (A 32) (A 35) t2) (A 27) 2 (A 33) (A 36) u2) 0 0 Q))
  | d, n, t, u, rc, rm, hd, m1, m2, hl, hr => by
    by_cases e2 : u.2.1 - u.1 = 0
    · exact ⟨n, t, u, rc, rm, m1, m2, hr, fun h Q vk vcn => pce12 vk vcn m1 m2 (Or.inr e2), fun m Q vk vcn => pme12 vk vcn m1 m2 (Or.inr e2)⟩
    by_cases e1 : t.2.2.2.2.1 - t.2.2.2.1 = 0
    · have z := ((qN_1 _ m1).1 e1).1
      rw [hl] at z
      have z2 := d_z (by omega) z
      have hn : (Int32.ofNat n < Int32.ofNat M) = False := by rw [n_lt (by omega) (by omega)]; exact eq_false (by omega)
      exact ⟨n, t, u, rc, rm, m1, m2, hr, fun h Q vk vcn => pce12 vk vcn m1 m2 (Or.inl hn), fun m Q vk vcn => pme12 vk vcn m1 m2 (Or.inl e1)⟩
    have z := (qN_1 _ m1).2.1 e1
    obtain ⟨-, z1, z2⟩ := z
    rw [hl] at z1 z2
    have z3 := d_nz (by omega) z2
    obtain ⟨i1, i2, hj, hq1⟩ := (qO_1 _ m1).resolve_left e1
    obtain ⟨i3, i4, hk, hq2⟩ := (qI_2 _ m2).resolve_left e2
    have hn : (Int32.ofNat n < Int32.ofNat M) = True := by rw [n_lt (by omega) (by omega)]; exact eq_true (by omega)
    have z4 : Int32.ofNat d - 1 = Int32.ofNat (d - 1) := n_sub (a := d) (b := 1) (by omega) (by omega)
    obtain ⟨N, t2, u2, rc2, rm2, a1, a2, a3, a4, a5⟩ := pal12 hM (d - 1) (n + 1) (seF 1 3 (goF t)) (seF 0 6 (ciF u)) (fun x => if x = (9 + u.1).toNatClampNeg then rc (6 + t.2.2.2.1).toNatClampNeg else rc x) (fun x => if x = (9 + u.1).toNatClampNeg then rm (6 + t.2.2.2.1).toNatClampNeg else rm x) (by omega) hq1 hq2 (z1.trans z4) (fun k hk2 => by
      show (if _ then _ else _) = (if _ then _ else _)
      by_cases c : k = (9 + u.1).toNatClampNeg
      · rw [if_pos c, if_pos c]; exact hr _ (rdy_lt hj)
      · rw [if_neg c, if_neg c]; exact hr k hk2)
    exact ⟨N, t2, u2, rc2, rm2, a1, a2, a3, fun h Q vk vcn => (pcs12 vk vcn m1 m2 e1 e2 hn).trans (a4 h Q vk vcn), fun m Q vk vcn => (pms12 vk vcn m1 m2 e1 e2).trans (a5 m Q vk vcn)⟩
termination_by d => d
decreasing_by omega

theorem pas12 {A : Nat → Nat} {h : MH} (vk : K A h) (vcn : Cn A h) (m1 : cT h (A 6) (A 10) (A 11) ∈ QS1) (m2 : cT h (A 7) (A 12) (A 13) ∈ QS2) (vlr : Vlr A h) : ∃ (N : Nat) (t2 u2 : QT) (rc2 rm2 : Nat → Int64), t2 ∈ QS1 ∧ u2 ∈ QS2 ∧ (∀ k, k < 16 → rc2 k = rm2 k) ∧
    (∀ Q : MR → MH → Prop, Ok 73 37 [.ref (A 0), .int 1, .int 2, .ref (A 6), .ref (A 7), .int (lyF (cT h (A 6) (A 10) (A 11))), .int 0] [] (h) 1 6 Q ↔ Ok 73 67 [.ref (A 0), .int 1, .int 2, .ref (A 6), .ref (A 7), .int (lyF (cT h (A 6) (A 10) (A 11))), .int (Int32.ofNat N)] [] (cW (cW (p_L h (A 3) (rc2)) (A 6) (A 10) (A 11) t2) (A 7) (A 12) (A 13) u2) 1 6 Q) ∧ (∀ (m : MH) (Q : MR → MH → Prop), K A m → Cn A m → mT m (A 27) 1 (A 32) (A 35) = cT h (A 6) (A 10) (A 11) → mT m (A 27) 2 (A 33) (A 36) = cT h (A 7) (A 12) (A 13) → (∀ k, g_l m (A 23) k = g_l h (A 23) k) → (Ok 197 40 [.ref (A 22), .int 1, .int 2, .int 0] [] (m) 0 0 Q ↔ Ok 197 80 [.ref (A 22), .int 1, .int 2, .int (Int32.ofNat N)] [] (mW (mW (p_L m (A 23) (rm2)) (A 27) 1 (A 32) (A 35) t2) (A 27) 2 (A 33) (A 36) u2) 0 0 Q)) := by
  have hl := (qN_1 _ m1).2.2.1
  have hM := (qN_1 _ m1).2.2.2.1
  obtain ⟨N, t2, u2, rc2, rm2, a1, a2, a3, a4, a5⟩ := pal12 (A := A) (M := (lyF (cT h (A 6) (A 10) (A 11))).toNatClampNeg) (by omega) (lyF (cT h (A 6) (A 10) (A 11))).toNatClampNeg 0 (cT h (A 6) (A 10) (A 11)) (cT h (A 7) (A 12) (A 13)) (fun k => g_l h (A 3) k) (fun k => g_l h (A 23) k) (by omega) m1 m2 hl vlr
  rw [← hl] at a4
  refine ⟨N, t2, u2, rc2, rm2, a1, a2, a3, fun Q => ?_, fun m Q k1 k2 k3 k4 k5 => ?_⟩
  · have z := a4 h Q vk vcn
    rw [pL_self, cW_self, cW_self] at z
    exact z
  · have z := a5 m Q k1 k2
    rw [show (fun k => g_l h (A 23) k) = (fun k => g_l m (A 23) k) from funext fun k => (k5 k).symm, pL_self, ← k3, mW_self, ← k4, mW_self] at z
    exact z

theorem cT2_mWo0 {A : Nat → Nat} {h : MH} {t : QT} (hA : inj40 A) : cT (mW (h) (A 27) 0 (A 31) (A 34) t) (A 7) (A 12) (A 13) = cT h (A 7) (A 12) (A 13) := by
  simp only [mW]; repeat rw [cT2_pi hA (by decide)]
theorem pal20 {A : Nat → Nat} {M : Nat} (hM : M < 100) : ∀ (d n : Nat) (t u : QT) (rc rm : Nat → Int64), n + d = M → t ∈ QS2 → u ∈ QS0 → lyF t = Int32.ofNat d → (∀ k, k < 16 → rc k = rm k) →
    ∃ (N : Nat) (t2 u2 : QT) (rc2 rm2 : Nat → Int64), t2 ∈ QS2 ∧ u2 ∈ QS0 ∧ (∀ k, k < 16 → rc2 k = rm2 k) ∧
      (∀ (h : MH) (Q : MR → MH → Prop), K A h → Cn A h → (Ok 73 37 [.ref (A 0), .int 2, .int 0, .ref (A 7), .ref (A 5), .int (Int32.ofNat M), .int (Int32.ofNat n)] [] (cW (cW (p_L h (A 3) (rc)) (A 7) (A 12) (A 13) t) (A 5) (A 8) (A 9) u) 1 6 Q ↔ Ok 73 67 [.ref (A 0), .int 2, .int 0, .ref (A 7), .ref (A 5), .int (Int32.ofNat M), .int (Int32.ofNat N)] [] (cW (cW (p_L h (A 3) (rc2)) (A 7) (A 12) (A 13) t2) (A 5) (A 8) (A 9) u2) 1 6 Q)) ∧ (∀ (m : MH) (Q : MR → MH → Prop), K A m → Cn A m → (Ok 197 40 [.ref (A 22), .int 2, .int 0, .int (Int32.ofNat n)] [] (mW (mW (p_L m (A 23) (rm)) (A 27) 2 (A 33) (A 36) t) (A 27) 0 (A 31) (A 34) u) 0 0 Q ↔ Ok 197 80 [.ref (A 22), .int 2, .int 0, .int (Int32.ofNat N)] [] (mW (mW (p_L m (A 23) (rm2)) (A 27) 2 (A 33) (A 36) t2) (A 27) 0 (A 31) (A 34) u2) 0 0 Q))
  | d, n, t, u, rc, rm, hd, m1, m2, hl, hr => by
    by_cases e2 : u.2.1 - u.1 = 0
    · exact ⟨n, t, u, rc, rm, m1, m2, hr, fun h Q vk vcn => pce20 vk vcn m1 m2 (Or.inr e2), fun m Q vk vcn => pme20 vk vcn m1 m2 (Or.inr e2)⟩
    by_cases e1 : t.2.2.2.2.1 - t.2.2.2.1 = 0
    · have z := ((qN_2 _ m1).1 e1).1
      rw [hl] at z
      have z2 := d_z (by omega) z
      have hn : (Int32.ofNat n < Int32.ofNat M) = False := by rw [n_lt (by omega) (by omega)]; exact eq_false (by omega)
      exact ⟨n, t, u, rc, rm, m1, m2, hr, fun h Q vk vcn => pce20 vk vcn m1 m2 (Or.inl hn), fun m Q vk vcn => pme20 vk vcn m1 m2 (Or.inl e1)⟩
    have z := (qN_2 _ m1).2.1 e1
    obtain ⟨-, z1, z2⟩ := z
    rw [hl] at z1 z2
    have z3 := d_nz (by omega) z2
    obtain ⟨i1, i2, hj, hq1⟩ := (qO_2 _ m1).resolve_left e1
    obtain ⟨i3, i4, hk, hq2⟩ := (qI_0 _ m2).resolve_left e2
    have hn : (Int32.ofNat n < Int32.ofNat M) = True := by rw [n_lt (by omega) (by omega)]; exact eq_true (by omega)
    have z4 : Int32.ofNat d - 1 = Int32.ofNat (d - 1) := n_sub (a := d) (b := 1) (by omega) (by omega)
    obtain ⟨N, t2, u2, rc2, rm2, a1, a2, a3, a4, a5⟩ := pal20 hM (d - 1) (n + 1) (seF 0 6 (goF t)) (seF 1 5 (ciF u)) (fun x => if x = (1 + u.1).toNatClampNeg then rc (9 + t.2.2.2.1).toNatClampNeg else rc x) (fun x => if x = (1 + u.1).toNatClampNeg then rm (9 + t.2.2.2.1).toNatClampNeg else rm x) (by omega) hq1 hq2 (z1.trans z4) (fun k hk2 => by
      show (if _ then _ else _) = (if _ then _ else _)
      by_cases c : k = (1 + u.1).toNatClampNeg
      · rw [if_pos c, if_pos c]; exact hr _ (rdy_lt hj)
      · rw [if_neg c, if_neg c]; exact hr k hk2)
    exact ⟨N, t2, u2, rc2, rm2, a1, a2, a3, fun h Q vk vcn => (pcs20 vk vcn m1 m2 e1 e2 hn).trans (a4 h Q vk vcn), fun m Q vk vcn => (pms20 vk vcn m1 m2 e1 e2).trans (a5 m Q vk vcn)⟩
termination_by d => d
decreasing_by omega

theorem pas20 {A : Nat → Nat} {h : MH} (vk : K A h) (vcn : Cn A h) (m1 : cT h (A 7) (A 12) (A 13) ∈ QS2) (m2 : cT h (A 5) (A 8) (A 9) ∈ QS0) (vlr : Vlr A h) : ∃ (N : Nat) (t2 u2 : QT) (rc2 rm2 : Nat → Int64), t2 ∈ QS2 ∧ u2 ∈ QS0 ∧ (∀ k, k < 16 → rc2 k = rm2 k) ∧
    (∀ Q : MR → MH → Prop, Ok 73 37 [.ref (A 0), .int 2, .int 0, .ref (A 7), .ref (A 5), .int (lyF (cT h (A 7) (A 12) (A 13))), .int 0] [] (h) 1 6 Q ↔ Ok 73 67 [.ref (A 0), .int 2, .int 0, .ref (A 7), .ref (A 5), .int (lyF (cT h (A 7) (A 12) (A 13))), .int (Int32.ofNat N)] [] (cW (cW (p_L h (A 3) (rc2)) (A 7) (A 12) (A 13) t2) (A 5) (A 8) (A 9) u2) 1 6 Q) ∧ (∀ (m : MH) (Q : MR → MH → Prop), K A m → Cn A m → mT m (A 27) 2 (A 33) (A 36) = cT h (A 7) (A 12) (A 13) → mT m (A 27) 0 (A 31) (A 34) = cT h (A 5) (A 8) (A 9) → (∀ k, g_l m (A 23) k = g_l h (A 23) k) → (Ok 197 40 [.ref (A 22), .int 2, .int 0, .int 0] [] (m) 0 0 Q ↔ Ok 197 80 [.ref (A 22), .int 2, .int 0, .int (Int32.ofNat N)] [] (mW (mW (p_L m (A 23) (rm2)) (A 27) 2 (A 33) (A 36) t2) (A 27) 0 (A 31) (A 34) u2) 0 0 Q)) := by
  have hl := (qN_2 _ m1).2.2.1
  have hM := (qN_2 _ m1).2.2.2.1
  obtain ⟨N, t2, u2, rc2, rm2, a1, a2, a3, a4, a5⟩ := pal20 (A := A) (M := (lyF (cT h (A 7) (A 12) (A 13))).toNatClampNeg) (by omega) (lyF (cT h (A 7) (A 12) (A 13))).toNatClampNeg 0 (cT h (A 7) (A 12) (A 13)) (cT h (A 5) (A 8) (A 9)) (fun k => g_l h (A 3) k) (fun k => g_l h (A 23) k) (by omega) m1 m2 hl vlr
  rw [← hl] at a4
  refine ⟨N, t2, u2, rc2, rm2, a1, a2, a3, fun Q => ?_, fun m Q k1 k2 k3 k4 k5 => ?_⟩
  · have z := a4 h Q vk vcn
    rw [pL_self, cW_self, cW_self] at z
    exact z
  · have z := a5 m Q k1 k2
    rw [show (fun k => g_l h (A 23) k) = (fun k => g_l m (A 23) k) from funext fun k => (k5 k).symm, pL_self, ← k3, mW_self, ← k4, mW_self] at z
    exact z

theorem cT2_mWo1 {A : Nat → Nat} {h : MH} {t : QT} (hA : inj40 A) : cT (mW (h) (A 27) 1 (A 32) (A 35) t) (A 7) (A 12) (A 13) = cT h (A 7) (A 12) (A 13) := by
  simp only [mW]; repeat rw [cT2_pi hA (by decide)]
theorem pal21 {A : Nat → Nat} {M : Nat} (hM : M < 100) : ∀ (d n : Nat) (t u : QT) (rc rm : Nat → Int64), n + d = M → t ∈ QS2 → u ∈ QS1 → lyF t = Int32.ofNat d → (∀ k, k < 16 → rc k = rm k) →
    ∃ (N : Nat) (t2 u2 : QT) (rc2 rm2 : Nat → Int64), t2 ∈ QS2 ∧ u2 ∈ QS1 ∧ (∀ k, k < 16 → rc2 k = rm2 k) ∧
      (∀ (h : MH) (Q : MR → MH → Prop), K A h → Cn A h → (Ok 73 37 [.ref (A 0), .int 2, .int 1, .ref (A 7), .ref (A 6), .int (Int32.ofNat M), .int (Int32.ofNat n)] [] (cW (cW (p_L h (A 3) (rc)) (A 7) (A 12) (A 13) t) (A 6) (A 10) (A 11) u) 1 6 Q ↔ Ok 73 67 [.ref (A 0), .int 2, .int 1, .ref (A 7), .ref (A 6), .int (Int32.ofNat M), .int (Int32.ofNat N)] [] (cW (cW (p_L h (A 3) (rc2)) (A 7) (A 12) (A 13) t2) (A 6) (A 10) (A 11) u2) 1 6 Q)) ∧ (∀ (m : MH) (Q : MR → MH → Prop), K A m → Cn A m → (Ok 197 40 [.ref (A 22), .int 2, .int 1, .int (Int32.ofNat n)] [] (mW (mW (p_L m (A 23) (rm)) (A 27) 2 (A 33) (A 36) t) (A 27) 1 (A 32) (A 35) u) 0 0 Q ↔ Ok 197 80 [.ref (A 22), .int 2, .int 1, .int (Int32.ofNat N)] [] (mW (mW (p_L m (A 23) (rm2)) (A 27) 2 (A 33) (A 36) t2) (A 27) 1 (A 32) (A 35) u2) 0 0 Q))
  | d, n, t, u, rc, rm, hd, m1, m2, hl, hr => by
    by_cases e2 : u.2.1 - u.1 = 0
    · exact ⟨n, t, u, rc, rm, m1, m2, hr, fun h Q vk vcn => pce21 vk vcn m1 m2 (Or.inr e2), fun m Q vk vcn => pme21 vk vcn m1 m2 (Or.inr e2)⟩
    by_cases e1 : t.2.2.2.2.1 - t.2.2.2.1 = 0
    · have z := ((qN_2 _ m1).1 e1).1
      rw [hl] at z
      have z2 := d_z (by omega) z
      have hn : (Int32.ofNat n < Int32.ofNat M) = False := by rw [n_lt (by omega) (by omega)]; exact eq_false (by omega)
      exact ⟨n, t, u, rc, rm, m1, m2, hr, fun h Q vk vcn => pce21 vk vcn m1 m2 (Or.inl hn), fun m Q vk vcn => pme21 vk vcn m1 m2 (Or.inl e1)⟩
    have z := (qN_2 _ m1).2.1 e1
    obtain ⟨-, z1, z2⟩ := z
    rw [hl] at z1 z2
    have z3 := d_nz (by omega) z2
    obtain ⟨i1, i2, hj, hq1⟩ := (qO_2 _ m1).resolve_left e1
    obtain ⟨i3, i4, hk, hq2⟩ := (qI_1 _ m2).resolve_left e2
    have hn : (Int32.ofNat n < Int32.ofNat M) = True := by rw [n_lt (by omega) (by omega)]; exact eq_true (by omega)
    have z4 : Int32.ofNat d - 1 = Int32.ofNat (d - 1) := n_sub (a := d) (b := 1) (by omega) (by omega)
    obtain ⟨N, t2, u2, rc2, rm2, a1, a2, a3, a4, a5⟩ := pal21 hM (d - 1) (n + 1) (seF 0 6 (goF t)) (seF 1 3 (ciF u)) (fun x => if x = (6 + u.1).toNatClampNeg then rc (9 + t.2.2.2.1).toNatClampNeg else rc x) (fun x => if x = (6 + u.1).toNatClampNeg then rm (9 + t.2.2.2.1).toNatClampNeg else rm x) (by omega) hq1 hq2 (z1.trans z4) (fun k hk2 => by
      show (if _ then _ else _) = (if _ then _ else _)
      by_cases c : k = (6 + u.1).toNatClampNeg
      · rw [if_pos c, if_pos c]; exact hr _ (rdy_lt hj)
      · rw [if_neg c, if_neg c]; exact hr k hk2)
    exact ⟨N, t2, u2, rc2, rm2, a1, a2, a3, fun h Q vk vcn => (pcs21 vk vcn m1 m2 e1 e2 hn).trans (a4 h Q vk vcn), fun m Q vk vcn => (pms21 vk vcn m1 m2 e1 e2).trans (a5 m Q vk vcn)⟩
termination_by d => d
decreasing_by omega

theorem pas21 {A : Nat → Nat} {h : MH} (vk : K A h) (vcn : Cn A h) (m1 : cT h (A 7) (A 12) (A 13) ∈ QS2) (m2 : cT h (A 6) (A 10) (A 11) ∈ QS1) (vlr : Vlr A h) : ∃ (N : Nat) (t2 u2 : QT) (rc2 rm2 : Nat → Int64), t2 ∈ QS2 ∧ u2 ∈ QS1 ∧ (∀ k, k < 16 → rc2 k = rm2 k) ∧
    (∀ Q : MR → MH → Prop, Ok 73 37 [.ref (A 0), .int 2, .int 1, .ref (A 7), .ref (A 6), .int (lyF (cT h (A 7) (A 12) (A 13))), .int 0] [] (h) 1 6 Q ↔ Ok 73 67 [.ref (A 0), .int 2, .int 1, .ref (A 7), .ref (A 6), .int (lyF (cT h (A 7) (A 12) (A 13))), .int (Int32.ofNat N)] [] (cW (cW (p_L h (A 3) (rc2)) (A 7) (A 12) (A 13) t2) (A 6) (A 10) (A 11) u2) 1 6 Q) ∧ (∀ (m : MH) (Q : MR → MH → Prop), K A m → Cn A m → mT m (A 27) 2 (A 33) (A 36) = cT h (A 7) (A 12) (A 13) → mT m (A 27) 1 (A 32) (A 35) = cT h (A 6) (A 10) (A 11) → (∀ k, g_l m (A 23) k = g_l h (A 23) k) → (Ok 197 40 [.ref (A 22), .int 2, .int 1, .int 0] [] (m) 0 0 Q ↔ Ok 197 80 [.ref (A 22), .int 2, .int 1, .int (Int32.ofNat N)] [] (mW (mW (p_L m (A 23) (rm2)) (A 27) 2 (A 33) (A 36) t2) (A 27) 1 (A 32) (A 35) u2) 0 0 Q)) := by
  have hl := (qN_2 _ m1).2.2.1
  have hM := (qN_2 _ m1).2.2.2.1
  obtain ⟨N, t2, u2, rc2, rm2, a1, a2, a3, a4, a5⟩ := pal21 (A := A) (M := (lyF (cT h (A 7) (A 12) (A 13))).toNatClampNeg) (by omega) (lyF (cT h (A 7) (A 12) (A 13))).toNatClampNeg 0 (cT h (A 7) (A 12) (A 13)) (cT h (A 6) (A 10) (A 11)) (fun k => g_l h (A 3) k) (fun k => g_l h (A 23) k) (by omega) m1 m2 hl vlr
  rw [← hl] at a4
  refine ⟨N, t2, u2, rc2, rm2, a1, a2, a3, fun Q => ?_, fun m Q k1 k2 k3 k4 k5 => ?_⟩
  · have z := a4 h Q vk vcn
    rw [pL_self, cW_self, cW_self] at z
    exact z
  · have z := a5 m Q k1 k2
    rw [show (fun k => g_l h (A 23) k) = (fun k => g_l m (A 23) k) from funext fun k => (k5 k).symm, pL_self, ← k3, mW_self, ← k4, mW_self] at z
    exact z

theorem mTx0_cW1 {A : Nat → Nat} {h : MH} {t : QT} (hA : inj40 A) : mT (cW (h) (A 6) (A 10) (A 11) t) (A 27) 0 (A 31) (A 34) = mT h (A 27) 0 (A 31) (A 34) := by
  simp only [cW]; repeat rw [mT0_pi hA (by decide)]
theorem mTx0_cW2 {A : Nat → Nat} {h : MH} {t : QT} (hA : inj40 A) : mT (cW (h) (A 7) (A 12) (A 13) t) (A 27) 0 (A 31) (A 34) = mT h (A 27) 0 (A 31) (A 34) := by
  simp only [cW]; repeat rw [mT0_pi hA (by decide)]
theorem mTx1_cW0 {A : Nat → Nat} {h : MH} {t : QT} (hA : inj40 A) : mT (cW (h) (A 5) (A 8) (A 9) t) (A 27) 1 (A 32) (A 35) = mT h (A 27) 1 (A 32) (A 35) := by
  simp only [cW]; repeat rw [mT1_pi hA (by decide)]
theorem mTx1_cW2 {A : Nat → Nat} {h : MH} {t : QT} (hA : inj40 A) : mT (cW (h) (A 7) (A 12) (A 13) t) (A 27) 1 (A 32) (A 35) = mT h (A 27) 1 (A 32) (A 35) := by
  simp only [cW]; repeat rw [mT1_pi hA (by decide)]
theorem mTx2_cW0 {A : Nat → Nat} {h : MH} {t : QT} (hA : inj40 A) : mT (cW (h) (A 5) (A 8) (A 9) t) (A 27) 2 (A 33) (A 36) = mT h (A 27) 2 (A 33) (A 36) := by
  simp only [cW]; repeat rw [mT2_pi hA (by decide)]
theorem mTx2_cW1 {A : Nat → Nat} {h : MH} {t : QT} (hA : inj40 A) : mT (cW (h) (A 6) (A 10) (A 11) t) (A 27) 2 (A 33) (A 36) = mT h (A 27) 2 (A 33) (A 36) := by
  simp only [cW]; repeat rw [mT2_pi hA (by decide)]
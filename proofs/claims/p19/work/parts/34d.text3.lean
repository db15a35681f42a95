set_option maxRecDepth 16384
/-! TEXTS: the digits of a number are written -/
theorem pC_pi {h : MH} {v k : Nat} {f : Nat → Int32} {x : Int32} : p_i (p_C h v f) v k x = p_C h v (fun j => if j = k then x else f j) := by
  refine mh_ext (fun b j => ?_) rfl
  rw [mi_pi, mi_pC, mi_pC]
  by_cases hb : b = v
  · subst hb
    by_cases hj : j = k
    · rw [if_pos ⟨rfl, hj⟩, if_pos rfl, if_pos hj]
    · rw [if_neg (fun z => hj z.2), if_pos rfl, if_pos rfl, if_neg hj]
  · rw [if_neg (fun z => hb z.1), if_neg hb, if_neg hb]
theorem pC_self {h : MH} {v : Nat} : p_C h v (fun j => g_i h v j) = h := by
  refine mh_ext (fun b j => ?_) rfl
  rw [mi_pC]
  by_cases hb : b = v
  · rw [if_pos hb, hb]
  · rw [if_neg hb]
theorem n_dec {P : Nat} (h : 1 ≤ P) (hP : P < 1000) : Int32.ofNat P + -1 = Int32.ofNat (P - 1) := by
  apply Int32.toInt_inj.mp
  rw [Int32.toInt_add, nat_t (by omega), nat_t (by omega), show (-1 : Int32).toInt = -1 from rfl, Int.bmod_eq_of_le (by omega) (by omega)]
  omega
theorem ndf_100 {n : Nat} (h : 100 ≤ n) (hn : n ≤ 9223372036854775808) : ndf 18 (n / 100) + 2 ≤ ndf 18 n := by
  have h1 := ndf_le_f 18 n
  have h2 := ndf_le 18 n 2 (by decide) (by decide)
  have h3 : ¬ ndf 18 n ≤ 2 := fun z => by have := h2.mp z; omega
  have h4 : n < 10 ^ ndf 18 n := by
    by_cases h5 : ndf 18 n ≤ 18
    · exact (ndf_le 18 n _ (by omega) h5).mp (Nat.le_refl _)
    · rw [show ndf 18 n = 19 by omega]; omega
  have h6 := ndf_le 18 (n / 100) (ndf 18 n - 2) (by omega) (by omega)
  have h7 : 10 ^ ndf 18 n = 10 ^ (ndf 18 n - 2) * 100 := by
    rw [show (100 : Nat) = 10 ^ 2 from rfl, ← Nat.pow_add]
    congr 1
    omega
  have h8 : n / 100 < 10 ^ (ndf 18 n - 2) := by
    rw [Nat.div_lt_iff_lt_mul (by decide), ← h7]
    exact h4
  have := h6.mpr h8
  omega
theorem ndf_10 {n : Nat} (h : 9 < n) : 2 ≤ ndf 18 n := by
  have h2 := ndf_le 18 n 1 (by decide) (by decide)
  have h3 : ¬ ndf 18 n ≤ 1 := fun z => by have := h2.mp z; omega
  omega
/-- the two tables of digits -/
def Dt (h : MH) : Prop := (g_c h (g_a h 13) = 103 ∧ g_n h (g_a h 13) = 100) ∧ (g_c h (g_a h 14) = 103 ∧ g_n h (g_a h 14) = 100)
theorem m100 : (-100 : Int32) = -100 ∧ (100 : Int32) = 100 ∧ (-9 : Int32) = -9 ∧ ((100 : Int32) = 0) = False ∧ ((100 : Int64) = 0) = False := ⟨by decide, by decide, by decide, by decide, by decide⟩
theorem vp_100 (n : Nat) : vp_in (Int32.ofNat (n % 100)) 100 := (n_rdy (n := 100) (by omega) (by omega)).2.2
theorem vp_of {n a : Nat} (h : a < n) (hn : n < 2147483648) : vp_in (Int32.ofNat a) n := (n_rdy h hn).2.2
section
variable {v : Nat} {h : MH} {Q : MR → MH → Prop} {ng : Int32} {s : Nat}
/-- Long: the last one or two, and the sign -/
theorem o260_144i {a0 a1 a2 a3 a4 a5 a8 a9 a10 : Value} {s : List Value} {x : Int32} {w : Int32} {bc bs : Nat} {h : MH} {Q : MR → MH → Prop} : Ok 260 144 [a0, a1, a2, a3, a4, a5, (.int w), (.int x), a8, a9, a10] s h bc bs Q ↔ Ok 260 147 [a0, a1, a2, a3, a4, a5, (.int w), (.int (x + (-1))), a8, a9, a10] s h bc bs Q := Ok_n1 dc260_144 rfl ⟨rfl, Nat.le_of_ble_eq_true rfl⟩
theorem o260_165i {a0 a1 a2 a3 a4 a5 a8 a9 a10 : Value} {s : List Value} {x : Int32} {w : Int32} {bc bs : Nat} {h : MH} {Q : MR → MH → Prop} : Ok 260 165 [a0, a1, a2, a3, a4, a5, (.int w), (.int x), a8, a9, a10] s h bc bs Q ↔ Ok 260 168 [a0, a1, a2, a3, a4, a5, (.int w), (.int (x + (-1))), a8, a9, a10] s h bc bs Q := Ok_n1 dc260_165 rfl ⟨rfl, Nat.le_of_ble_eq_true rfl⟩
theorem o260_184i {a0 a1 a2 a3 a4 a5 a8 a9 a10 : Value} {s : List Value} {x : Int32} {w : Int32} {bc bs : Nat} {h : MH} {Q : MR → MH → Prop} : Ok 260 184 [a0, a1, a2, a3, a4, a5, (.int w), (.int x), a8, a9, a10] s h bc bs Q ↔ Ok 260 187 [a0, a1, a2, a3, a4, a5, (.int w), (.int (x + (-1))), a8, a9, a10] s h bc bs Q := Ok_n1 dc260_184 rfl ⟨rfl, Nat.le_of_ble_eq_true rfl⟩
theorem gcL3 {x0 c a4 a9 : Value} (v1 : g_c h v = 103) (v2 : g_z h ≤ v) (v3 : g_n h v ≤ 150) (dt : Dt h) (hs : ¬ ng = 0 → 1 ≤ s) (hQ : ∀ f k, Q (.inl (some (.int k))) (p_C h v f)) (n : Nat) (f : Nat → Int32) (P : Nat) (a6 : Value) (h6 : a6 = mk0 ∨ ∃ w, a6 = .int w) (hn : n < 100) (hP : ndf 18 n + s ≤ P) (hP2 : P ≤ g_n h v) :
    Ok 260 143 [x0, mk0, c, .ref v, a4, mk0, a6, .int (Int32.ofNat P), .int ng, a9, .int (ng32 n)] [] (p_C h v f) 0 0 Q := by
  obtain ⟨⟨d1, d2⟩, d3, d4⟩ := dt
  obtain ⟨m1, m2, m3, m4, m5⟩ := m100
  have p1 := ndf_pos 18 n
  have e1 : Int32.ofNat P + -1 = Int32.ofNat (P - 1) := n_dec (by omega) (by omega)
  have e2 : -(ng32 n) = Int32.ofNat n := ng32_neg (by omega)
  have e3 : vp_in (Int32.ofNat n) 100 := vp_of hn (by omega)
  have e4 : vp_in (Int32.ofNat (P - 1)) (g_n h v) := vp_of (by omega) (by omega)
  have e5 := ng32_9 (n := n) (by omega)
  by_cases h9 : 9 < n
  · have p2 := ndf_10 h9
    have e6 : Int32.ofNat (P - 1) + -1 = Int32.ofNat (P - 1 - 1) := n_dec (by omega) (by omega)
    have e7 : vp_in (Int32.ofNat (P - 1 - 1)) (g_n h v) := vp_of (by omega) (by omega)
    by_cases hg : ng = 0
    · rcases h6 with rfl | ⟨w, rfl⟩ <;> (simp only [o260_143, o260_144, o260_147, o260_149, o260_152, o260_154, o260_155, o260_156, o260_157, o260_159, o260_161, o260_164, o260_165, o260_168, o260_170, o260_173, o260_175, o260_176, o260_177, o260_178, o260_180, o260_183, o260_184, o260_187, o260_189, o260_191, o260_192, o260_194, o260_144i, o260_165i, o260_184i, mc_pC, mn_pC, mi_pC, mz_pC, ma_pC, true_and, and_true, or_false, not_true_eq_false, not_false_eq_true, false_implies, forall_const, if_true, and_self, Nat.reduceEqDiff, lt_le, pC_pi, v1, v2, d1, d2, d3, d4, e1, e2, e3, e4, e5, e6, e7, h9, hg]; exact hQ _ _)
    · have p3 := hs hg
      have e8 : Int32.ofNat (P - 1 - 1) + -1 = Int32.ofNat (P - 1 - 1 - 1) := n_dec (by omega) (by omega)
      have e9 : vp_in (Int32.ofNat (P - 1 - 1 - 1)) (g_n h v) := vp_of (by omega) (by omega)
      rcases h6 with rfl | ⟨w, rfl⟩ <;> (simp only [o260_143, o260_144, o260_147, o260_149, o260_152, o260_154, o260_155, o260_156, o260_157, o260_159, o260_161, o260_164, o260_165, o260_168, o260_170, o260_173, o260_175, o260_176, o260_177, o260_178, o260_180, o260_183, o260_184, o260_187, o260_189, o260_191, o260_192, o260_194, o260_144i, o260_165i, o260_184i, mc_pC, mn_pC, mi_pC, mz_pC, ma_pC, true_and, or_false, not_true_eq_false, not_false_eq_true, false_implies, forall_const, if_true, and_self, Nat.reduceEqDiff, lt_le, pC_pi, v1, v2, d1, d2, d3, d4, e1, e2, e3, e4, e5, e6, e7, e8, e9, h9, hg]; exact hQ _ _)
  · by_cases hg : ng = 0
    · rcases h6 with rfl | ⟨w, rfl⟩ <;> (simp only [o260_143, o260_144, o260_147, o260_149, o260_152, o260_154, o260_155, o260_156, o260_157, o260_159, o260_161, o260_164, o260_165, o260_168, o260_170, o260_173, o260_175, o260_176, o260_177, o260_178, o260_180, o260_183, o260_184, o260_187, o260_189, o260_191, o260_192, o260_194, o260_144i, o260_165i, o260_184i, mc_pC, mn_pC, mi_pC, mz_pC, ma_pC, true_and, and_true, or_false, not_true_eq_false, not_false_eq_true, false_implies, forall_const, if_true, and_self, Nat.reduceEqDiff, lt_le, pC_pi, v1, v2, d1, d2, d3, d4, e1, e2, e3, e4, e5, h9, hg]; exact hQ _ _)
    · have p3 := hs hg
      have e8 : Int32.ofNat (P - 1) + -1 = Int32.ofNat (P - 1 - 1) := n_dec (by omega) (by omega)
      have e9 : vp_in (Int32.ofNat (P - 1 - 1)) (g_n h v) := vp_of (by omega) (by omega)
      rcases h6 with rfl | ⟨w, rfl⟩ <;> (simp only [o260_143, o260_144, o260_147, o260_149, o260_152, o260_154, o260_155, o260_156, o260_157, o260_159, o260_161, o260_164, o260_165, o260_168, o260_170, o260_173, o260_175, o260_176, o260_177, o260_178, o260_180, o260_183, o260_184, o260_187, o260_189, o260_191, o260_192, o260_194, o260_144i, o260_165i, o260_184i, mc_pC, mn_pC, mi_pC, mz_pC, ma_pC, true_and, and_true, or_false, not_true_eq_false, not_false_eq_true, false_implies, forall_const, if_true, and_self, Nat.reduceEqDiff, lt_le, pC_pi, v1, v2, d1, d2, d3, d4, e1, e2, e3, e4, e5, e8, e9, h9, hg]; exact hQ _ _)
theorem gcL2 {x0 c a4 : Value} (v1 : g_c h v = 103) (v2 : g_z h ≤ v) (v3 : g_n h v ≤ 150) (dt : Dt h) (hs : ¬ ng = 0 → 1 ≤ s) (hQ : ∀ f k, Q (.inl (some (.int k))) (p_C h v f)) (n : Nat) (f : Nat → Int32) (P : Nat) (a6 a9 : Value) (h6 : a6 = mk0 ∨ ∃ w, a6 = .int w) (hn : n < 2147483648) (hP : ndf 18 n + s ≤ P) (hP2 : P ≤ g_n h v) :
    Ok 260 86 [x0, mk0, c, .ref v, a4, mk0, a6, .int (Int32.ofNat P), .int ng, a9, .int (ng32 n)] [] (p_C h v f) 0 0 Q := by
  obtain ⟨m1, m2, m3, m4, m5⟩ := m100
  have e1 := ng32_gt (n := n) (by omega)
  rw [o260_86]
  by_cases h1 : n < 100
  · simp only [o260_88, o260_90, and_true, not_true_eq_false, false_implies, forall_const, e1, h1]
    exact gcL3 v1 v2 v3 dt hs hQ n f P a6 h6 h1 hP hP2
  · have p1 := ndf_100 (n := n) (by omega) (by omega)
    have p2 := ndf_pos 18 (n / 100)
    have dt0 := dt
    obtain ⟨⟨d1, d2⟩, d3, d4⟩ := dt0
    have e2 := ng32_100 (n := n) (by omega)
    have e3 := ng32_r (n := n) (by omega)
    have e4 := vp_100 n
    have e5 : Int32.ofNat P + -1 = Int32.ofNat (P - 1) := n_dec (by omega) (by omega)
    have e6 : Int32.ofNat (P - 1) + -1 = Int32.ofNat (P - 2) := n_dec (by omega) (by omega)
    have e7 : vp_in (Int32.ofNat (P - 1)) (g_n h v) := vp_of (by omega) (by omega)
    have e8 : vp_in (Int32.ofNat (P - 2)) (g_n h v) := vp_of (by omega) (by omega)
    simp only [o260_88, o260_90, o260_93, o260_95, o260_97, o260_98, o260_100, o260_102, o260_104, o260_105, o260_107, o260_108, o260_110, o260_112, o260_114, o260_115, o260_118, o260_120, o260_123, o260_125, o260_126, o260_127, o260_128, o260_131, o260_133, o260_136, o260_138, o260_139, o260_140, mc_pC, mn_pC, mi_pC, mz_pC, ma_pC, true_and, or_false, not_false_eq_true, false_implies, forall_const, if_true, and_self, Nat.reduceEqDiff, pC_pi, v1, v2, d1, d2, d3, d4, m4, e1, h1, e2, e3, e4, e5, e6, e7, e8]
    exact gcL2 v1 v2 v3 dt hs hQ (n / 100) _ (P - 2) _ _ (Or.inr ⟨_, rfl⟩) (by omega) (by omega) (by omega)
termination_by n
decreasing_by omega
theorem gcL1 {c : Value} (v1 : g_c h v = 103) (v2 : g_z h ≤ v) (v3 : g_n h v ≤ 150) (dt : Dt h) (hs : ¬ ng = 0 → 1 ≤ s) (hQ : ∀ f k, Q (.inl (some (.int k))) (p_C h v f)) (n : Nat) (f : Nat → Int32) (P : Nat) (a4 a6 : Value) (h6 : a6 = mk0 ∨ ∃ w, a6 = .int w) (hn : n ≤ 9223372036854775808) (hP : ndf 18 n + s ≤ P) (hP2 : P ≤ g_n h v) :
    Ok 260 24 [.long (ng64 n), mk0, c, .ref v, a4, mk0, a6, .int (Int32.ofNat P), .int ng, mk0, mk0] [] (p_C h v f) 0 0 Q := by
  obtain ⟨m1, m2, m3, m4, m5⟩ := m100
  have e1 := ng64_gt (n := n) hn
  rw [o260_24]
  by_cases h1 : n < 2147483648
  · simp only [o260_25, o260_28, o260_29, o260_82, o260_83, o260_84, and_true, not_true_eq_false, false_implies, forall_const, lg_cmp_gt, e1, h1, ng64_32 h1]
    exact gcL2 v1 v2 v3 dt hs hQ n f P a6 mk0 h6 h1 hP hP2
  · have p1 := ndf_100 (n := n) (by omega) (by omega)
    have p2 := ndf_pos 18 (n / 100)
    have dt0 := dt
    obtain ⟨⟨d1, d2⟩, d3, d4⟩ := dt0
    have e2 := ng64_100 (n := n) (by omega)
    have e3 := ng64_r (n := n) (by omega)
    have e4 := vp_100 n
    have e5 : Int32.ofNat P + -1 = Int32.ofNat (P - 1) := n_dec (by omega) (by omega)
    have e6 : Int32.ofNat (P - 1) + -1 = Int32.ofNat (P - 2) := n_dec (by omega) (by omega)
    have e7 : vp_in (Int32.ofNat (P - 1)) (g_n h v) := vp_of (by omega) (by omega)
    have e8 : vp_in (Int32.ofNat (P - 2)) (g_n h v) := vp_of (by omega) (by omega)
    simp only [o260_25, o260_28, o260_29, o260_32, o260_33, o260_36, o260_37, o260_39, o260_41, o260_44, o260_45, o260_46, o260_47, o260_48, o260_50, o260_52, o260_53, o260_54, o260_57, o260_59, o260_62, o260_64, o260_65, o260_66, o260_67, o260_70, o260_72, o260_75, o260_77, o260_78, o260_79, mc_pC, mn_pC, mi_pC, mz_pC, ma_pC, true_and, or_false, not_false_eq_true, false_implies, forall_const, if_true, and_self, Nat.reduceEqDiff, pC_pi, lg_cmp_gt, v1, v2, d1, d2, d3, d4, m5, e1, h1, e2, e3, e4, e5, e6, e7, e8]
    exact gcL1 v1 v2 v3 dt hs hQ (n / 100) _ (P - 2) _ _ (Or.inr ⟨_, rfl⟩) (by omega) (by omega) (by omega)
termination_by n
decreasing_by omega
theorem J_gcL {x : Int64} {P : Nat} (v1 : g_c h v = 103) (v2 : g_z h ≤ v) (v3 : g_n h v ≤ 150) (dt : Dt h) (hQ : ∀ f k, Q (.inl (some (.int k))) (p_C h v f)) (hP : tsz x ≤ P) (hP2 : P ≤ g_n h v) : Ok 260 0 [.long x, mk0, .int (Int32.ofNat P), .ref v, mk0, mk0, mk0, mk0, mk0, mk0, mk0] [] h 0 0 Q := by
  have g := fun (ng : Int32) (s : Nat) (hs : ¬ ng = 0 → 1 ≤ s) (hp : ndf 18 x.toInt.natAbs + s ≤ P) => gcL1 (c := .int (Int32.ofNat P)) (ng := ng) (s := s) v1 v2 v3 dt hs hQ x.toInt.natAbs (fun j => g_i h v j) P mk0 mk0 (Or.inl rfl) (i64_abs x) hp hP2
  rw [pC_self] at g
  unfold tsz at hP
  by_cases hx : x < 0
  · rw [if_pos hx] at hP
    have g1 := g 1 1 (fun _ => Nat.le_refl _) (by omega)
    rw [← ng64_of hx] at g1
    simp only [o260_0, o260_1, o260_3, o260_4, o260_5, o260_6, o260_9, o260_10, o260_13, o260_14, o260_16, o260_18, o260_21, o260_22, o260_23, true_and, and_true, not_true_eq_false, not_false_eq_true, false_implies, forall_const, i10, lt_le, lg_cmp_lt, hx]
    exact g1
  · rw [if_neg hx] at hP
    have g1 := g 0 0 (fun z => absurd rfl z) (by omega)
    rw [← ng64_neg hx] at g1
    simp only [o260_0, o260_1, o260_3, o260_4, o260_5, o260_6, o260_9, o260_10, o260_13, o260_14, o260_16, o260_18, o260_21, o260_22, o260_23, true_and, and_true, not_true_eq_false, not_false_eq_true, false_implies, forall_const, i10, lt_le, lg_cmp_lt, hx]
    exact g1
/-- Integer: the last one or two, and the sign -/
theorem o258_73i {a0 a1 a2 a3 a6 : Value} {s : List Value} {x : Int32} {w : Int32} {bc bs : Nat} {h : MH} {Q : MR → MH → Prop} : Ok 258 73 [a0, a1, a2, a3, (.int w), (.int x), a6] s h bc bs Q ↔ Ok 258 76 [a0, a1, a2, a3, (.int w), (.int (x + (-1))), a6] s h bc bs Q := Ok_n1 dc258_73 rfl ⟨rfl, Nat.le_of_ble_eq_true rfl⟩
theorem o258_92i {a0 a1 a2 a3 a6 : Value} {s : List Value} {x : Int32} {w : Int32} {bc bs : Nat} {h : MH} {Q : MR → MH → Prop} : Ok 258 92 [a0, a1, a2, a3, (.int w), (.int x), a6] s h bc bs Q ↔ Ok 258 95 [a0, a1, a2, a3, (.int w), (.int (x + (-1))), a6] s h bc bs Q := Ok_n1 dc258_92 rfl ⟨rfl, Nat.le_of_ble_eq_true rfl⟩
theorem o258_110i {a0 a1 a2 a3 a6 : Value} {s : List Value} {x : Int32} {w : Int32} {bc bs : Nat} {h : MH} {Q : MR → MH → Prop} : Ok 258 110 [a0, a1, a2, a3, (.int w), (.int x), a6] s h bc bs Q ↔ Ok 258 113 [a0, a1, a2, a3, (.int w), (.int (x + (-1))), a6] s h bc bs Q := Ok_n1 dc258_110 rfl ⟨rfl, Nat.le_of_ble_eq_true rfl⟩
theorem gcI3 {c a3 : Value} (v1 : g_c h v = 103) (v2 : g_z h ≤ v) (v3 : g_n h v ≤ 150) (dt : Dt h) (hs : ¬ ng = 0 → 1 ≤ s) (hQ : ∀ f k, Q (.inl (some (.int k))) (p_C h v f)) (n : Nat) (f : Nat → Int32) (P : Nat) (a6 : Value) (h6 : a6 = mk0 ∨ ∃ w, a6 = .int w) (hn : n < 100) (hP : ndf 18 n + s ≤ P) (hP2 : P ≤ g_n h v) :
    Ok 258 72 [.int (ng32 n), c, .ref v, a3, a6, .int (Int32.ofNat P), .int ng] [] (p_C h v f) 0 0 Q := by
  obtain ⟨⟨d1, d2⟩, d3, d4⟩ := dt
  obtain ⟨m1, m2, m3, m4, m5⟩ := m100
  have p1 := ndf_pos 18 n
  have e1 : Int32.ofNat P + -1 = Int32.ofNat (P - 1) := n_dec (by omega) (by omega)
  have e2 : -(ng32 n) = Int32.ofNat n := ng32_neg (by omega)
  have e3 : vp_in (Int32.ofNat n) 100 := vp_of hn (by omega)
  have e4 : vp_in (Int32.ofNat (P - 1)) (g_n h v) := vp_of (by omega) (by omega)
  have e5 := ng32_9 (n := n) (by omega)
  by_cases h9 : 9 < n
  · have p2 := ndf_10 h9
    have e6 : Int32.ofNat (P - 1) + -1 = Int32.ofNat (P - 1 - 1) := n_dec (by omega) (by omega)
    have e7 : vp_in (Int32.ofNat (P - 1 - 1)) (g_n h v) := vp_of (by omega) (by omega)
    by_cases hg : ng = 0
    · rcases h6 with rfl | ⟨w, rfl⟩ <;> (simp only [o258_72, o258_73, o258_76, o258_78, o258_81, o258_82, o258_83, o258_84, o258_85, o258_86, o258_88, o258_91, o258_92, o258_95, o258_97, o258_100, o258_101, o258_102, o258_103, o258_104, o258_106, o258_109, o258_110, o258_113, o258_115, o258_117, o258_118, o258_120, o258_73i, o258_92i, o258_110i, mc_pC, mn_pC, mi_pC, mz_pC, ma_pC, true_and, and_true, or_false, not_true_eq_false, not_false_eq_true, false_implies, forall_const, if_true, and_self, Nat.reduceEqDiff, lt_le, pC_pi, v1, v2, d1, d2, d3, d4, e1, e2, e3, e4, e5, e6, e7, h9, hg]; exact hQ _ _)
    · have p3 := hs hg
      have e8 : Int32.ofNat (P - 1 - 1) + -1 = Int32.ofNat (P - 1 - 1 - 1) := n_dec (by omega) (by omega)
      have e9 : vp_in (Int32.ofNat (P - 1 - 1 - 1)) (g_n h v) := vp_of (by omega) (by omega)
      rcases h6 with rfl | ⟨w, rfl⟩ <;> (simp only [o258_72, o258_73, o258_76, o258_78, o258_81, o258_82, o258_83, o258_84, o258_85, o258_86, o258_88, o258_91, o258_92, o258_95, o258_97, o258_100, o258_101, o258_102, o258_103, o258_104, o258_106, o258_109, o258_110, o258_113, o258_115, o258_117, o258_118, o258_120, o258_73i, o258_92i, o258_110i, mc_pC, mn_pC, mi_pC, mz_pC, ma_pC, true_and, or_false, not_true_eq_false, not_false_eq_true, false_implies, forall_const, if_true, and_self, Nat.reduceEqDiff, lt_le, pC_pi, v1, v2, d1, d2, d3, d4, e1, e2, e3, e4, e5, e6, e7, e8, e9, h9, hg]; exact hQ _ _)
  · by_cases hg : ng = 0
    · rcases h6 with rfl | ⟨w, rfl⟩ <;> (simp only [o258_72, o258_73, o258_76, o258_78, o258_81, o258_82, o258_83, o258_84, o258_85, o258_86, o258_88, o258_91, o258_92, o258_95, o258_97, o258_100, o258_101, o258_102, o258_103, o258_104, o258_106, o258_109, o258_110, o258_113, o258_115, o258_117, o258_118, o258_120, o258_73i, o258_92i, o258_110i, mc_pC, mn_pC, mi_pC, mz_pC, ma_pC, true_and, and_true, or_false, not_true_eq_false, not_false_eq_true, false_implies, forall_const, if_true, and_self, Nat.reduceEqDiff, lt_le, pC_pi, v1, v2, d1, d2, d3, d4, e1, e2, e3, e4, e5, h9, hg]; exact hQ _ _)
    · have p3 := hs hg
      have e8 : Int32.ofNat (P - 1) + -1 = Int32.ofNat (P - 1 - 1) := n_dec (by omega) (by omega)
      have e9 : vp_in (Int32.ofNat (P - 1 - 1)) (g_n h v) := vp_of (by omega) (by omega)
      rcases h6 with rfl | ⟨w, rfl⟩ <;> (simp only [o258_72, o258_73, o258_76, o258_78, o258_81, o258_82, o258_83, o258_84, o258_85, o258_86, o258_88, o258_91, o258_92, o258_95, o258_97, o258_100, o258_101, o258_102, o258_103, o258_104, o258_106, o258_109, o258_110, o258_113, o258_115, o258_117, o258_118, o258_120, o258_73i, o258_92i, o258_110i, mc_pC, mn_pC, mi_pC, mz_pC, ma_pC, true_and, and_true, or_false, not_true_eq_false, not_false_eq_true, false_implies, forall_const, if_true, and_self, Nat.reduceEqDiff, lt_le, pC_pi, v1, v2, d1, d2, d3, d4, e1, e2, e3, e4, e5, e8, e9, h9, hg]; exact hQ _ _)
theorem gcI2 {c : Value} (v1 : g_c h v = 103) (v2 : g_z h ≤ v) (v3 : g_n h v ≤ 150) (dt : Dt h) (hs : ¬ ng = 0 → 1 ≤ s) (hQ : ∀ f k, Q (.inl (some (.int k))) (p_C h v f)) (n : Nat) (f : Nat → Int32) (P : Nat) (a3 a6 : Value) (h6 : a6 = mk0 ∨ ∃ w, a6 = .int w) (hn : n ≤ 2147483648) (hP : ndf 18 n + s ≤ P) (hP2 : P ≤ g_n h v) :
    Ok 258 22 [.int (ng32 n), c, .ref v, a3, a6, .int (Int32.ofNat P), .int ng] [] (p_C h v f) 0 0 Q := by
  obtain ⟨m1, m2, m3, m4, m5⟩ := m100
  have e1 := ng32_gt (n := n) (by omega)
  rw [o258_22]
  by_cases h1 : n < 100
  · simp only [o258_23, o258_25, and_true, not_true_eq_false, false_implies, forall_const, e1, h1]
    exact gcI3 v1 v2 v3 dt hs hQ n f P a6 h6 h1 hP hP2
  · have p1 := ndf_100 (n := n) (by omega) (by omega)
    have p2 := ndf_pos 18 (n / 100)
    have dt0 := dt
    obtain ⟨⟨d1, d2⟩, d3, d4⟩ := dt0
    have e2 := ng32_100 (n := n) (by omega)
    have e3 := ng32_r (n := n) (by omega)
    have e4 := vp_100 n
    have e5 : Int32.ofNat P + -1 = Int32.ofNat (P - 1) := n_dec (by omega) (by omega)
    have e6 : Int32.ofNat (P - 1) + -1 = Int32.ofNat (P - 2) := n_dec (by omega) (by omega)
    have e7 : vp_in (Int32.ofNat (P - 1)) (g_n h v) := vp_of (by omega) (by omega)
    have e8 : vp_in (Int32.ofNat (P - 2)) (g_n h v) := vp_of (by omega) (by omega)
    simp only [o258_23, o258_25, o258_28, o258_29, o258_31, o258_32, o258_33, o258_34, o258_36, o258_37, o258_38, o258_39, o258_41, o258_42, o258_43, o258_44, o258_47, o258_49, o258_52, o258_54, o258_55, o258_56, o258_57, o258_60, o258_62, o258_65, o258_67, o258_68, o258_69, mc_pC, mn_pC, mi_pC, mz_pC, ma_pC, true_and, or_false, not_false_eq_true, false_implies, forall_const, if_true, and_self, Nat.reduceEqDiff, pC_pi, v1, v2, d1, d2, d3, d4, m4, e1, h1, e2, e3, e4, e5, e6, e7, e8]
    exact gcI2 v1 v2 v3 dt hs hQ (n / 100) _ (P - 2) _ _ (Or.inr ⟨_, rfl⟩) (by omega) (by omega) (by omega)
termination_by n
decreasing_by omega
theorem J_gcI {x : Int32} {P : Nat} (v1 : g_c h v = 103) (v2 : g_z h ≤ v) (v3 : g_n h v ≤ 150) (dt : Dt h) (hQ : ∀ f k, Q (.inl (some (.int k))) (p_C h v f)) (hP : isz x ≤ P) (hP2 : P ≤ g_n h v) : Ok 258 0 [.int x, .int (Int32.ofNat P), .ref v, mk0, mk0, mk0, mk0] [] h 0 0 Q := by
  have g := fun (ng : Int32) (s : Nat) (hs : ¬ ng = 0 → 1 ≤ s) (hp : ndf 18 x.toInt.natAbs + s ≤ P) => gcI2 (c := .int (Int32.ofNat P)) (ng := ng) (s := s) v1 v2 v3 dt hs hQ x.toInt.natAbs (fun j => g_i h v j) P mk0 mk0 (Or.inl rfl) (i32_abs x) hp hP2
  rw [pC_self] at g
  unfold isz at hP
  by_cases hx : x < 0
  · rw [if_pos hx] at hP
    have g1 := g 1 1 (fun _ => Nat.le_refl _) (by omega)
    rw [← ng32_of hx] at g1
    simp only [o258_0, o258_1, o258_3, o258_4, o258_7, o258_8, o258_11, o258_12, o258_14, o258_16, o258_19, o258_20, o258_21, true_and, and_true, not_true_eq_false, not_false_eq_true, false_implies, forall_const, i10, lt_le, hx]
    exact g1
  · rw [if_neg hx] at hP
    have g1 := g 0 0 (fun z => absurd rfl z) (by omega)
    rw [← ng32_negx hx] at g1
    simp only [o258_0, o258_1, o258_3, o258_4, o258_7, o258_8, o258_11, o258_12, o258_14, o258_16, o258_19, o258_20, o258_21, true_and, and_true, not_true_eq_false, not_false_eq_true, false_implies, forall_const, i10, lt_le, hx]
    exact g1
end
theorem Dt_Fx {sb : Nat} {h m : MH} (d : Dt h) (f : Fx sb sb h m) (hz : g_a h 13 < g_t h ∧ g_a h 14 < g_t h) : Dt m := by
  obtain ⟨⟨d1, d2⟩, d3, d4⟩ := d
  obtain ⟨f1, f2, f3, f4⟩ := f
  obtain ⟨⟨a1, a2⟩, -⟩ := f4 _ hz.1
  obtain ⟨⟨a3, a4⟩, -⟩ := f4 _ hz.2
  unfold Dt
  rw [f3, f3, a1, a2, a3, a4]
  exact ⟨⟨d1, d2⟩, d3, d4⟩
theorem J_apL {sb n : Nat} {x : Int64} {h : MH} {Q : MR → MH → Prop} (b : Bd sb n h) (dt : Dt h) (hz : g_a h 13 < g_t h ∧ g_a h 14 < g_t h) (hn : n + tsz x ≤ 142) (hQ : ∀ m, Fx sb sb h m → Bd sb (n + tsz x) m → Q (.inl (some (.ref sb))) m) : Ok 253 0 [.ref sb, .long x, mk0, mk0, mk0] [] h 1 150 Q := by
  have b1 := b.1
  have b5 := b.2.2.2.2.1
  have e1 : Int32.ofNat n + Int32.ofNat (tsz x) = Int32.ofNat (n + tsz x) := n_add n (tsz x)
  simp only [o253_0, o253_1, o253_4, o253_5, o253_6, o253_7, o253_10, o253_11, o253_13, o253_14, o253_16, J_ssL, mcs_0, mcs_i, Kn_v, true_and, Nat.reduceLeDiff, Nat.reduceSub, Nat.reduceAdd, Nat.zero_le, Nat.le_refl, b1, b5, e1]
  refine J_ens b (by have := tsz_le x; omega) hn (fun m f b' hv => ?_)
  obtain ⟨c1, c2, c3, c4, c5, v, v1, v2, v3, v4, v5, v6⟩ := b'
  have hl := hv v v1
  have hc := capOk_le v5
  simp only [o253_19, o253_20, o253_23, o253_26, o253_27, o253_29, o253_30, o253_33, J_isLatin1 c1 c4, mcs_0, Kn_v, Kn_0, mrf_some, true_and, not_false_eq_true, false_implies, forall_const, Nat.zero_le, i10, c1, v1]
  refine J_gcL v2 v3 hc (Dt_Fx dt f hz) (fun f2 k => ?_) (by omega) hl
  have e3 : ¬ sb = v := fun z => by rw [← z, c1] at v2; cases v2
  simp only [o253_36, o253_37, o253_52, o253_53, o253_55, o253_58, o253_59, mc_pC, mz_pC, Kn_v, kok_0, true_and, and_self, c1, c2]
  refine hQ _ ?_ ?_
  · exact Fx_pi (Fx_pC f (Or.inr (Or.inr (Or.inl v2)))) (Or.inl rfl)
  · refine ⟨c1, c2, c3, ?_, ?_, v, v1, v2, v3, v4, v5, hl⟩
    · rw [mi_pi, if_neg (by omega), mi_pC, if_neg e3]; exact c4
    · rw [mi_pi, if_pos ⟨rfl, rfl⟩]
theorem J_apL4 {sb n : Nat} {x : Int64} {h : MH} {Q : MR → MH → Prop} (b : Bd sb n h) (dt : Dt h) (hz : g_a h 13 < g_t h ∧ g_a h 14 < g_t h) (hn : n + tsz x ≤ 142) (hQ : ∀ m, Fx sb sb h m → Bd sb (n + tsz x) m → Q (.inl (some (.ref sb))) m) : Ok 274 0 [.ref sb, .long x, mk0] [] h 1 150 Q := by
  simp only [o274_0, o274_1, o274_2, mcs_0, true_and, Nat.reduceSub, Nat.zero_le, Nat.le_refl, b.1]
  refine J_apL b dt hz hn (fun m f b' => ?_)
  simp only [o274_5, o274_6, o274_7, Kn_v]
  exact hQ m f b'
theorem J_apI {sb n : Nat} {x : Int32} {h : MH} {Q : MR → MH → Prop} (b : Bd sb n h) (dt : Dt h) (hz : g_a h 13 < g_t h ∧ g_a h 14 < g_t h) (hn : n + isz x ≤ 142) (hQ : ∀ m, Fx sb sb h m → Bd sb (n + isz x) m → Q (.inl (some (.ref sb))) m) : Ok 252 0 [.ref sb, .int x, mk0, mk0] [] h 1 150 Q := by
  have b1 := b.1
  have b5 := b.2.2.2.2.1
  have e1 : Int32.ofNat n + Int32.ofNat (isz x) = Int32.ofNat (n + isz x) := n_add n (isz x)
  simp only [o252_0, o252_1, o252_4, o252_5, o252_6, o252_7, o252_10, o252_11, o252_12, o252_13, o252_14, J_ssI, mcs_0, mcs_i, Kn_v, true_and, Nat.reduceLeDiff, Nat.reduceSub, Nat.reduceAdd, Nat.zero_le, Nat.le_refl, b1, b5, e1]
  refine J_ens b (by have := isz_le x; omega) hn (fun m f b' hv => ?_)
  obtain ⟨c1, c2, c3, c4, c5, v, v1, v2, v3, v4, v5, v6⟩ := b'
  have hl := hv v v1
  have hc := capOk_le v5
  simp only [o252_17, o252_18, o252_21, o252_24, o252_25, o252_26, o252_27, o252_30, J_isLatin1 c1 c4, mcs_0, Kn_v, Kn_0, mrf_some, true_and, not_false_eq_true, false_implies, forall_const, Nat.zero_le, i10, c1, v1]
  refine J_gcI v2 v3 hc (Dt_Fx dt f hz) (fun f2 k => ?_) (by omega) hl
  have e3 : ¬ sb = v := fun z => by rw [← z, c1] at v2; cases v2
  simp only [o252_33, o252_34, o252_48, o252_49, o252_50, o252_53, o252_54, mc_pC, mz_pC, Kn_v, kok_0, true_and, and_self, c1, c2]
  refine hQ _ ?_ ?_
  · exact Fx_pi (Fx_pC f (Or.inr (Or.inr (Or.inl v2)))) (Or.inl rfl)
  · refine ⟨c1, c2, c3, ?_, ?_, v, v1, v2, v3, v4, v5, hl⟩
    · rw [mi_pi, if_neg (by omega), mi_pC, if_neg e3]; exact c4
    · rw [mi_pi, if_pos ⟨rfl, rfl⟩]
theorem J_apI4 {sb n : Nat} {x : Int32} {h : MH} {Q : MR → MH → Prop} (b : Bd sb n h) (dt : Dt h) (hz : g_a h 13 < g_t h ∧ g_a h 14 < g_t h) (hn : n + isz x ≤ 142) (hQ : ∀ m, Fx sb sb h m → Bd sb (n + isz x) m → Q (.inl (some (.ref sb))) m) : Ok 273 0 [.ref sb, .int x] [] h 1 150 Q := by
  simp only [o273_0, o273_1, o273_2, mcs_0, true_and, Nat.reduceSub, Nat.zero_le, Nat.le_refl, b.1]
  refine J_apI b dt hz hn (fun m f b' => ?_)
  simp only [o273_5, o273_6, o273_7, Kn_v]
  exact hQ m f b'
/-! the text that a builder gives -/
theorem J_cpR {v n : Nat} {h : MH} {Q : MR → MH → Prop} (v1 : g_c h v = 103) (v2 : g_z h ≤ v) (v4 : v < g_t h) (v3 : g_n h v ≤ 150) (hn : n ≤ g_n h v) (hQ : ∀ f, Q (.inl (some (.ref (g_t h)))) (p_C (p_N h 103 n) (g_t h) f)) : Ok 284 0 [.ref v, .int 0, .int (Int32.ofNat n)] [] h 1 150 Q := by
  by_cases he : n = g_n h v
  · subst he
    have n1 : (v = g_t h) = False := eq_false (by omega)
    have e1 : (g_n h v ≤ 150) = True := eq_true v3
    have e2 : g_z h ≤ g_t h := by omega
    simp only [o284_0, o284_1, o284_4, o284_5, o284_6, o284_7, o284_10, o284_11, o284_12, o284_13, o284_17, o284_18, o284_21, o284_24, mc_pN, mc_pC, mz_pN, mz_pC, mcs_0, true_and, and_true, not_true_eq_false, false_implies, forall_const, if_true, and_self, Nat.reduceLeDiff, Nat.reduceSub, Nat.zero_le, Nat.le_refl, v1, v2, e1, e2]
    exact hQ _
  · have n1 : (v = g_t h) = False := eq_false (by omega)
    have e1 : (Int32.ofNat n = Int32.ofNat (g_n h v)) = False := by
      apply eq_false
      intro z
      have z2 := congrArg Int32.toNatClampNeg z
      rw [n_cl (by omega), n_cl (by omega)] at z2
      exact he z2
    have e2 : (Int32.ofNat n < 0) = False := n_z (by omega)
    have e3 : (Int32.ofNat n).toNatClampNeg = n := n_cl (by omega)
    have e4 : (n ≤ 67108864) = True := eq_true (by omega)
    have e5 : (n ≤ 150) = True := eq_true (by omega)
    have e6 : (Int32.ofNat n < Int32.ofNat (g_n h v)) = True := by rw [n_lt (by omega) (by omega)]; exact eq_true (by omega)
    have e7 : Int32.ofNat n - 0 = Int32.ofNat n := Int32.sub_zero _
    have e8 : Int32.ofNat (g_n h v) - 0 = Int32.ofNat (g_n h v) := Int32.sub_zero _
    have e9 : g_z h ≤ g_t h := by omega
    simp only [o284_0, o284_1, o284_4, o284_5, o284_6, o284_7, o284_10, o284_11, o284_12, o284_13, o284_16, o284_17, o284_18, o284_21, o284_24, o285_0, o285_1, o285_2, o285_5, o285_6, o285_7, o285_8, o285_9, o285_10, o285_12, o285_14, o285_15, o285_16, o285_18, o285_19, o285_20, o285_21, o285_22, o285_23, o285_24, o285_27, o285_30, o285_32, o283_0, o283_1, o283_2, o283_37, mc_pN, mc_pC, mn_pN, mz_pN, mz_pC, mcs_0, mcs_i, mcs_r, Kn_v, Kn_0, true_and, and_true, not_true_eq_false, not_false_eq_true, false_implies, forall_const, if_true, if_false, and_self, Nat.reduceLeDiff, Nat.reduceSub, Nat.reduceAdd, Nat.zero_le, Nat.le_refl, lt_le, Int32.reduceLT, cl0, v1, v2, n1, e1, e2, e3, e4, e5, e6, e7, e8, e9, hn, Nat.zero_add]
    exact hQ _
theorem Fx_Fr {sb dg : Nat} {h m : MH} (f : Fr h m) : Fx sb dg h m := ⟨f.1, f.2.1, f.2.2.1, fun a ha => ⟨(f.2.2.2 a ha).1, fun _ _ _ => (f.2.2.2 a ha).2⟩⟩
theorem o262_3n {l s : List Value} {v0 : Nat} {a : Nat} {bc bs : Nat} {h : MH} {Q : MR → MH → Prop} : Ok 262 3 l (.null :: .ref v0 :: .ref a :: s) h bc bs Q ↔ (g_c h a = 11) ∧ 1 ≤ bc ∧ 150 ≤ bs ∧ csum s ≤ 8 ∧ Ok 265 0 [.ref a, .ref v0, .null, mk0, mk0] [] h 1 150 (Kn 262 6 l s (bc - 1) (bs - 150) Q) := Ok_ca (dz183 (x := 489) (Pd (k := 3) pr262_0 rfl rfl) rfl) (si_I (show tI (tb_o 262 * 65536 + 489) = some (265, 2, 2, 11) by decide +kernel) (by decide) (show tb_k 265 = (1, 150) by decide +kernel) s_tk2) ⟨fun k => k.2, fun k => ⟨rfl, k⟩⟩ ⟨Nat.le_of_ble_eq_true rfl, Nat.le_of_ble_eq_true rfl⟩ rfl (by decide +kernel)
theorem o265_8z {a0 a1 a3 a4 : Value} {s : List Value} {x : Nat}  {bc bs : Nat} {h : MH} {Q : MR → MH → Prop} : Ok 265 8 [a0, a1, .null, a3, a4] (.ref x :: s) h bc bs Q ↔ Ok 265 9 [a0, a1, .null, (.ref x), a4] s h bc bs Q := Ok_n1 (dz78 (Pd (k := 8) pr265_0 rfl rfl)) rfl ⟨rfl, Nat.le_of_ble_eq_true rfl⟩
theorem J_str {sb n : Nat} {h : MH} {Q : MR → MH → Prop} (b : Bd sb n h) (hQ : ∀ m s, Fr h m → St s n m → g_t h ≤ s → Q (.inl (some (.ref s))) m) : Ok 275 0 [.ref sb] [] h 2 154 Q := by
  obtain ⟨c1, c2, c3, c4, c5, v, v1, v2, v3, v4, v5, v6⟩ := b
  have hc := capOk_le v5
  have n1 : (sb = g_t h) = False := eq_false (by omega)
  have n2 : (v = g_t h) = False := eq_false (by omega)
  have n3 : g_z h ≤ g_t h := by omega
  simp only [o275_0, o275_3, o275_4, o275_5, o262_0, o262_1, o262_2, o262_3n, o265_8z, o265_0, o265_1, o265_4, o265_5, o265_9, o265_10, o265_13, o265_15, o265_16, o265_19, o265_22, o265_23, o265_24, o265_27, o265_28, o265_29, o265_30, o265_32, J_getValue (v := v), J_len, J_isLatin1, mc_pN, mi_pN, mr_pN, mz_pN, mcs_0, mcs_r, Kn_v, true_and, not_false_eq_true, false_implies, forall_const, if_true, if_false, and_self, Nat.reduceLeDiff, Nat.reduceSub, Nat.reduceAdd, Nat.zero_le, Nat.le_refl, i10, c1, c4, c5, v1, n1, n3, kb0]
  refine J_cpR ?_ ?_ ?_ ?_ ?_ (fun f => ?_)
  · simp only [mc_pi, mc_pN, if_false, n2]; exact v2
  · exact v3
  · simp only [mt_pi, mt_pN]; omega
  · simp only [mn_pi, mn_pN, if_false, n2]; exact hc
  · simp only [mn_pi, mn_pN, if_false, n2]; exact v6
  have n4 : (g_t h = g_t h + 1) = False := eq_false (by omega)
  simp only [o275_8, o262_6, o265_35, o265_38, o265_97, mc_pi, mc_pN, mc_pC, mt_pi, mt_pN, mz_pi, mz_pN, mz_pC, Kn_v, Kn_0, true_and, if_true, if_false, and_self, n3, n4]
  refine hQ _ _ (Fr_pr (Fr_pC (Fr_pN (Fr_pi (Fr_pN Fr_rfl) (Nat.le_refl _))) (Nat.le_succ _)) (Nat.le_refl _)) ⟨?_, ?_, ?_, g_t h + 1, ?_, ?_, ?_, ?_⟩ (Nat.le_refl _)
  · simp only [mc_pi, mc_pr, mc_pN, mc_pC, mt_pi, mt_pN, if_true, if_false, n4]
  · simp only [mt_pi, mt_pr, mt_pN, mt_pC]; omega
  · simp only [mi_pi, mi_pr, mi_pN, mi_pC, mt_pi, mt_pN, if_true, if_false, and_self, n4]
  · simp only [mr_pi, mr_pr, mr_pN, mr_pC, mt_pi, mt_pN, if_true, and_self]
  · simp only [mc_pi, mc_pr, mc_pN, mc_pC, mt_pi, mt_pN, if_true]
  · simp only [mt_pi, mt_pr, mt_pN, mt_pC]; omega
  · simp only [mn_pi, mn_pr, mn_pN, mn_pC, mt_pi, mt_pN, if_true]

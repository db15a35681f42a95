set_option maxRecDepth 16384
/-! TEXTS of the class -/
theorem J_lenB {sb n : Nat} {h : MH} {Q : MR → MH → Prop} (b : Bd sb n h) : Ok 277 0 [.ref sb] [] h 0 0 Q ↔ Q (.inl (some (.int (Int32.ofNat n)))) h := by
  rw [J_len b.1, b.2.2.2.2.1]
/-- the words' object w: its builder sb, its row of digits dg -/
def Wo (w sb dg : Nat) (h : MH) : Prop := g_c h w = 6 ∧ w < g_t h ∧ g_r h w 0 = some sb ∧ g_r h w 1 = some dg ∧ g_c h dg = 104 ∧ g_z h ≤ dg ∧ dg < g_t h ∧ g_n h dg = 19 ∧ g_c h sb = 10
theorem Wo_Fx {w sb dg : Nat} {h m : MH} (o : Wo w sb dg h) (f : Fx sb dg h m) (hs : sb < g_t h) : Wo w sb dg m := by
  obtain ⟨o1, o2, o3, o4, o5, o6, o7, o8, o9⟩ := o
  obtain ⟨f1, f2, f3, f4⟩ := f
  have n1 : ¬ w = sb := fun z => by rw [z, o9] at o1; cases o1
  have n2 : ¬ w = dg := fun z => by rw [z, o5] at o1; cases o1
  obtain ⟨⟨a1, a2⟩, a3⟩ := f4 w o2
  obtain ⟨-, -, a4⟩ := a3 n1 n2 (by rw [o1]; decide)
  obtain ⟨⟨b1, b2⟩, -⟩ := f4 dg o7
  obtain ⟨⟨c1, -⟩, -⟩ := f4 sb hs
  exact ⟨a1.trans o1, by omega, (a4 0).trans o3, (a4 1).trans o4, b1.trans o5, by rw [f1]; exact o6, by omega, b2.trans o8, c1.trans o9⟩
theorem c_start {w sb dg n : Nat} {h : MH} {Q : MR → MH → Prop} (o : Wo w sb dg h) (b : Bd sb n h) (hQ : ∀ m, Fx sb dg h m → Bd sb 0 m → Q (.inl none) m) : Ok 52 0 [.ref w] [] h 1 150 Q := by
  obtain ⟨o1, o2, o3, o4, o5, o6, o7, o8, o9⟩ := o
  simp only [o52_0, o52_1, o52_4, o52_5, mcs_0, mrf_some, true_and, Nat.reduceSub, Nat.zero_le, Nat.le_refl, o1, o3, o9]
  refine J_set0 b (fun m f b' => ?_)
  simp only [o52_8, Kn_0]
  exact hQ m (Fx_w f) b'
theorem c_joined {w sb dg n : Nat} {h : MH} {Q : MR → MH → Prop} (o : Wo w sb dg h) (b : Bd sb n h) (hQ : ∀ m s, Fr h m → St s n m → g_t h ≤ s → Q (.inl (some (.ref s))) m) : Ok 55 0 [.ref w] [] h 2 154 Q := by
  obtain ⟨o1, o2, o3, o4, o5, o6, o7, o8, o9⟩ := o
  simp only [o55_0, o55_1, o55_4, mcs_0, mrf_some, true_and, Nat.reduceSub, Nat.zero_le, Nat.le_refl, o1, o3, o9]
  refine J_str b (fun m s f t hs => ?_)
  simp only [o55_7, Kn_v]
  exact hQ m s f t hs
theorem c_wlen {w sb dg n : Nat} {h : MH} {Q : MR → MH → Prop} (o : Wo w sb dg h) (b : Bd sb n h) : Ok 54 0 [.ref w] [] h 0 0 Q ↔ Q (.inl (some (.int (Int32.ofNat n)))) h := by
  obtain ⟨o1, o2, o3, o4, o5, o6, o7, o8, o9⟩ := o
  simp only [o54_0, o54_1, o54_4, o54_7, J_lenB b, mcs_0, Kn_v, mrf_some, true_and, Nat.zero_le, o1, o3, o9]
/-! where the first digit stands -/
def fdF : Nat → Nat → Nat → Nat
  | 0, _, s => s
  | A + 1, n, s => fdF A (n / 10) (if n % 10 = 0 then s else A)
theorem fdF_eq : ∀ (A n s : Nat), n < 10 ^ A → fdF A n s = if n = 0 then s else A - ndf (A - 1) n
  | 0, n, s, h => by
    have : n = 0 := by simpa using h
    rw [if_pos this]; rfl
  | A + 1, n, s, h => by
    have h2 : n / 10 < 10 ^ A := by
      rw [Nat.div_lt_iff_lt_mul (by decide), ← Nat.pow_succ]
      exact h
    unfold fdF
    rw [fdF_eq A (n / 10) _ h2]
    by_cases h0 : n = 0
    · subst h0; rfl
    · rw [if_neg h0]
      by_cases h1 : n < 10
      · have e1 : n / 10 = 0 := by omega
        have e2 : n % 10 = n := by omega
        rw [if_pos e1, e2, if_neg h0]
        have e3 : ndf (A + 1 - 1) n = 1 := by
          cases A with
          | zero => rfl
          | succ B => show ndf (B + 1) n = 1; unfold ndf; rw [if_pos h1]
        rw [e3]; omega
      · have e1 : ¬ n / 10 = 0 := by omega
        rw [if_neg e1]
        cases A with
        | zero => exfalso; have : n < 10 := by simpa using h
                  exact h1 this
        | succ B =>
          have e3 : ndf (B + 1 + 1 - 1) n = ndf B (n / 10) + 1 := by
            show ndf (B + 1) n = _
            rw [show ndf (B + 1) n = if n < 10 then 1 else ndf B (n / 10) + 1 from rfl, if_neg h1]
          rw [e3]
          show B + 1 - ndf B (n / 10) = _
          omega
theorem fd_val (n : Nat) (h : n ≤ 9223372036854775808) : fdF 19 n 18 = 19 - ndf 18 n := by
  rw [fdF_eq 19 n 18 (by omega)]
  by_cases h0 : n = 0
  · subst h0; rfl
  · rw [if_neg h0]
def atv : Nat → Int32
  | 0 => -1
  | A + 1 => Int32.ofNat A
theorem r10_abs (r : Int64) : (r / 10).toInt.natAbs = r.toInt.natAbs / 10 := by
  have h1 := r.toInt_lt
  have h2 := r.le_toInt
  have e := Int.natAbs_tdiv r.toInt 10
  have e2 : (10 : Int).natAbs = 10 := rfl
  rw [e2] at e
  have e3 : (r.toInt.tdiv 10).natAbs = r.toInt.natAbs / 10 := e
  rw [Int64.toInt_div, c100.2.2.1, Int.bmod_eq_of_le (by omega) (by omega), e3]
theorem r10_rem (r : Int64) : (r - r / 10 * 10).toInt32.toInt = r.toInt.tmod 10 := by
  have h1 := r.toInt_lt
  have h2 := r.le_toInt
  have e := Int.natAbs_tdiv r.toInt 10
  have e2 : (10 : Int).natAbs = 10 := rfl
  rw [e2] at e
  have e' : (r.toInt.tdiv 10).natAbs = r.toInt.natAbs / 10 := e
  have e3 := Int.tmod_add_tdiv_mul r.toInt 10
  have e4 := Int.natAbs_tmod r.toInt 10
  rw [e2] at e4
  have e5 : r.toInt.natAbs % 10 < 10 := Nat.mod_lt _ (by decide)
  have e6 : (r / 10).toInt = r.toInt.tdiv 10 := by
    rw [Int64.toInt_div, c100.2.2.1, Int.bmod_eq_of_le (by omega) (by omega)]
  rw [Int64.toInt_toInt32, Int64.toInt_sub, Int64.toInt_mul, c100.2.2.1, e6, Int.bmod_eq_of_le (n := r.toInt.tdiv 10 * 10) (by omega) (by omega), Int.bmod_eq_of_le (n := r.toInt - r.toInt.tdiv 10 * 10) (by omega) (by omega), Int.bmod_eq_of_le (by omega) (by omega)]
  omega
theorem ab10 (r : Int64) {d : Decidable (¬ (r - r / 10 * 10).toInt32 < 0)} : (@ite _ (¬ (r - r / 10 * 10).toInt32 < 0) d (r - r / 10 * 10).toInt32 (0 - (r - r / 10 * 10).toInt32)) = Int32.ofNat (r.toInt.natAbs % 10) := by
  have e1 := r10_rem r
  have e4 := Int.natAbs_tmod r.toInt 10
  have e2 : (10 : Int).natAbs = 10 := rfl
  rw [e2] at e4
  have e5 : r.toInt.natAbs % 10 < 10 := Nat.mod_lt _ (by decide)
  apply Int32.toInt_inj.mp
  rw [nat_t (by omega)]
  by_cases h : (r - r / 10 * 10).toInt32 < 0
  · rw [if_neg (fun z => z h)]
    rw [Int32.lt_iff_toInt_lt, e1, show (0 : Int32).toInt = 0 from rfl] at h
    rw [Int32.toInt_sub, e1, show (0 : Int32).toInt = 0 from rfl, Int.bmod_eq_of_le (by omega) (by omega)]
    omega
  · rw [if_pos h]
    rw [Int32.lt_iff_toInt_lt, e1, show (0 : Int32).toInt = 0 from rfl] at h
    rw [e1]
    omega
theorem chv_all : ∀ k ∈ List.range 10, ¬ (255 : Int32) < vp_nar .char (((48 : Int32) + Int32.ofNat k).toUInt32 % 65536).toInt32 := by decide +kernel
theorem chv (n : Nat) : ¬ (255 : Int32) < vp_nar .char (((48 : Int32) + Int32.ofNat (n % 10)).toUInt32 % 65536).toInt32 := chv_all _ (List.mem_range.mpr (Nat.mod_lt _ (by decide)))
theorem nz10 (n : Nat) : (Int32.ofNat (n % 10) = 0) = (n % 10 = 0) := by
  apply propext
  constructor
  · intro z
    have := congrArg Int32.toNatClampNeg z
    rw [n_cl (by omega)] at this
    exact this
  · intro z
    rw [z]; rfl
theorem n_dec1 (A : Nat) (h : A < 1000) : Int32.ofNat A + -1 = atv A := by
  cases A with
  | zero => rfl
  | succ B => exact n_dec (by omega) (by omega)
theorem t10 : ((10 : Int64) = 0) = False := by decide
theorem z00 : (Int32.ofNat 0 = (0 : Int32)) = True := eq_true rfl
theorem fd_loop {w sb dg : Nat} {h : MH} {v0 : Value} {Q : MR → MH → Prop} (o : Wo w sb dg h) : ∀ (A : Nat) (r : Int64) (s : Nat) (f : Nat → Int32) (a7 : Value), A ≤ 19 → (∀ k, A ≤ k → k < 19 → ¬ 255 < f k) → (∀ g : Nat → Int32, (∀ k, k < 19 → ¬ 255 < g k) → Q (.inl (some (.int (Int32.ofNat (fdF A r.toInt.natAbs s))))) (p_C h dg g)) →
    Ok 56 20 [.ref w, v0, mk0, .int (Int32.ofNat s), .long r, mk0, .int (atv A), a7] [] (p_C h dg f) 0 0 Q
  | 0, r, s, f, a7, hA, hf, hQ => by
    have c1 : (atv 0 < 0) = True := by decide
    rw [o56_20]
    simp only [o56_22, o56_25, o56_27, o56_30, o56_31, o56_32, o56_35, o56_37, o56_38, o56_41, o56_43, o56_45, o56_47, o56_48, o56_76, o56_77, mc_pC, mr_pC, mcs_0, true_and, and_true, not_true_eq_false, false_implies, forall_const, Nat.zero_le, lt_le, c1]
    exact hQ f (fun k hk => hf k (Nat.zero_le _) hk)
  | A + 1, r, s, f, a7, hA, hf, hQ => by
    obtain ⟨o1, o2, o3, o4, o5, o6, o7, o8, o9⟩ := o
    have c1 : (atv (A + 1) < 0) = False := n_z (a := A) (by omega)
    have c2 : atv (A + 1) = Int32.ofNat A := rfl
    have c3 : vp_in (Int32.ofNat A) 19 := vp_of (by omega) (by omega)
    have c4 : (Int32.ofNat A).toNatClampNeg = A := n_cl (by omega)
    have c5 := n_dec1 A (by omega)
    have c6 := nz10 r.toInt.natAbs
    have hf2 : ∀ k, A ≤ k → k < 19 → ¬ 255 < (fun j => if j = A then vp_nar .char (((48 : Int32) + Int32.ofNat (r.toInt.natAbs % 10)).toUInt32 % 65536).toInt32 else f j) k := fun k h1 h2 => by
      show ¬ 255 < (if k = A then _ else f k)
      by_cases hk : k = A
      · rw [if_pos hk]; exact chv _
      · rw [if_neg hk]; exact hf k (by omega) h2
    have hr := r10_abs r
    rw [c2] at c1
    rw [o56_20, c2]
    by_cases h0 : r.toInt.natAbs % 10 = 0
    · have lp := fd_loop (v0 := v0) (Q := Q) ⟨o1, o2, o3, o4, o5, o6, o7, o8, o9⟩ A (r / 10) s _ (.int (Int32.ofNat (r.toInt.natAbs % 10))) (by omega) hf2 (fun g hg => by
        rw [hr]
        have z := hQ g hg
        unfold fdF at z
        rw [if_pos h0] at z
        exact z)
      simp only [o56_22, o56_25, o56_27, o56_30, o56_31, o56_32, o56_35, o56_37, o56_38, o56_41, o56_43, o56_45, o56_47, o56_48, o56_49, o56_50, o56_52, o56_55, o56_56, o56_59, o56_61, o56_62, o56_64, o56_67, o56_68, o56_70, o56_73, mc_pC, mn_pC, mr_pC, mz_pC, mcs_0, mrf_some, true_and, not_true_eq_false, not_false_eq_true, false_implies, forall_const, and_self, Nat.zero_le, lt_le, pC_pi, o1, o4, o5, o6, o8, c1, c3, c4, c5, ab10, h0, t10, z00]
      rw [h0] at lp
      exact lp
    · have lp := fd_loop (v0 := v0) (Q := Q) ⟨o1, o2, o3, o4, o5, o6, o7, o8, o9⟩ A (r / 10) A _ (.int (Int32.ofNat (r.toInt.natAbs % 10))) (by omega) hf2 (fun g hg => by
        rw [hr]
        have z := hQ g hg
        unfold fdF at z
        rw [if_neg h0] at z
        exact z)
      simp only [o56_22, o56_25, o56_27, o56_30, o56_31, o56_32, o56_35, o56_37, o56_38, o56_41, o56_43, o56_45, o56_47, o56_48, o56_49, o56_50, o56_52, o56_55, o56_56, o56_59, o56_61, o56_62, o56_64, o56_67, o56_68, o56_70, o56_73, mc_pC, mn_pC, mr_pC, mz_pC, mcs_0, mrf_some, true_and, and_true, not_false_eq_true, false_implies, forall_const, and_self, Nat.zero_le, lt_le, pC_pi, o1, o4, o5, o6, o8, c1, c3, c4, c5, c6, ab10, h0, t10]
      exact lp
theorem c_fd {w sb dg : Nat} {h : MH} {v : Int64} {Q : MR → MH → Prop} (o : Wo w sb dg h) (hQ : ∀ g : Nat → Int32, (∀ k, k < 19 → ¬ 255 < g k) → Q (.inl (some (.int (Int32.ofNat (19 - ndf 18 v.toInt.natAbs))))) (p_C h dg g)) : Ok 56 0 [.ref w, .long v, mk0, mk0, mk0, mk0, mk0, mk0] [] h 0 0 Q := by
  have lp := fd_loop (v0 := .long v) (Q := Q) o 19 v 18 (fun j => g_i h dg j) mk0 (by decide) (fun k h1 h2 => by omega) (fun g hg => by
    rw [fd_val _ (i64_abs v)]
    exact hQ g hg)
  rw [pC_self] at lp
  obtain ⟨o1, o2, o3, o4, o5, o6, o7, o8, o9⟩ := o
  have c1 : Int32.ofNat 19 - 1 = Int32.ofNat 18 := by decide
  have c2 : atv 19 = Int32.ofNat 18 := rfl
  rw [c2] at lp
  simp only [o56_0, o56_1, o56_4, o56_5, o56_6, o56_7, o56_8, o56_9, o56_11, o56_12, o56_15, o56_16, o56_17, o56_18, mrf_some, true_and, and_self, Nat.reduceLeDiff, o1, o4, o5, o8, c1]
  exact lp
def Dg (dg : Nat) (h : MH) : Prop := ∀ k, k < 19 → ¬ 255 < g_i h dg k
theorem Dg_Fx {w sb dg : Nat} {h m : MH} (d : Dg dg h) (o : Wo w sb dg h) (f : Fx sb sb h m) : Dg dg m := by
  obtain ⟨o1, o2, o3, o4, o5, o6, o7, o8, o9⟩ := o
  have n1 : ¬ dg = sb := fun z => by rw [z, o9] at o5; cases o5
  obtain ⟨-, a3⟩ := f.2.2.2 dg o7
  obtain ⟨a4, -, -⟩ := a3 n1 n1 (by rw [o5]; decide)
  intro k hk
  rw [a4]
  exact d k hk
theorem add_loop {w sb dg : Nat} {v0 : Value} {Q : MR → MH → Prop} : ∀ (k i n : Nat) (m : MH), i + k = 19 → Wo w sb dg m → Dg dg m → Bd sb n m → n + k ≤ 142 → (∀ q, Fx sb dg m q → Bd sb (n + k) q → Q (.inl none) q) →
    Ok 53 42 [.ref w, v0, mk0, .int (Int32.ofNat i)] [] m k (150 * k) Q
  | 0, i, n, m, hi, o, d, b, hn, hQ => by
    obtain ⟨o1, o2, o3, o4, o5, o6, o7, o8, o9⟩ := o
    have c1 : i = 19 := by omega
    subst c1
    rw [o53_42]
    simp only [o53_43, o53_44, o53_47, o53_48, o53_51, o53_52, o53_55, o53_56, o53_59, o53_60, o53_71, mrf_some, true_and, and_true, not_true_eq_false, not_false_eq_true, false_implies, forall_const, and_self, Nat.reduceLeDiff, lt_le, o1, o4, o5, o8, n_irr]
    exact hQ m Fx_rfl b
  | k + 1, i, n, m, hi, o, d, b, hn, hQ => by
    have o0 := o
    obtain ⟨o1, o2, o3, o4, o5, o6, o7, o8, o9⟩ := o0
    have c1 : (Int32.ofNat i < Int32.ofNat 19) = True := by rw [n_lt (by omega) (by omega)]; exact eq_true (by omega)
    have c3 : vp_in (Int32.ofNat i) 19 := vp_of (by omega) (by omega)
    have c4 : (Int32.ofNat i).toNatClampNeg = i := n_cl (by omega)
    have c5 : Int32.ofNat i + 1 = Int32.ofNat (i + 1) := n_add i 1
    have c6 : (1 ≤ k + 1) = True := eq_true (by omega)
    have c7 : (150 ≤ 150 * (k + 1)) = True := eq_true (by omega)
    have c8 : 150 * (k + 1) - 150 = 150 * k := by omega
    have c9 : k + 1 - 1 = k := by omega
    rw [o53_42]
    simp only [o53_43, o53_44, o53_47, o53_48, o53_51, o53_52, o53_55, o53_56, o53_59, o53_60, o53_61, mcs_0, mrf_some, true_and, not_true_eq_false, not_false_eq_true, false_implies, forall_const, and_self, Nat.reduceLeDiff, Nat.zero_le, lt_le, o1, o3, o4, o5, o8, o9, c1, c3, c4, c6, c7, c8, c9]
    refine J_apC4 b (by omega) (d i (by omega)) (fun m2 f b2 => ?_)
    simp only [o53_64, o53_65, o53_68, Kn_v, c5]
    exact add_loop k (i + 1) (n + 1) m2 (by omega) (Wo_Fx o (Fx_w f) b.2.2.1) (Dg_Fx d o f) b2 (by omega) (fun q f2 b3 => hQ q (Fx_tr (Fx_w f) f2) (by rw [show n + (k + 1) = n + 1 + k by omega]; exact b3))
theorem Bd_pC {w sb dg n : Nat} {h : MH} {g : Nat → Int32} (b : Bd sb n h) (o : Wo w sb dg h) : Bd sb n (p_C h dg g) := by
  obtain ⟨c1, c2, c3, c4, c5, v, v1, v2, v3, v4, v5, v6⟩ := b
  have n1 : ¬ sb = dg := fun z => by have := o.2.2.2.2.1; rw [← z, c1] at this; cases this
  exact ⟨c1, c2, c3, by rw [mi_pC, if_neg n1]; exact c4, by rw [mi_pC, if_neg n1]; exact c5, v, v1, v2, v3, v4, v5, v6⟩
/-- from the digits on -/
theorem c_add36 {w sb dg n : Nat} {h : MH} {v : Int64} {a3 : Value} {Q : MR → MH → Prop} (o : Wo w sb dg h) (b : Bd sb n h) (hn : n + ndf 18 v.toInt.natAbs ≤ 142) (hQ : ∀ m, Fx sb dg h m → Bd sb (n + ndf 18 v.toInt.natAbs) m → Q (.inl none) m) : Ok 53 36 [.ref w, .long v, mk0, a3] [] h 19 2850 Q := by
  have o0 := o
  obtain ⟨o1, o2, o3, o4, o5, o6, o7, o8, o9⟩ := o0
  have p1 := ndf_pos 18 v.toInt.natAbs
  have p2 := ndf_le_f 18 v.toInt.natAbs
  simp only [o53_36, o53_37, o53_38, mcs_0, true_and, Nat.zero_le, o1]
  refine c_fd o (fun g hg => ?_)
  have f1 : Fx sb dg h (p_C h dg g) := Fx_pC Fx_rfl (Or.inr (Or.inl rfl))
  have d1 : Dg dg (p_C h dg g) := fun k hk => by rw [mi_pC, if_pos rfl]; exact hg k hk
  have lp := add_loop (v0 := .long v) (Q := Q) (ndf 18 v.toInt.natAbs) (19 - ndf 18 v.toInt.natAbs) n (p_C h dg g) (by omega) (Wo_Fx o f1 b.2.2.1) d1 (Bd_pC b o) hn (fun q f b3 => hQ q (Fx_tr f1 f) b3)
  simp only [o53_41, Kn_v]
  exact Ok_le lp _ _ (by omega) (by omega)
theorem c_add20 {w sb dg n : Nat} {h : MH} {v : Int64} {a3 : Value} {Q : MR → MH → Prop} (o : Wo w sb dg h) (b : Bd sb n h) (hn : n + tsz v ≤ 142) (hQ : ∀ m, Fx sb dg h m → Bd sb (n + tsz v) m → Q (.inl none) m) : Ok 53 20 [.ref w, .long v, mk0, a3] [] h 20 3000 Q := by
  have o0 := o
  obtain ⟨o1, o2, o3, o4, o5, o6, o7, o8, o9⟩ := o0
  have c45 : ¬ 255 < (45 : Int32) := by decide
  unfold tsz at hn hQ
  by_cases hv : v < 0
  · rw [if_pos hv] at hn hQ
    simp only [o53_20, o53_21, o53_22, o53_23, o53_26, o53_27, o53_30, o53_32, mcs_0, mrf_some, true_and, not_true_eq_false, not_false_eq_true, false_implies, forall_const, Nat.reduceLeDiff, Nat.reduceSub, Nat.zero_le, lt_le, lg_cmp_lt, hv, o1, o3, o9]
    refine J_apC4 b (by omega) c45 (fun m f b2 => ?_)
    simp only [o53_35, Kn_v]
    exact c_add36 (Wo_Fx o (Fx_w f) b.2.2.1) b2 (by omega) (fun q f2 b3 => hQ q (Fx_tr (Fx_w f) f2) (by rw [← Nat.add_assoc]; exact b3))
  · rw [if_neg hv, Nat.zero_add] at hn hQ
    simp only [o53_20, o53_21, o53_22, o53_23, and_true, not_true_eq_false, not_false_eq_true, false_implies, forall_const, lt_le, lg_cmp_lt, hv]
    exact Ok_le (c_add36 o b hn hQ) _ _ (by decide) (by decide)
def sep (n : Nat) : Nat := if n = 0 then 0 else 1
theorem c_add {w sb dg n : Nat} {h : MH} {v : Int64} {Q : MR → MH → Prop} (o : Wo w sb dg h) (b : Bd sb n h) (hn : n + sep n + tsz v ≤ 142) (hQ : ∀ m, Fx sb dg h m → Bd sb (n + sep n + tsz v) m → Q (.inl none) m) : Ok 53 0 [.ref w, .long v, mk0, mk0] [] h 21 3150 Q := by
  have o0 := o
  obtain ⟨o1, o2, o3, o4, o5, o6, o7, o8, o9⟩ := o0
  have c32 : ¬ 255 < (32 : Int32) := by decide
  unfold sep at hn hQ
  by_cases h0 : n = 0
  · rw [if_pos h0, Nat.add_zero] at hn hQ
    have c1 : (0 < Int32.ofNat n) = False := by rw [h0]; decide
    simp only [o53_0, o53_1, o53_4, o53_7, J_lenB b, mcs_0, Kn_v, mrf_some, true_and, and_true, not_true_eq_false, not_false_eq_true, false_implies, forall_const, Nat.zero_le, lt_le, o1, o3, o9, c1]
    exact Ok_le (c_add20 o b hn hQ) _ _ (by decide) (by decide)
  · rw [if_neg h0] at hn hQ
    have c1 : (0 < Int32.ofNat n) = True := by rw [show (0 : Int32) = Int32.ofNat 0 from rfl, n_lt (by omega) (by omega)]; exact eq_true (by omega)
    simp only [o53_0, o53_1, o53_4, o53_7, o53_10, o53_11, o53_14, o53_16, J_lenB b, mcs_0, Kn_v, mrf_some, true_and, not_true_eq_false, not_false_eq_true, false_implies, forall_const, Nat.reduceLeDiff, Nat.reduceSub, Nat.zero_le, lt_le, o1, o3, o9, c1]
    refine J_apC4 b (by omega) c32 (fun m f b2 => ?_)
    simp only [o53_19, Kn_v]
    exact c_add20 (Wo_Fx o (Fx_w f) b.2.2.1) b2 hn (fun q f2 b3 => hQ q (Fx_tr (Fx_w f) f2) b3)

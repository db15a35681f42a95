set_option maxRecDepth 16384
/-! TEXTS: digits, frames, the builder -/
theorem sh0 (x : Int32) : x >>> ((0 : Int32) &&& 31) = x := by
  rw [show (0 : Int32) &&& 31 = 0 from rfl]; simp
theorem shl0 (x : Int32) : x <<< ((0 : Int32) &&& 31) = x := by
  rw [show (0 : Int32) &&& 31 = 0 from rfl]; simp
theorem n_pos {a b : Nat} (ha : a < 1000000) (hb : b < 1000000) : (0 < Int32.ofNat a - Int32.ofNat b) = (b < a) := by
  apply propext
  rw [Int32.lt_iff_toInt_lt, Int32.toInt_sub, Int32.toInt_ofNat_of_lt (by omega), Int32.toInt_ofNat_of_lt (by omega), Int.bmod_eq_of_le (by omega) (by omega), show (0 : Int32).toInt = 0 from rfl]
  omega
/-- how many decimal digits -/
def ndf : Nat → Nat → Nat
  | 0, _ => 1
  | f + 1, n => if n < 10 then 1 else ndf f (n / 10) + 1
theorem ndf_pos (f n : Nat) : 1 ≤ ndf f n := by
  cases f with
  | zero => exact Nat.le_refl 1
  | succ f => unfold ndf; split <;> omega
theorem ndf_le_f (f n : Nat) : ndf f n ≤ f + 1 := by
  induction f generalizing n with
  | zero => exact Nat.le_refl 1
  | succ f ih =>
    unfold ndf
    split
    · omega
    · have := ih (n / 10); omega
theorem ndf_le : ∀ (f n i : Nat), 1 ≤ i → i ≤ f → (ndf f n ≤ i ↔ n < 10 ^ i)
  | 0, n, i, h1, h2 => by omega
  | f + 1, n, i, h1, h2 => by
    unfold ndf
    have hp : 10 ≤ 10 ^ i := by
      have := Nat.pow_le_pow_right (n := 10) (by decide) h1
      omega
    by_cases h : n < 10
    · rw [if_pos h]
      exact ⟨fun _ => by omega, fun _ => h1⟩
    · rw [if_neg h]
      cases i with
      | zero => omega
      | succ j =>
        by_cases hj : j = 0
        · subst hj
          have := ndf_pos f (n / 10)
          constructor
          · intro z; omega
          · intro z; exact absurd z (by omega)
        · have := ndf_le f (n / 10) j (by omega) (by omega)
          rw [Nat.pow_succ, ← Nat.div_lt_iff_lt_mul (by decide), ← this]
          omega
def tsz (v : Int64) : Nat := (if v < 0 then 1 else 0) + ndf 18 v.toInt.natAbs
theorem tsz_pos (v : Int64) : 1 ≤ tsz v := by
  unfold tsz
  have := ndf_pos 18 v.toInt.natAbs
  omega
theorem tsz_le (v : Int64) : tsz v ≤ 20 := by
  unfold tsz
  have := ndf_le_f 18 v.toInt.natAbs
  split <;> omega
/-- frames of texts: bytes, the builder sb and the row dg may change; new cells above -/
def Fx (sb dg : Nat) (h m : MH) : Prop := g_z m = g_z h ∧ g_t h ≤ g_t m ∧ (∀ j, g_a m j = g_a h j) ∧ ∀ a, a < g_t h → (g_c m a = g_c h a ∧ g_n m a = g_n h a) ∧ (¬ a = sb → ¬ a = dg → ¬ g_c h a = 103 → (∀ k, g_i m a k = g_i h a k) ∧ (∀ k, g_l m a k = g_l h a k) ∧ ∀ k, g_r m a k = g_r h a k)
section
variable {sb dg : Nat} {h m q : MH}
theorem Fx_rfl : Fx sb dg h h := ⟨rfl, Nat.le_refl _, fun _ => rfl, fun _ _ => ⟨⟨rfl, rfl⟩, fun _ _ _ => ⟨fun _ => rfl, fun _ => rfl, fun _ => rfl⟩⟩⟩
theorem Fx_tr (f : Fx sb dg h m) (g : Fx sb dg m q) : Fx sb dg h q := by
  obtain ⟨f1, f2, f3, f4⟩ := f
  obtain ⟨g1, g2, g3, g4⟩ := g
  refine ⟨g1.trans f1, Nat.le_trans f2 g2, fun j => (g3 j).trans (f3 j), fun a ha => ?_⟩
  obtain ⟨⟨a1, a2⟩, a3⟩ := f4 a ha
  obtain ⟨⟨b1, b2⟩, b3⟩ := g4 a (by omega)
  refine ⟨⟨b1.trans a1, b2.trans a2⟩, fun n1 n2 n3 => ?_⟩
  obtain ⟨c1, c2, c3⟩ := a3 n1 n2 n3
  obtain ⟨d1, d2, d3⟩ := b3 n1 n2 (by rw [a1]; exact n3)
  exact ⟨fun k => (d1 k).trans (c1 k), fun k => (d2 k).trans (c2 k), fun k => (d3 k).trans (c3 k)⟩
theorem Fx_w (f : Fx sb sb h m) : Fx sb dg h m := ⟨f.1, f.2.1, f.2.2.1, fun a ha => ⟨(f.2.2.2 a ha).1, fun n1 _ n3 => (f.2.2.2 a ha).2 n1 n1 n3⟩⟩
def fxa (sb dg : Nat) (h m : MH) (a : Nat) : Prop := a = sb ∨ a = dg ∨ g_c m a = 103 ∨ g_t h ≤ a
theorem fxa_ne {a b : Nat} (e : g_c m b = g_c h b) (ha : fxa sb dg h m a) (hb : b < g_t h) (n1 : ¬ b = sb) (n2 : ¬ b = dg) (n3 : ¬ g_c h b = 103) : ¬ b = a := by
  intro z
  subst z
  rcases ha with z | z | z | z
  · exact n1 z
  · exact n2 z
  · exact n3 (e ▸ z)
  · omega
theorem Fx_pi {a k : Nat} {v : Int32} (f : Fx sb dg h m) (ha : fxa sb dg h m a) : Fx sb dg h (p_i m a k v) := by
  obtain ⟨f1, f2, f3, f4⟩ := f
  refine ⟨f1, f2, f3, fun b hb => ?_⟩
  obtain ⟨e1, e3⟩ := f4 b hb
  refine ⟨e1, fun n1 n2 n3 => ?_⟩
  obtain ⟨c1, c2, c3⟩ := e3 n1 n2 n3
  exact ⟨fun j => by rw [mi_pi, if_neg (fun z => fxa_ne e1.1 ha hb n1 n2 n3 z.1)]; exact c1 j, c2, c3⟩
theorem Fx_pr {a k : Nat} {v : Option Nat} (f : Fx sb dg h m) (ha : fxa sb dg h m a) : Fx sb dg h (p_r m a k v) := by
  obtain ⟨f1, f2, f3, f4⟩ := f
  refine ⟨f1, f2, f3, fun b hb => ?_⟩
  obtain ⟨e1, e3⟩ := f4 b hb
  refine ⟨e1, fun n1 n2 n3 => ?_⟩
  obtain ⟨c1, c2, c3⟩ := e3 n1 n2 n3
  exact ⟨c1, c2, fun j => by rw [mr_pr, if_neg (fun z => fxa_ne e1.1 ha hb n1 n2 n3 z.1)]; exact c3 j⟩
theorem Fx_pC {a : Nat} {v : Nat → Int32} (f : Fx sb dg h m) (ha : fxa sb dg h m a) : Fx sb dg h (p_C m a v) := by
  obtain ⟨f1, f2, f3, f4⟩ := f
  refine ⟨f1, f2, f3, fun b hb => ?_⟩
  obtain ⟨e1, e3⟩ := f4 b hb
  refine ⟨e1, fun n1 n2 n3 => ?_⟩
  obtain ⟨c1, c2, c3⟩ := e3 n1 n2 n3
  exact ⟨fun j => by rw [mi_pC, if_neg (fun z => fxa_ne e1.1 ha hb n1 n2 n3 z)]; exact c1 j, c2, c3⟩
theorem Fx_pN {t n : Nat} (f : Fx sb dg h m) : Fx sb dg h (p_N m t n) := by
  obtain ⟨f1, f2, f3, f4⟩ := f
  refine ⟨f1, by rw [mt_pN]; omega, f3, fun b hb => ?_⟩
  have hne : ¬ b = g_t m := by omega
  obtain ⟨⟨e1, e2⟩, e3⟩ := f4 b hb
  refine ⟨⟨by rw [mc_pN, if_neg hne]; exact e1, by rw [mn_pN, if_neg hne]; exact e2⟩, fun n1 n2 n3 => ?_⟩
  obtain ⟨c1, c2, c3⟩ := e3 n1 n2 n3
  exact ⟨fun j => by rw [mi_pN, if_neg hne]; exact c1 j, fun j => by rw [ml_pN, if_neg hne]; exact c2 j, fun j => by rw [mr_pN, if_neg hne]; exact c3 j⟩
end
/-- the builder at sb: Latin-1, n signs in it -/
def Bd (sb n : Nat) (h : MH) : Prop := g_c h sb = 10 ∧ g_z h ≤ sb ∧ sb < g_t h ∧ g_i h sb 1 = 0 ∧ g_i h sb 3 = Int32.ofNat n ∧ ∃ v, g_r h sb 0 = some v ∧ g_c h v = 103 ∧ g_z h ≤ v ∧ v < g_t h ∧ capOk (g_n h v) ∧ n ≤ g_n h v
theorem capOk_le {c : Nat} (h : capOk c) : c ≤ 150 := by
  unfold capOk at h
  omega
theorem kb0 : kok 4 0 = True := by
  apply eq_true
  unfold kok
  decide
theorem J_isLatin1 {sb : Nat} {h : MH} {Q : MR → MH → Prop} (b1 : g_c h sb = 10) (b2 : g_i h sb 1 = 0) : Ok 255 0 [.ref sb] [] h 0 0 Q ↔ Q (.inl (some (.int 1))) h := by
  simp only [o255_0, o255_3, o255_6, o255_7, o255_10, o255_13, o255_14, o255_17, o255_18, true_and, not_true_eq_false, not_false_eq_true, false_implies, forall_const, i10, kz0, kz1, b1, b2]
theorem J_alen {sb : Nat} {h : MH} {Q : MR → MH → Prop} (b1 : g_c h sb = 10) : Ok 246 0 [.ref sb] [] h 0 0 Q ↔ Q (.inl (some (.int (g_i h sb 3)))) h := by
  simp only [o246_0, o246_1, o246_4, true_and, b1]
theorem J_len {sb : Nat} {h : MH} {Q : MR → MH → Prop} (b1 : g_c h sb = 10) : Ok 277 0 [.ref sb] [] h 0 0 Q ↔ Q (.inl (some (.int (g_i h sb 3)))) h := by
  simp only [o277_0, o277_1, o277_4, J_alen b1, mcs_0, Kn_v, true_and, Nat.zero_le, b1]
theorem J_getValue {sb v : Nat} {h : MH} {Q : MR → MH → Prop} (b1 : g_c h sb = 10) (b2 : g_r h sb 0 = some v) : Ok 254 0 [.ref sb] [] h 0 0 Q ↔ Q (.inl (some (.ref v))) h := by
  simp only [o254_0, o254_1, o254_4, mrf_some, true_and, b1, b2]
theorem J_scoder {s : Nat} {h : MH} {Q : MR → MH → Prop} (b1 : g_c h s = 11) (b2 : g_i h s 1 = 0) : Ok 266 0 [.ref s] [] h 0 0 Q ↔ Q (.inl (some (.int 0))) h := by
  simp only [o266_0, o266_3, o266_6, o266_7, o266_10, o266_13, o266_14, true_and, not_false_eq_true, false_implies, forall_const, i10, b1, b2, kb0]
theorem k10 : (101 ≤ 103) = True ∧ (103 ≤ 107) = True := by decide
theorem J_slen {s v : Nat} {h : MH} {Q : MR → MH → Prop} (b1 : g_c h s = 11) (b2 : g_i h s 1 = 0) (b3 : g_r h s 0 = some v) (b4 : g_c h v = 103) : Ok 263 0 [.ref s] [] h 0 0 Q ↔ Q (.inl (some (.int (Int32.ofNat (g_n h v))))) h := by
  simp only [o263_0, o263_1, o263_4, o263_5, o263_6, o263_9, o263_10, J_scoder b1 b2, mcs_0, mcs_i, Kn_v, mrf_some, true_and, and_self, Nat.reduceLeDiff, Nat.reduceAdd, b1, b3, b4, sh0]
/-- the new length of a builder's row -/
theorem J_newLength {c x : Nat} {h : MH} {Q : MR → MH → Prop} (hc : c < x) (hx : x ≤ 1000) : Ok 286 0 [.int (Int32.ofNat c), .int (Int32.ofNat (x - c)), .int (Int32.ofNat (c + 2)), mk0] [] h 0 0 Q ↔ Q (.inl (some (.int (Int32.ofNat (if x ≤ c + c + 2 then c + c + 2 else x))))) h := by
  have e1 : (Int32.ofNat (x - c) < Int32.ofNat (c + 2)) = (x - c < c + 2) := n_lt (by omega) (by omega)
  have e2 : ∀ y : Nat, 0 < y → y ≤ 3000 → (0 < Int32.ofNat y) = True := fun y h0 h1 => by
    rw [show (0 : Int32) = Int32.ofNat 0 from rfl, n_lt (by omega) (by omega)]
    exact eq_true h0
  have e3 : ∀ y : Nat, y ≤ 3000 → (2147483639 < Int32.ofNat y) = False := fun y h1 => by
    rw [show (2147483639 : Int32) = Int32.ofNat 2147483639 from rfl, n_lt (by omega) (by omega)]
    exact eq_false (by omega)
  by_cases hh : x - c < c + 2
  · have e4 : (if x ≤ c + c + 2 then c + c + 2 else x) = c + (c + 2) := by
      rw [if_pos (by omega)]; omega
    rw [e4]
    simp only [o286_0, o286_1, o286_2, o286_3, o286_6, o286_7, o286_8, o286_9, o286_10, o286_13, o286_14, o286_16, o286_19, o286_20, o286_21, o286_22, mcs_0, mcs_i, true_and, not_true_eq_false, not_false_eq_true, false_implies, forall_const, if_true, Nat.reduceLeDiff, Nat.reduceAdd, lt_le, e1, hh, n_add, e2 (c + (c + 2)) (by omega) (by omega), e3 (c + (c + 2)) (by omega)]
  · have e4 : (if x ≤ c + c + 2 then c + c + 2 else x) = c + (x - c) := by
      split <;> omega
    rw [e4]
    simp only [o286_0, o286_1, o286_2, o286_3, o286_6, o286_7, o286_8, o286_9, o286_10, o286_13, o286_14, o286_16, o286_19, o286_20, o286_21, o286_22, mcs_0, mcs_i, true_and, not_true_eq_false, not_false_eq_true, false_implies, forall_const, if_false, Nat.reduceLeDiff, Nat.reduceAdd, lt_le, e1, hh, n_add, e2 (c + (x - c)) (by omega) (by omega), e3 (c + (x - c)) (by omega)]
theorem J_newCapacity {sb v x : Nat} {h : MH} {Q : MR → MH → Prop} (b1 : g_c h sb = 10) (b2 : g_i h sb 1 = 0) (b3 : g_r h sb 0 = some v) (b4 : g_c h v = 103) (hc : g_n h v < x) (hx : x ≤ 1000) : Ok 248 0 [.ref sb, .int (Int32.ofNat x), mk0, mk0, mk0, mk0] [] h 0 0 Q ↔ Q (.inl (some (.int (Int32.ofNat (if x ≤ g_n h v + g_n h v + 2 then g_n h v + g_n h v + 2 else x))))) h := by
  have e0 : Int32.ofNat x - Int32.ofNat (g_n h v) = Int32.ofNat (x - g_n h v) := n_sub (by omega) (by omega)
  have e1 : Int32.ofNat (g_n h v) + 2 = Int32.ofNat (g_n h v + 2) := n_add (g_n h v) 2
  have e2 : (Int32.ofNat (if x ≤ g_n h v + g_n h v + 2 then g_n h v + g_n h v + 2 else x) = 2147483647) = False := by
    apply eq_false
    intro z
    have z2 := congrArg Int32.toNatClampNeg z
    rw [n_cl (by split <;> omega)] at z2
    have : (2147483647 : Int32).toNatClampNeg = 2147483647 := rfl
    rw [this] at z2
    split at z2 <;> omega
  simp only [o248_0, o248_1, o248_4, o248_5, o248_6, o248_7, o248_8, o248_11, o248_12, o248_13, o248_14, o248_15, o248_16, o248_18, o248_19, o248_21, o248_22, o248_23, o248_24, o248_27, o248_28, o248_29, o248_32, o248_34, o248_36, o248_38, o248_51, o248_53, o248_54, o248_57, o248_58, J_newLength hc hx, mcs_0, Kn_v, mrf_some, true_and, and_true, not_false_eq_true, false_implies, forall_const, and_self, Nat.reduceLeDiff, Nat.zero_le, b1, b2, b3, b4, sh0, shl0, e0, e1, e2]
theorem J_copyOf {v y : Nat} {h : MH} {Q : MR → MH → Prop} (b4 : g_c h v = 103) (b5 : v < g_t h) (b6 : g_z h ≤ v) (hy : g_n h v < y) (hy2 : y ≤ 150) : Ok 282 0 [.ref v, .int (Int32.ofNat y), mk0] [] h 1 150 Q ↔ Q (.inl (some (.ref (g_t h)))) (p_C (p_N h 103 y) (g_t h) (va_cpy (g_i (p_N h 103 y) v) (g_i (p_N h 103 y) (g_t h)) 0 0 (g_n h v))) := by
  have n1 : (v = g_t h) = False := eq_false (by omega)
  have e1 : (Int32.ofNat y = Int32.ofNat (g_n h v)) = False := by
    apply eq_false
    intro z
    have z2 := congrArg Int32.toNatClampNeg z
    rw [n_cl (by omega), n_cl (by omega)] at z2
    omega
  have e2 : (Int32.ofNat y < 0) = False := n_z (by omega)
  have e3 : (Int32.ofNat y).toNatClampNeg = y := n_cl (by omega)
  have e4 : (y ≤ 67108864) = True := eq_true (by omega)
  have e5 : (y ≤ 150) = True := eq_true hy2
  have e6 : (Int32.ofNat y < Int32.ofNat (g_n h v)) = False := by rw [n_lt (by omega) (by omega)]; exact eq_false (by omega)
  have e7 : (Int32.ofNat (g_n h v)).toNatClampNeg = g_n h v := n_cl (by omega)
  have e8 : (Int32.ofNat (g_n h v) < 0) = False := n_z (by omega)
  have e9 : (g_z h ≤ g_t h) = True := eq_true (by omega)
  have e10 : (g_n h v ≤ y) = True := eq_true (by omega)
  simp only [o282_0, o282_1, o282_2, o282_3, o282_6, o282_7, o282_10, o282_13, o282_14, o282_15, o282_17, o282_18, o282_19, o282_20, o282_21, o282_22, o282_23, o282_24, o282_25, o282_28, o282_31, o282_32, mc_pN, mc_pC, mn_pN, mz_pN, mz_pC, mcs_0, mcs_i, mcs_r, true_and, and_true, not_false_eq_true, false_implies, forall_const, if_true, if_false, and_self, Nat.reduceLeDiff, Nat.reduceSub, Nat.reduceAdd, Nat.zero_le, Nat.le_refl, Int32.reduceLT, cl0, b4, n1, e1, e2, e3, e4, e5, e6, e7, e8, e9, e10, Nat.zero_add]
theorem J_ens {sb n x : Nat} {h : MH} {Q : MR → MH → Prop} (b : Bd sb n h) (hx : x ≤ n + 20) (hx2 : x ≤ 142) (hQ : ∀ m, Fx sb sb h m → Bd sb n m → (∀ v, g_r m sb 0 = some v → x ≤ g_n m v) → Q (.inl none) m) : Ok 247 0 [.ref sb, .int (Int32.ofNat x), mk0] [] h 1 150 Q := by
  obtain ⟨b1, b2, b3, b4, b5, v, v1, v2, v3, v4, v5, v6⟩ := b
  have hc := capOk_le v5
  by_cases hl : g_n h v < x
  · have e0 : (0 < Int32.ofNat x - Int32.ofNat (g_n h v)) = True := by rw [n_pos (by omega) (by omega)]; exact eq_true hl
    have e1 : capOk (if x ≤ g_n h v + g_n h v + 2 then g_n h v + g_n h v + 2 else x) := by
      unfold capOk at v5 ⊢
      split <;> omega
    have e2 : g_n h v < (if x ≤ g_n h v + g_n h v + 2 then g_n h v + g_n h v + 2 else x) := by split <;> omega
    have e4 : x ≤ (if x ≤ g_n h v + g_n h v + 2 then g_n h v + g_n h v + 2 else x) := by split <;> omega
    have e3 := capOk_le e1
    have n1 : (sb = g_t h) = False := eq_false (by omega)
    simp only [o247_0, o247_1, o247_4, o247_5, o247_6, o247_9, o247_10, o247_11, o247_12, o247_13, o247_14, o247_17, o247_18, o247_19, o247_22, o247_23, o247_24, o247_27, o247_28, o247_31, o247_32, o247_35, o247_38, J_newCapacity b1 b4 v1 v2 hl (by omega), J_copyOf v2 v4 v3 e2 e3, mc_pN, mc_pC, mz_pN, mz_pC, mcs_0, mcs_r, Kn_v, mrf_some, true_and, not_true_eq_false, not_false_eq_true, false_implies, forall_const, if_false, and_self, Nat.reduceLeDiff, Nat.reduceSub, Nat.reduceAdd, Nat.le_refl, lt_le, b1, b2, b4, v1, v2, sh0, shl0, e0, n1]
    generalize (if x ≤ g_n h v + g_n h v + 2 then g_n h v + g_n h v + 2 else x) = y at *
    refine hQ _ ?_ ?_ ?_
    · exact Fx_pr (Fx_pC (Fx_pN Fx_rfl) (Or.inr (Or.inr (Or.inr (Nat.le_refl _))))) (Or.inl rfl)
    · refine ⟨?_, b2, by rw [mt_pr, mt_pC, mt_pN]; omega, ?_, ?_, g_t h, ?_, ?_, ?_, ?_, ?_, ?_⟩
      · rw [mc_pr, mc_pC, mc_pN, if_neg (by omega)]; exact b1
      · rw [mi_pr, mi_pC, if_neg (by omega), mi_pN, if_neg (by omega)]; exact b4
      · rw [mi_pr, mi_pC, if_neg (by omega), mi_pN, if_neg (by omega)]; exact b5
      · rw [mr_pr, if_pos ⟨rfl, rfl⟩]
      · rw [mc_pr, mc_pC, mc_pN, if_pos rfl]
      · show g_z h ≤ g_t h
        omega
      · rw [mt_pr, mt_pC, mt_pN]; omega
      · rw [mn_pr, mn_pC, mn_pN, if_pos rfl]; exact e1
      · rw [mn_pr, mn_pC, mn_pN, if_pos rfl]; omega
    · intro w hw
      rw [mr_pr, if_pos ⟨rfl, rfl⟩] at hw
      cases hw
      rw [mn_pr, mn_pC, mn_pN, if_pos rfl]
      exact e4
  · have e0 : (0 < Int32.ofNat x - Int32.ofNat (g_n h v)) = False := by rw [n_pos (by omega) (by omega)]; exact eq_false hl
    simp only [o247_0, o247_1, o247_4, o247_5, o247_6, o247_9, o247_10, o247_11, o247_12, o247_13, o247_14, o247_17, o247_18, o247_19, o247_22, o247_23, o247_24, o247_38, mcs_0, mcs_r, mrf_some, true_and, and_true, not_true_eq_false, not_false_eq_true, false_implies, forall_const, and_self, Nat.reduceLeDiff, Nat.reduceAdd, lt_le, b1, b4, v1, v2, sh0, e0]
    exact hQ h Fx_rfl ⟨b1, b2, b3, b4, b5, v, v1, v2, v3, v4, v5, v6⟩ (fun w hw => by rw [v1] at hw; cases hw; omega)
theorem J_canEnc {c : Int32} {h : MH} {Q : MR → MH → Prop} (hc : ¬ 255 < c) : Ok 278 0 [.int c] [] h 0 0 Q ↔ Q (.inl (some (.int 1))) h := by
  have e : (255 : Int32) = 255 := rfl
  simp only [o278_0, o278_1, o278_4, o278_7, o278_8, o278_11, o278_12, true_and, not_false_eq_true, false_implies, forall_const, kz0, kz1, hc]
theorem J_apC {sb n : Nat} {c : Int32} {h : MH} {Q : MR → MH → Prop} (b : Bd sb n h) (hn : n + 1 ≤ 142) (hc : ¬ 255 < c) (hQ : ∀ m, Fx sb sb h m → Bd sb (n + 1) m → Q (.inl (some (.ref sb))) m) : Ok 251 0 [.ref sb, .int c] [] h 1 150 Q := by
  have b1 := b.1
  have b5 := b.2.2.2.2.1
  have e1 : Int32.ofNat n + 1 = Int32.ofNat (n + 1) := n_add n 1
  simp only [o251_0, o251_1, o251_2, o251_5, o251_6, o251_7, mcs_0, true_and, Nat.reduceSub, Nat.zero_le, Nat.le_refl, b1, b5, e1]
  refine J_ens b (by omega) hn (fun m f b' hv => ?_)
  obtain ⟨c1, c2, c3, c4, c5, v, v1, v2, v3, v4, v5, v6⟩ := b'
  have hl := hv v v1
  have e2 : vp_in (Int32.ofNat n) (g_n m v) := (n_rdy (by omega) (by have := capOk_le v5; omega)).2.2
  have e3 : (v = sb) = False := eq_false (fun z => by rw [z, c1] at v2; cases v2)
  have e4 : (sb = v) = False := eq_false (fun z => by rw [← z, c1] at v2; cases v2)
  simp only [o251_10, o251_11, o251_14, o251_17, o251_18, o251_21, o251_24, o251_25, o251_28, o251_29, o251_30, o251_33, o251_34, o251_35, o251_36, o251_39, o251_40, o251_41, o251_42, o251_45, o251_46, o251_49, o251_52, o251_56, o251_57, o251_60, o251_61, o251_62, o251_65, o251_66, o251_67, o251_68, o251_71, o251_75, o251_76, J_isLatin1 c1 c4, J_canEnc hc, mc_pi, mn_pi, mz_pi, mcs_0, Kn_v, Kn_0, mrf_some, kok_0, true_and, or_false, not_false_eq_true, false_implies, forall_const, if_true, and_self, Nat.reduceEqDiff, Nat.zero_le, i10, c1, c2, c5, v1, v2, v3, e1, e2]
  refine hQ _ ?_ ?_
  · exact Fx_pi (Fx_pi f (Or.inl rfl)) (Or.inr (Or.inr (Or.inl v2)))
  · refine ⟨c1, c2, c3, ?_, ?_, v, v1, v2, v3, v4, v5, hl⟩
    · simp only [mi_pi, e4, false_and, if_false, Nat.reduceEqDiff, and_false]; exact c4
    · simp only [mi_pi, e4, false_and, if_false, and_self, if_true]
theorem J_apC4 {sb n : Nat} {c : Int32} {h : MH} {Q : MR → MH → Prop} (b : Bd sb n h) (hn : n + 1 ≤ 142) (hc : ¬ 255 < c) (hQ : ∀ m, Fx sb sb h m → Bd sb (n + 1) m → Q (.inl (some (.ref sb))) m) : Ok 272 0 [.ref sb, .int c] [] h 1 150 Q := by
  simp only [o272_0, o272_1, o272_2, mcs_0, true_and, Nat.reduceSub, Nat.zero_le, Nat.le_refl, b.1]
  refine J_apC b hn hc (fun m f b' => ?_)
  simp only [o272_5, o272_6, o272_7, Kn_v]
  exact hQ m f b'
/-- a text that lies there: m signs, Latin-1 -/
def St (s m : Nat) (h : MH) : Prop := g_c h s = 11 ∧ s < g_t h ∧ g_i h s 1 = 0 ∧ ∃ v, g_r h s 0 = some v ∧ g_c h v = 103 ∧ v < g_t h ∧ g_n h v = m
theorem St_Fx {sb s k : Nat} {h m : MH} (t : St s k h) (f : Fx sb sb h m) (hs : g_c h sb = 10) : St s k m := by
  obtain ⟨t1, t2, t3, v, v1, v2, v3, v4⟩ := t
  obtain ⟨f1, f2, f3, f4⟩ := f
  have ns : ¬ s = sb := fun z => by rw [z, hs] at t1; cases t1
  obtain ⟨⟨a1, a2⟩, a3⟩ := f4 s t2
  obtain ⟨a4, -, a5⟩ := a3 ns ns (by rw [t1]; decide)
  obtain ⟨⟨d1, d2⟩, -⟩ := f4 v v3
  exact ⟨a1.trans t1, by omega, (a4 1).trans t3, v, (a5 0).trans v1, d1.trans v2, by omega, d2.trans v4⟩
theorem J_inflate {sb s : Nat} {h : MH} {Q : MR → MH → Prop} (b1 : g_c h sb = 10) (b2 : g_i h sb 1 = 0) (s1 : g_c h s = 11) (s2 : g_i h s 1 = 0) : Ok 256 0 [.ref sb, .ref s] [] h 0 0 Q ↔ Q (.inl none) h := by
  simp only [o256_0, o256_3, o256_6, o256_7, o256_10, o256_11, o256_14, o256_17, o256_21, J_scoder s1 s2, mcs_0, mcs_i, Kn_v, true_and, and_true, not_true_eq_false, not_false_eq_true, false_implies, forall_const, Nat.reduceLeDiff, Nat.reduceAdd, i10, b1, b2, s1]
theorem J_getBytes {s v d m n : Nat} {h : MH} {Q : MR → MH → Prop} (s1 : g_c h s = 11) (s2 : g_i h s 1 = 0) (s3 : g_r h s 0 = some v) (s4 : g_c h v = 103) (s5 : g_n h v = m) (d1 : g_c h d = 103) (d2 : g_z h ≤ d) (hm : m ≤ 1000) (hn : n ≤ 1000) (hd : n + m ≤ g_n h d) : Ok 264 0 [.ref s, .ref d, .int (Int32.ofNat n), .int 0] [] h 0 0 Q ↔ Q (.inl none) (p_C h d (va_cpy (g_i h v) (g_i h d) 0 n m)) := by
  have e1 : (Int32.ofNat m).toNatClampNeg = m := n_cl (by omega)
  have e2 : (Int32.ofNat n).toNatClampNeg = n := n_cl (by omega)
  have e3 : (Int32.ofNat m < 0) = False := n_z (by omega)
  have e4 : (Int32.ofNat n < 0) = False := n_z (by omega)
  simp only [o264_0, o264_1, o264_4, o264_5, o264_8, o264_9, o264_12, o264_13, o264_14, o264_15, o264_16, o264_17, o264_18, o264_21, o264_22, o264_25, o264_28, o264_29, o264_32, o264_33, o264_34, o264_35, o264_36, o264_39, o264_43, J_scoder s1 s2, mcs_0, Kn_v, mrf_some, true_and, not_true_eq_false, not_false_eq_true, false_implies, forall_const, and_self, Nat.reduceLeDiff, Nat.zero_le, Nat.le_refl, Int32.reduceLT, cl0, s1, s3, s4, s5, d1, d2, shl0, e1, e2, e3, e4, hd, Nat.zero_add]
theorem J_apS {sb s n k : Nat} {h : MH} {Q : MR → MH → Prop} (b : Bd sb n h) (t : St s k h) (hk : k ≤ 20) (hn : n + k ≤ 142) (hQ : ∀ m, Fx sb sb h m → Bd sb (n + k) m → Q (.inl (some (.ref sb))) m) : Ok 250 0 [.ref sb, .ref s, mk0] [] h 1 150 Q := by
  have b1 := b.1
  have b5 := b.2.2.2.2.1
  have t0 := t
  obtain ⟨t1, t2, t3, w, w1, w2, w3, w4⟩ := t0
  have e1 : Int32.ofNat n + Int32.ofNat k = Int32.ofNat (n + k) := n_add n k
  simp only [o250_0, o250_1, o250_9, o250_10, o250_13, o250_14, o250_15, o250_16, o250_19, o250_20, o250_21, J_slen t1 t3 w1 w2, mcs_0, Kn_v, true_and, Nat.reduceSub, Nat.zero_le, Nat.le_refl, b1, b5, t1, w4, e1]
  refine J_ens b (by omega) hn (fun m f b' hv => ?_)
  obtain ⟨t1, t2, t3, w, w1, w2, w3, w4⟩ := St_Fx t f b1
  obtain ⟨c1, c2, c3, c4, c5, v, v1, v2, v3, v4, v5, v6⟩ := b'
  have hl := hv v v1
  have hc := capOk_le v5
  have e3 : ¬ sb = v := fun z => by rw [← z, c1] at v2; cases v2
  simp only [o250_24, o250_25, o250_26, o250_29, o250_30, o250_33, o250_34, o250_35, o250_38, o250_39, o250_40, o250_43, o250_44, o257_0, o257_1, o257_2, o257_5, o257_6, o257_7, o257_10, o257_11, o257_12, o257_15, o257_18, J_inflate c1 c4 t1 t3, J_getBytes t1 t3 w1 w2 w4 v2 v3 (by omega) (by omega) hl, mc_pC, mi_pC, mz_pC, mcs_0, Kn_0, mrf_some, kok_0, true_and, if_false, and_self, Nat.zero_le, c1, c2, c4, c5, v1, t1, e1, e3]
  refine hQ _ ?_ ?_
  · exact Fx_pi (Fx_pC f (Or.inr (Or.inr (Or.inl v2)))) (Or.inl rfl)
  · refine ⟨c1, c2, c3, ?_, ?_, v, v1, v2, v3, v4, v5, hl⟩
    · rw [mi_pi, if_neg (by omega), mi_pC, if_neg e3]; exact c4
    · rw [mi_pi, if_pos ⟨rfl, rfl⟩]
theorem J_apS4 {sb s n k : Nat} {h : MH} {Q : MR → MH → Prop} (b : Bd sb n h) (t : St s k h) (hk : k ≤ 20) (hn : n + k ≤ 142) (hQ : ∀ m, Fx sb sb h m → Bd sb (n + k) m → Q (.inl (some (.ref sb))) m) : Ok 271 0 [.ref sb, .ref s] [] h 1 150 Q := by
  simp only [o271_0, o271_1, o271_2, mcs_0, true_and, Nat.reduceSub, Nat.zero_le, Nat.le_refl, b.1]
  refine J_apS b t hk hn (fun m f b' => ?_)
  simp only [o271_5, o271_6, o271_7, Kn_v]
  exact hQ m f b'
/-- a new builder -/
theorem J_init {sb : Nat} {h : MH} {Q : MR → MH → Prop} (b1 : g_c h sb = 10) (b2 : g_z h ≤ sb) (b3 : sb < g_t h) : Ok 270 0 [.ref sb] [] h 1 16 Q ↔ Q (.inl none) (p_i (p_r (p_N h 103 16) sb 0 (some (g_t h))) sb 1 0) := by
  have n1 : (sb = g_t h) = False := eq_false (by omega)
  have e3 : (16 ≤ 67108864) = True := by decide
  simp only [o270_0, o270_1, o270_3, o270_6, o245_0, o245_1, o245_4, o245_7, o245_10, o245_11, o245_12, o245_14, o245_17, o245_18, o245_19, o245_22, o245_25, o245_26, o245_38, mc_pr, mc_pN, mz_pr, mz_pN, mcs_0, Kn_0, true_and, not_false_eq_true, false_implies, forall_const, if_false, and_self, Nat.reduceSub, Nat.zero_le, Nat.le_refl, i10, Int32.reduceLT, cl16, b1, b2, n1, kb0, e3]
/-- what has been in it is taken out -/
theorem J_set0 {sb n : Nat} {h : MH} {Q : MR → MH → Prop} (b : Bd sb n h) (hQ : ∀ m, Fx sb sb h m → Bd sb 0 m → Q (.inl none) m) : Ok 276 0 [.ref sb, .int 0] [] h 1 150 Q := by
  simp only [o276_0, o276_1, o276_2, o249_0, o249_1, o249_13, o249_14, o249_15, mcs_0, true_and, and_true, not_true_eq_false, not_false_eq_true, false_implies, forall_const, Nat.reduceSub, Nat.zero_le, Nat.le_refl, lt_le, Int32.reduceLT, b.1]
  refine J_ens (x := 0) b (by omega) (by omega) (fun m f b' hv => ?_)
  obtain ⟨c1, c2, c3, c4, c5, v, v1, v2, v3, v4, v5, v6⟩ := b'
  have hc := capOk_le v5
  have e1 : (Int32.ofNat n < 0) = False := n_z (by omega)
  by_cases hn : 0 < Int32.ofNat n
  · simp only [o276_5, o249_18, o249_19, o249_22, o249_23, o249_26, o249_27, o249_63, o249_64, o249_67, o249_68, o249_71, o249_72, o249_73, o249_76, o249_77, o249_78, o249_81, mc_pi, mz_pi, mcs_0, Kn_0, kok_0, true_and, and_true, not_true_eq_false, not_false_eq_true, false_implies, forall_const, and_self, Nat.zero_le, kz1, lt_le, c1, c2, c5, e1, hn]
    refine hQ _ (Fx_pi (Fx_pi f (Or.inl rfl)) (Or.inl rfl)) ⟨c1, c2, c3, ?_, ?_, v, v1, v2, v3, v4, v5, Nat.zero_le _⟩
    · simp only [mi_pi, Nat.reduceEqDiff, and_false, if_false]; exact c4
    · simp only [mi_pi, and_self, if_true]; rfl
  · simp only [o276_5, o249_18, o249_19, o249_22, o249_23, o249_26, o249_27, o249_63, o249_64, o249_67, o249_68, o249_71, o249_72, o249_73, o249_76, o249_77, o249_78, o249_81, mc_pi, mz_pi, mcs_0, Kn_0, kok_0, true_and, and_true, not_true_eq_false, not_false_eq_true, false_implies, forall_const, and_self, Nat.zero_le, kz1, lt_le, c1, c2, c5, e1, hn]
    refine hQ _ (Fx_pi f (Or.inl rfl)) ⟨c1, c2, c3, ?_, ?_, v, v1, v2, v3, v4, v5, Nat.zero_le _⟩
    · simp only [mi_pi, Nat.reduceEqDiff, and_false, if_false]; exact c4
    · simp only [mi_pi, and_self, if_true]; rfl

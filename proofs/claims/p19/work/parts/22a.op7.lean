/-! FRESH CELLS -/
/-- all that was is as it was; new cells above -/
def Fr (h m : MH) : Prop := g_z m = g_z h ∧ g_t h ≤ g_t m ∧ (∀ j, g_a m j = g_a h j) ∧ ∀ a, a < g_t h → (g_c m a = g_c h a ∧ g_n m a = g_n h a) ∧ (∀ k, g_i m a k = g_i h a k) ∧ (∀ k, g_l m a k = g_l h a k) ∧ ∀ k, g_r m a k = g_r h a k
theorem Fr_rfl {h : MH} : Fr h h := ⟨rfl, Nat.le_refl _, fun _ => rfl, fun _ _ => ⟨⟨rfl, rfl⟩, fun _ => rfl, fun _ => rfl, fun _ => rfl⟩⟩
theorem Fr_pN {h m : MH} {tag n : Nat} (f : Fr h m) : Fr h (p_N m tag n) := by
  obtain ⟨f1, f2, f3, f4⟩ := f
  refine ⟨f1, by rw [mt_pN]; omega, f3, fun a ha => ?_⟩
  have hne : ¬ a = g_t m := by omega
  obtain ⟨⟨e1, e2⟩, e3, e4, e5⟩ := f4 a ha
  exact ⟨⟨by rw [mc_pN, if_neg hne]; exact e1, by rw [mn_pN, if_neg hne]; exact e2⟩, fun k => by rw [mi_pN, if_neg hne]; exact e3 k, fun k => by rw [ml_pN, if_neg hne]; exact e4 k, fun k => by rw [mr_pN, if_neg hne]; exact e5 k⟩
theorem Fr_pi {h m : MH} {a k : Nat} {v : Int32} (f : Fr h m) (ha : g_t h ≤ a) : Fr h (p_i m a k v) := by
  obtain ⟨f1, f2, f3, f4⟩ := f
  refine ⟨f1, f2, f3, fun b hb => ?_⟩
  have hne : ¬ b = a := by omega
  obtain ⟨e1, e3, e4, e5⟩ := f4 b hb
  exact ⟨e1, fun j => by rw [mi_pi, if_neg (fun z => hne z.1)]; exact e3 j, e4, e5⟩
theorem Fr_pr {h m : MH} {a k : Nat} {v : Option Nat} (f : Fr h m) (ha : g_t h ≤ a) : Fr h (p_r m a k v) := by
  obtain ⟨f1, f2, f3, f4⟩ := f
  refine ⟨f1, f2, f3, fun b hb => ?_⟩
  have hne : ¬ b = a := by omega
  obtain ⟨e1, e3, e4, e5⟩ := f4 b hb
  exact ⟨e1, e3, e4, fun j => by rw [mr_pr, if_neg (fun z => hne z.1)]; exact e5 j⟩
theorem Fr_pC {h m : MH} {a : Nat} {g : Nat → Int32} (f : Fr h m) (ha : g_t h ≤ a) : Fr h (p_C m a g) := by
  obtain ⟨f1, f2, f3, f4⟩ := f
  refine ⟨f1, f2, f3, fun b hb => ?_⟩
  have hne : ¬ b = a := by omega
  obtain ⟨e1, e3, e4, e5⟩ := f4 b hb
  exact ⟨e1, fun j => by rw [mi_pC, if_neg hne]; exact e3 j, e4, e5⟩
theorem Fr_pT {h m : MH} {t : Nat} (f : Fr h m) (ht : g_t m ≤ t) : Fr h (p_T m t) := by
  obtain ⟨f1, f2, f3, f4⟩ := f
  exact ⟨f1, Nat.le_trans f2 ht, f3, f4⟩
theorem Rl_Fr {A : Nat → Nat} {h m : MH} (R : Rl A h) (f : Fr h m) : Rl A m := by
  obtain ⟨f1, f2, f3, f4⟩ := f
  have kt : ∀ i, i < 40 → A i < g_t h := R.1.2.2.1.2
  have e1 : ∀ i, i < 40 → g_c m (A i) = g_c h (A i) := fun i hi => (f4 _ (kt i hi)).1.1
  have e2 : ∀ i, i < 40 → g_n m (A i) = g_n h (A i) := fun i hi => (f4 _ (kt i hi)).1.2
  have e3 : ∀ i k, i < 40 → g_i m (A i) k = g_i h (A i) k := fun i k hi => (f4 _ (kt i hi)).2.1 k
  have e4 : ∀ i k, i < 40 → g_l m (A i) k = g_l h (A i) k := fun i k hi => (f4 _ (kt i hi)).2.2.1 k
  have e5 : ∀ i k, i < 40 → g_r m (A i) k = g_r h (A i) k := fun i k hi => (f4 _ (kt i hi)).2.2.2 k
  obtain ⟨⟨k1, k2, ⟨k3, k4⟩, k5, k6⟩, r2, r3, r4, r5, r6, r7, r8, r9, r10, r11, ⟨v, a1, a2, a3, a4, a5, a6, a7, a8, a9⟩⟩ := R
  refine ⟨⟨k1, ?_, ⟨fun i hi => by rw [f1]; exact k3 i hi, fun i hi => Nat.lt_of_lt_of_le (k4 i hi) f2⟩, ?_, ?_⟩, ?_, ?_, ?_, ?_, ?_, ?_, ?_, ?_, ?_, ?_, ⟨v, ?_⟩⟩
  · simp only [Kc1, e1, Nat.reduceLT]; exact k2
  · simp only [Kn1, e2, Nat.reduceLT]; exact k5
  · simp only [Kr1, e5, Nat.reduceLT]; exact k6
  · simp only [Cn, e3, Nat.reduceLT]; exact r2
  · simp only [Vq0, cT, mT, e3, Nat.reduceLT]; exact r3
  · simp only [Vq1, cT, mT, e3, Nat.reduceLT]; exact r4
  · simp only [Vq2, cT, mT, e3, Nat.reduceLT]; exact r5
  · simp only [Vp, e3, Nat.reduceLT]; exact r6
  · simp only [Vl0, e3, Nat.reduceLT]; exact r7
  · simp only [Vl1, e3, Nat.reduceLT]; exact r8
  · simp only [Vlr, e4, Nat.reduceLT]; exact r9
  · simp only [Vsr, e3, e4, Nat.reduceLT]; exact r10
  · simp only [Vc, e3, Nat.reduceLT]; exact r11
  · obtain ⟨⟨g1, g2⟩, -⟩ := f4 v a4
    simp only [e3, e5, Nat.reduceLT, g1, g2, f1]
    exact ⟨a1, a2, a3, Nat.lt_of_lt_of_le a4 f2, a5, a6, a7, a8, a9⟩
theorem x_cases {x : Int32} (h1 : ¬ x < 0) (h2 : ¬ 8 < x) : x = 0 ∨ x = 1 ∨ x = 2 ∨ x = 3 ∨ x = 4 ∨ x = 5 ∨ x = 6 ∨ x = 7 ∨ x = 8 := by
  rw [Int32.lt_iff_toInt_lt] at h1 h2
  have e1 : (0 : Int32).toInt = 0 := rfl
  have e2 : (8 : Int32).toInt = 8 := rfl
  have h : x.toInt = 0 ∨ x.toInt = 1 ∨ x.toInt = 2 ∨ x.toInt = 3 ∨ x.toInt = 4 ∨ x.toInt = 5 ∨ x.toInt = 6 ∨ x.toInt = 7 ∨ x.toInt = 8 := by omega
  rcases h with h | h | h | h | h | h | h | h | h
  · exact Or.inl (Int32.toInt_inj.mp h)
  · exact Or.inr (Or.inl (Int32.toInt_inj.mp h))
  · exact Or.inr (Or.inr (Or.inl (Int32.toInt_inj.mp h)))
  · exact Or.inr (Or.inr (Or.inr (Or.inl (Int32.toInt_inj.mp h))))
  · exact Or.inr (Or.inr (Or.inr (Or.inr (Or.inl (Int32.toInt_inj.mp h)))))
  · exact Or.inr (Or.inr (Or.inr (Or.inr (Or.inr (Or.inl (Int32.toInt_inj.mp h))))))
  · exact Or.inr (Or.inr (Or.inr (Or.inr (Or.inr (Or.inr (Or.inl (Int32.toInt_inj.mp h)))))))
  · exact Or.inr (Or.inr (Or.inr (Or.inr (Or.inr (Or.inr (Or.inr (Or.inl (Int32.toInt_inj.mp h))))))))
  · exact Or.inr (Or.inr (Or.inr (Or.inr (Or.inr (Or.inr (Or.inr (Or.inr (Int32.toInt_inj.mp h))))))))
theorem x_le {x b : Int32} (h : ¬ b < x) (hb : ¬ 8 < b) : ¬ 8 < x := by
  rw [Int32.lt_iff_toInt_lt] at h hb ⊢
  omega
theorem lsz (x : Int32) : x - 0 = x := Int32.sub_zero x
theorem lne : ((0 : Int32) = 1) = False ∧ ((0 : Int32) = 2) = False ∧ ((0 : Int32) = 3) = False ∧ ((0 : Int32) = 4) = False ∧ ((0 : Int32) = 5) = False ∧ ((0 : Int32) = 6) = False ∧ ((0 : Int32) = 7) = False ∧ ((0 : Int32) = 8) = False ∧ ((1 : Int32) = 0) = False ∧ ((1 : Int32) = 2) = False ∧ ((1 : Int32) = 3) = False ∧ ((1 : Int32) = 4) = False ∧ ((1 : Int32) = 5) = False ∧ ((1 : Int32) = 6) = False ∧ ((1 : Int32) = 7) = False ∧ ((1 : Int32) = 8) = False ∧ ((2 : Int32) = 0) = False ∧ ((2 : Int32) = 1) = False ∧ ((2 : Int32) = 3) = False ∧ ((2 : Int32) = 4) = False ∧ ((2 : Int32) = 5) = False ∧ ((2 : Int32) = 6) = False ∧ ((2 : Int32) = 7) = False ∧ ((2 : Int32) = 8) = False ∧ ((3 : Int32) = 0) = False ∧ ((3 : Int32) = 1) = False ∧ ((3 : Int32) = 2) = False ∧ ((3 : Int32) = 4) = False ∧ ((3 : Int32) = 5) = False ∧ ((3 : Int32) = 6) = False ∧ ((3 : Int32) = 7) = False ∧ ((3 : Int32) = 8) = False ∧ ((4 : Int32) = 0) = False ∧ ((4 : Int32) = 1) = False ∧ ((4 : Int32) = 2) = False ∧ ((4 : Int32) = 3) = False ∧ ((4 : Int32) = 5) = False ∧ ((4 : Int32) = 6) = False ∧ ((4 : Int32) = 7) = False ∧ ((4 : Int32) = 8) = False ∧ ((5 : Int32) = 0) = False ∧ ((5 : Int32) = 1) = False ∧ ((5 : Int32) = 2) = False ∧ ((5 : Int32) = 3) = False ∧ ((5 : Int32) = 4) = False ∧ ((5 : Int32) = 6) = False ∧ ((5 : Int32) = 7) = False ∧ ((5 : Int32) = 8) = False ∧ ((6 : Int32) = 0) = False ∧ ((6 : Int32) = 1) = False ∧ ((6 : Int32) = 2) = False ∧ ((6 : Int32) = 3) = False ∧ ((6 : Int32) = 4) = False ∧ ((6 : Int32) = 5) = False ∧ ((6 : Int32) = 7) = False ∧ ((6 : Int32) = 8) = False ∧ ((7 : Int32) = 0) = False ∧ ((7 : Int32) = 1) = False ∧ ((7 : Int32) = 2) = False ∧ ((7 : Int32) = 3) = False ∧ ((7 : Int32) = 4) = False ∧ ((7 : Int32) = 5) = False ∧ ((7 : Int32) = 6) = False ∧ ((7 : Int32) = 8) = False ∧ ((8 : Int32) = 0) = False ∧ ((8 : Int32) = 1) = False ∧ ((8 : Int32) = 2) = False ∧ ((8 : Int32) = 3) = False ∧ ((8 : Int32) = 4) = False ∧ ((8 : Int32) = 5) = False ∧ ((8 : Int32) = 6) = False ∧ ((8 : Int32) = 7) = False := ⟨by decide, by decide, by decide, by decide, by decide, by decide, by decide, by decide, by decide, by decide, by decide, by decide, by decide, by decide, by decide, by decide, by decide, by decide, by decide, by decide, by decide, by decide, by decide, by decide, by decide, by decide, by decide, by decide, by decide, by decide, by decide, by decide, by decide, by decide, by decide, by decide, by decide, by decide, by decide, by decide, by decide, by decide, by decide, by decide, by decide, by decide, by decide, by decide, by decide, by decide, by decide, by decide, by decide, by decide, by decide, by decide, by decide, by decide, by decide, by decide, by decide, by decide, by decide, by decide, by decide, by decide, by decide, by decide, by decide, by decide, by decide, by decide⟩
theorem lti : (0 : Int32).toInt = 0 ∧ (1 : Int32).toInt = 1 ∧ (2 : Int32).toInt = 2 ∧ (3 : Int32).toInt = 3 ∧ (4 : Int32).toInt = 4 ∧ (5 : Int32).toInt = 5 ∧ (6 : Int32).toInt = 6 ∧ (7 : Int32).toInt = 7 ∧ (8 : Int32).toInt = 8 := by decide
theorem vpk : vp_in 0 7 = True ∧ vp_in 1 7 = True ∧ vp_in 2 7 = True ∧ vp_in 3 7 = True ∧ vp_in 4 7 = True ∧ vp_in 5 7 = True ∧ vp_in 6 7 = True ∧ vp_in 0 8 = True ∧ vp_in 1 8 = True ∧ vp_in 2 8 = True ∧ vp_in 3 8 = True ∧ vp_in 4 8 = True ∧ vp_in 5 8 = True ∧ vp_in 6 8 = True ∧ vp_in 7 8 = True ∧ vp_in 0 9 = True ∧ vp_in 1 9 = True ∧ vp_in 2 9 = True ∧ vp_in 3 9 = True ∧ vp_in 4 9 = True ∧ vp_in 5 9 = True ∧ vp_in 6 9 = True ∧ vp_in 7 9 = True ∧ vp_in 8 9 = True := ⟨by unfold vp_in; decide, by unfold vp_in; decide, by unfold vp_in; decide, by unfold vp_in; decide, by unfold vp_in; decide, by unfold vp_in; decide, by unfold vp_in; decide, by unfold vp_in; decide, by unfold vp_in; decide, by unfold vp_in; decide, by unfold vp_in; decide, by unfold vp_in; decide, by unfold vp_in; decide, by unfold vp_in; decide, by unfold vp_in; decide, by unfold vp_in; decide, by unfold vp_in; decide, by unfold vp_in; decide, by unfold vp_in; decide, by unfold vp_in; decide, by unfold vp_in; decide, by unfold vp_in; decide, by unfold vp_in; decide, by unfold vp_in; decide⟩

set_option maxRecDepth 16384
/-! THE CHECKSUM -/
def dg1 (d : Int64) (v : Int32) : Int64 := d * 31 + v.toInt64
/-- the two memories agree in all that the checksum asks -/
def Sm (A : Nat → Nat) (h m : MH) : Prop := (∀ i, i < 40 → ¬ i = 20 → ¬ i = 21 → ¬ i = 22 → (∀ k, g_i m (A i) k = g_i h (A i) k) ∧ ∀ k, g_l m (A i) k = g_l h (A i) k) ∧ g_i m (A 22) 6 = g_i h (A 22) 6
theorem Sm_tr {A : Nat → Nat} {h m q : MH} (f : Sm A h m) (g : Sm A m q) : Sm A h q := ⟨fun i hi a b c => ⟨fun k => ((g.1 i hi a b c).1 k).trans ((f.1 i hi a b c).1 k), fun k => ((g.1 i hi a b c).2 k).trans ((f.1 i hi a b c).2 k)⟩, g.2.trans f.2⟩
theorem Sm_Fx {A : Nat → Nat} {h m : MH} (R : Rl A h) (f : Fx (A 20) (A 21) h m) : Sm A h m := by
  have hA := R.1.1
  have at2 : ∀ i, i < 40 → ¬ i = 20 → ¬ i = 21 → _ := fun i hi a b => Fx_at R.1 f hi (fun z => a ((hA i 20 hi (by decide)).mp z)) (fun z => b ((hA i 21 hi (by decide)).mp z))
  exact ⟨fun i hi a b _ => ⟨(at2 i hi a b).1, (at2 i hi a b).2.1⟩, (at2 22 (by decide) (by decide) (by decide)).1 6⟩
theorem Sm_Fn {A : Nat → Nat} {h m : MH} {sb : Nat} (R : Rl A h) (f : Fx sb sb h m) (hs : g_t h ≤ sb) : Sm A h m :=
  ⟨fun i hi _ _ _ => ⟨(Rl_at R f hs hi).1, (Rl_at R f hs hi).2.1⟩, (Rl_at R f hs (i := 22) (by decide)).1 6⟩
theorem Sm_Fr {A : Nat → Nat} {h m : MH} (R : Rl A h) (f : Fr h m) : Sm A h m := Sm_Fn R (Fx_Fr f : Fx (g_t h) (g_t h) h m) (Nat.le_refl _)
theorem Sm_thr {A : Nat → Nat} {h : MH} {v : Int32} (R : Rl A h) : Sm A h (p_i h (A 22) 9 v) := by
  have hA := R.1.1
  refine ⟨fun i hi _ _ c => ⟨fun k => ?_, fun _ => rfl⟩, ?_⟩
  · rw [mi_pi, if_neg (fun z => c ((hA i 22 hi (by decide)).mp z.1))]
  · rw [mi_pi, if_neg (fun z => absurd z.2 (by decide))]
theorem Sm_at {A : Nat → Nat} {h m : MH} (s : Sm A h m) : ((∀ k, g_i m (A 0) k = g_i h (A 0) k) ∧ ∀ k, g_l m (A 0) k = g_l h (A 0) k) ∧ ((∀ k, g_i m (A 1) k = g_i h (A 1) k) ∧ ∀ k, g_l m (A 1) k = g_l h (A 1) k) ∧ ((∀ k, g_i m (A 2) k = g_i h (A 2) k) ∧ ∀ k, g_l m (A 2) k = g_l h (A 2) k) ∧ ((∀ k, g_i m (A 3) k = g_i h (A 3) k) ∧ ∀ k, g_l m (A 3) k = g_l h (A 3) k) ∧ ((∀ k, g_i m (A 4) k = g_i h (A 4) k) ∧ ∀ k, g_l m (A 4) k = g_l h (A 4) k) ∧ ((∀ k, g_i m (A 5) k = g_i h (A 5) k) ∧ ∀ k, g_l m (A 5) k = g_l h (A 5) k) ∧ ((∀ k, g_i m (A 6) k = g_i h (A 6) k) ∧ ∀ k, g_l m (A 6) k = g_l h (A 6) k) ∧ ((∀ k, g_i m (A 7) k = g_i h (A 7) k) ∧ ∀ k, g_l m (A 7) k = g_l h (A 7) k) ∧ ((∀ k, g_i m (A 8) k = g_i h (A 8) k) ∧ ∀ k, g_l m (A 8) k = g_l h (A 8) k) ∧ ((∀ k, g_i m (A 9) k = g_i h (A 9) k) ∧ ∀ k, g_l m (A 9) k = g_l h (A 9) k) ∧ ((∀ k, g_i m (A 10) k = g_i h (A 10) k) ∧ ∀ k, g_l m (A 10) k = g_l h (A 10) k) ∧ ((∀ k, g_i m (A 11) k = g_i h (A 11) k) ∧ ∀ k, g_l m (A 11) k = g_l h (A 11) k) ∧ ((∀ k, g_i m (A 12) k = g_i h (A 12) k) ∧ ∀ k, g_l m (A 12) k = g_l h (A 12) k) ∧ ((∀ k, g_i m (A 13) k = g_i h (A 13) k) ∧ ∀ k, g_l m (A 13) k = g_l h (A 13) k) ∧ ((∀ k, g_i m (A 14) k = g_i h (A 14) k) ∧ ∀ k, g_l m (A 14) k = g_l h (A 14) k) ∧ ((∀ k, g_i m (A 15) k = g_i h (A 15) k) ∧ ∀ k, g_l m (A 15) k = g_l h (A 15) k) ∧ ((∀ k, g_i m (A 16) k = g_i h (A 16) k) ∧ ∀ k, g_l m (A 16) k = g_l h (A 16) k) ∧ ((∀ k, g_i m (A 17) k = g_i h (A 17) k) ∧ ∀ k, g_l m (A 17) k = g_l h (A 17) k) ∧ ((∀ k, g_i m (A 18) k = g_i h (A 18) k) ∧ ∀ k, g_l m (A 18) k = g_l h (A 18) k) ∧ ((∀ k, g_i m (A 19) k = g_i h (A 19) k) ∧ ∀ k, g_l m (A 19) k = g_l h (A 19) k) ∧ ((∀ k, g_i m (A 23) k = g_i h (A 23) k) ∧ ∀ k, g_l m (A 23) k = g_l h (A 23) k) ∧ ((∀ k, g_i m (A 24) k = g_i h (A 24) k) ∧ ∀ k, g_l m (A 24) k = g_l h (A 24) k) ∧ ((∀ k, g_i m (A 25) k = g_i h (A 25) k) ∧ ∀ k, g_l m (A 25) k = g_l h (A 25) k) ∧ ((∀ k, g_i m (A 26) k = g_i h (A 26) k) ∧ ∀ k, g_l m (A 26) k = g_l h (A 26) k) ∧ ((∀ k, g_i m (A 27) k = g_i h (A 27) k) ∧ ∀ k, g_l m (A 27) k = g_l h (A 27) k) ∧ ((∀ k, g_i m (A 28) k = g_i h (A 28) k) ∧ ∀ k, g_l m (A 28) k = g_l h (A 28) k) ∧ ((∀ k, g_i m (A 29) k = g_i h (A 29) k) ∧ ∀ k, g_l m (A 29) k = g_l h (A 29) k) ∧ ((∀ k, g_i m (A 30) k = g_i h (A 30) k) ∧ ∀ k, g_l m (A 30) k = g_l h (A 30) k) ∧ ((∀ k, g_i m (A 31) k = g_i h (A 31) k) ∧ ∀ k, g_l m (A 31) k = g_l h (A 31) k) ∧ ((∀ k, g_i m (A 32) k = g_i h (A 32) k) ∧ ∀ k, g_l m (A 32) k = g_l h (A 32) k) ∧ ((∀ k, g_i m (A 33) k = g_i h (A 33) k) ∧ ∀ k, g_l m (A 33) k = g_l h (A 33) k) ∧ ((∀ k, g_i m (A 34) k = g_i h (A 34) k) ∧ ∀ k, g_l m (A 34) k = g_l h (A 34) k) ∧ ((∀ k, g_i m (A 35) k = g_i h (A 35) k) ∧ ∀ k, g_l m (A 35) k = g_l h (A 35) k) ∧ ((∀ k, g_i m (A 36) k = g_i h (A 36) k) ∧ ∀ k, g_l m (A 36) k = g_l h (A 36) k) ∧ ((∀ k, g_i m (A 37) k = g_i h (A 37) k) ∧ ∀ k, g_l m (A 37) k = g_l h (A 37) k) ∧ ((∀ k, g_i m (A 38) k = g_i h (A 38) k) ∧ ∀ k, g_l m (A 38) k = g_l h (A 38) k) ∧ ((∀ k, g_i m (A 39) k = g_i h (A 39) k) ∧ ∀ k, g_l m (A 39) k = g_l h (A 39) k) ∧ g_i m (A 22) 6 = g_i h (A 22) 6 := ⟨s.1 0 (by decide) (by decide) (by decide) (by decide), s.1 1 (by decide) (by decide) (by decide) (by decide), s.1 2 (by decide) (by decide) (by decide) (by decide), s.1 3 (by decide) (by decide) (by decide) (by decide), s.1 4 (by decide) (by decide) (by decide) (by decide), s.1 5 (by decide) (by decide) (by decide) (by decide), s.1 6 (by decide) (by decide) (by decide) (by decide), s.1 7 (by decide) (by decide) (by decide) (by decide), s.1 8 (by decide) (by decide) (by decide) (by decide), s.1 9 (by decide) (by decide) (by decide) (by decide), s.1 10 (by decide) (by decide) (by decide) (by decide), s.1 11 (by decide) (by decide) (by decide) (by decide), s.1 12 (by decide) (by decide) (by decide) (by decide), s.1 13 (by decide) (by decide) (by decide) (by decide), s.1 14 (by decide) (by decide) (by decide) (by decide), s.1 15 (by decide) (by decide) (by decide) (by decide), s.1 16 (by decide) (by decide) (by decide) (by decide), s.1 17 (by decide) (by decide) (by decide) (by decide), s.1 18 (by decide) (by decide) (by decide) (by decide), s.1 19 (by decide) (by decide) (by decide) (by decide), s.1 23 (by decide) (by decide) (by decide) (by decide), s.1 24 (by decide) (by decide) (by decide) (by decide), s.1 25 (by decide) (by decide) (by decide) (by decide), s.1 26 (by decide) (by decide) (by decide) (by decide), s.1 27 (by decide) (by decide) (by decide) (by decide), s.1 28 (by decide) (by decide) (by decide) (by decide), s.1 29 (by decide) (by decide) (by decide) (by decide), s.1 30 (by decide) (by decide) (by decide) (by decide), s.1 31 (by decide) (by decide) (by decide) (by decide), s.1 32 (by decide) (by decide) (by decide) (by decide), s.1 33 (by decide) (by decide) (by decide) (by decide), s.1 34 (by decide) (by decide) (by decide) (by decide), s.1 35 (by decide) (by decide) (by decide) (by decide), s.1 36 (by decide) (by decide) (by decide) (by decide), s.1 37 (by decide) (by decide) (by decide) (by decide), s.1 38 (by decide) (by decide) (by decide) (by decide), s.1 39 (by decide) (by decide) (by decide) (by decide), s.2⟩
theorem Sm_el {A : Nat → Nat} {h m : MH} {G : Prop} (s : Sm A h m) (f : (∀ k, g_i m (A 0) k = g_i h (A 0) k) → (∀ k, g_l m (A 0) k = g_l h (A 0) k) → (∀ k, g_i m (A 1) k = g_i h (A 1) k) → (∀ k, g_l m (A 1) k = g_l h (A 1) k) → (∀ k, g_i m (A 2) k = g_i h (A 2) k) → (∀ k, g_l m (A 2) k = g_l h (A 2) k) → (∀ k, g_i m (A 3) k = g_i h (A 3) k) → (∀ k, g_l m (A 3) k = g_l h (A 3) k) → (∀ k, g_i m (A 4) k = g_i h (A 4) k) → (∀ k, g_l m (A 4) k = g_l h (A 4) k) → (∀ k, g_i m (A 5) k = g_i h (A 5) k) → (∀ k, g_l m (A 5) k = g_l h (A 5) k) → (∀ k, g_i m (A 6) k = g_i h (A 6) k) → (∀ k, g_l m (A 6) k = g_l h (A 6) k) → (∀ k, g_i m (A 7) k = g_i h (A 7) k) → (∀ k, g_l m (A 7) k = g_l h (A 7) k) → (∀ k, g_i m (A 8) k = g_i h (A 8) k) → (∀ k, g_l m (A 8) k = g_l h (A 8) k) → (∀ k, g_i m (A 9) k = g_i h (A 9) k) → (∀ k, g_l m (A 9) k = g_l h (A 9) k) → (∀ k, g_i m (A 10) k = g_i h (A 10) k) → (∀ k, g_l m (A 10) k = g_l h (A 10) k) → (∀ k, g_i m (A 11) k = g_i h (A 11) k) → (∀ k, g_l m (A 11) k = g_l h (A 11) k) → (∀ k, g_i m (A 12) k = g_i h (A 12) k) → (∀ k, g_l m (A 12) k = g_l h (A 12) k) → (∀ k, g_i m (A 13) k = g_i h (A 13) k) → (∀ k, g_l m (A 13) k = g_l h (A 13) k) → (∀ k, g_i m (A 14) k = g_i h (A 14) k) → (∀ k, g_l m (A 14) k = g_l h (A 14) k) → (∀ k, g_i m (A 15) k = g_i h (A 15) k) → (∀ k, g_l m (A 15) k = g_l h (A 15) k) → (∀ k, g_i m (A 16) k = g_i h (A 16) k) → (∀ k, g_l m (A 16) k = g_l h (A 16) k) → (∀ k, g_i m (A 17) k = g_i h (A 17) k) → (∀ k, g_l m (A 17) k = g_l h (A 17) k) → (∀ k, g_i m (A 18) k = g_i h (A 18) k) → (∀ k, g_l m (A 18) k = g_l h (A 18) k) → (∀ k, g_i m (A 19) k = g_i h (A 19) k) → (∀ k, g_l m (A 19) k = g_l h (A 19) k) → (∀ k, g_i m (A 23) k = g_i h (A 23) k) → (∀ k, g_l m (A 23) k = g_l h (A 23) k) → (∀ k, g_i m (A 24) k = g_i h (A 24) k) → (∀ k, g_l m (A 24) k = g_l h (A 24) k) → (∀ k, g_i m (A 25) k = g_i h (A 25) k) → (∀ k, g_l m (A 25) k = g_l h (A 25) k) → (∀ k, g_i m (A 26) k = g_i h (A 26) k) → (∀ k, g_l m (A 26) k = g_l h (A 26) k) → (∀ k, g_i m (A 27) k = g_i h (A 27) k) → (∀ k, g_l m (A 27) k = g_l h (A 27) k) → (∀ k, g_i m (A 28) k = g_i h (A 28) k) → (∀ k, g_l m (A 28) k = g_l h (A 28) k) → (∀ k, g_i m (A 29) k = g_i h (A 29) k) → (∀ k, g_l m (A 29) k = g_l h (A 29) k) → (∀ k, g_i m (A 30) k = g_i h (A 30) k) → (∀ k, g_l m (A 30) k = g_l h (A 30) k) → (∀ k, g_i m (A 31) k = g_i h (A 31) k) → (∀ k, g_l m (A 31) k = g_l h (A 31) k) → (∀ k, g_i m (A 32) k = g_i h (A 32) k) → (∀ k, g_l m (A 32) k = g_l h (A 32) k) → (∀ k, g_i m (A 33) k = g_i h (A 33) k) → (∀ k, g_l m (A 33) k = g_l h (A 33) k) → (∀ k, g_i m (A 34) k = g_i h (A 34) k) → (∀ k, g_l m (A 34) k = g_l h (A 34) k) → (∀ k, g_i m (A 35) k = g_i h (A 35) k) → (∀ k, g_l m (A 35) k = g_l h (A 35) k) → (∀ k, g_i m (A 36) k = g_i h (A 36) k) → (∀ k, g_l m (A 36) k = g_l h (A 36) k) → (∀ k, g_i m (A 37) k = g_i h (A 37) k) → (∀ k, g_l m (A 37) k = g_l h (A 37) k) → (∀ k, g_i m (A 38) k = g_i h (A 38) k) → (∀ k, g_l m (A 38) k = g_l h (A 38) k) → (∀ k, g_i m (A 39) k = g_i h (A 39) k) → (∀ k, g_l m (A 39) k = g_l h (A 39) k) → (g_i m (A 22) 6 = g_i h (A 22) 6) → G) : G := by
  obtain ⟨⟨i0, l0⟩, ⟨i1, l1⟩, ⟨i2, l2⟩, ⟨i3, l3⟩, ⟨i4, l4⟩, ⟨i5, l5⟩, ⟨i6, l6⟩, ⟨i7, l7⟩, ⟨i8, l8⟩, ⟨i9, l9⟩, ⟨i10, l10⟩, ⟨i11, l11⟩, ⟨i12, l12⟩, ⟨i13, l13⟩, ⟨i14, l14⟩, ⟨i15, l15⟩, ⟨i16, l16⟩, ⟨i17, l17⟩, ⟨i18, l18⟩, ⟨i19, l19⟩, ⟨i23, l23⟩, ⟨i24, l24⟩, ⟨i25, l25⟩, ⟨i26, l26⟩, ⟨i27, l27⟩, ⟨i28, l28⟩, ⟨i29, l29⟩, ⟨i30, l30⟩, ⟨i31, l31⟩, ⟨i32, l32⟩, ⟨i33, l33⟩, ⟨i34, l34⟩, ⟨i35, l35⟩, ⟨i36, l36⟩, ⟨i37, l37⟩, ⟨i38, l38⟩, ⟨i39, l39⟩, i22⟩ := Sm_at s
  exact f i0 l0 i1 l1 i2 l2 i3 l3 i4 l4 i5 l5 i6 l6 i7 l7 i8 l8 i9 l9 i10 l10 i11 l11 i12 l12 i13 l13 i14 l14 i15 l15 i16 l16 i17 l17 i18 l18 i19 l19 i23 l23 i24 l24 i25 l25 i26 l26 i27 l27 i28 l28 i29 l29 i30 l30 i31 l31 i32 l32 i33 l33 i34 l34 i35 l35 i36 l36 i37 l37 i38 l38 i39 l39 i22
/-! the class -/
def upv (A : Nat → Nat) (h : MH) (s : Nat) : Int32 := (nmC (g_l h (A 4) (11 + 4 * Int32.ofNat s + 0).toNatClampNeg).toInt32 (g_l h (A 4) (11 + 4 * Int32.ofNat s + 1).toNatClampNeg).toInt32 (g_l h (A 4) (11 + 4 * Int32.ofNat s + 2).toNatClampNeg).toInt32 (g_l h (A 4) (11 + 4 * Int32.ofNat s + 3).toNatClampNeg).toInt32 >>> ((32 : Int32).toInt64 &&& 63)).toInt32
def lov (A : Nat → Nat) (h : MH) (s : Nat) : Int32 := (nmC (g_l h (A 4) (11 + 4 * Int32.ofNat s + 0).toNatClampNeg).toInt32 (g_l h (A 4) (11 + 4 * Int32.ofNat s + 1).toNatClampNeg).toInt32 (g_l h (A 4) (11 + 4 * Int32.ofNat s + 2).toNatClampNeg).toInt32 (g_l h (A 4) (11 + 4 * Int32.ofNat s + 3).toNatClampNeg).toInt32).toInt32
theorem c_upperN {A : Nat → Nat} {h : MH} {s : Nat} {Q : MR → MH → Prop} (R : Rl A h) (hs : s < 6) : Ok 60 0 [.ref (A 0), .int (Int32.ofNat s)] [] h 1 6 Q ↔ Q (.inl (some (.int (upv A h s)))) h := by
  have R0 := R
  obtain ⟨vk, vcn, v0, v1, v2, vp, vl0, vl1, vlr, vsr, vc, tx⟩ := R0
  have vk0 := vk
  have vcn0 := vcn
  (refine K_el vk0 ?_; intros hA kc0 kc1 kc2 kc3 kc4 kc5 kc6 kc7 kc8 kc9 kc10 kc11 kc12 kc13 kc14 kc15 kc16 kc17 kc18 kc19 kc20 kc21 kc22 kc23 kc24 kc25 kc26 kc27 kc28 kc29 kc30 kc31 kc32 kc33 kc34 kc35 kc36 kc37 kc38 kc39 kz kt kn3 kn4 kn18 kn21 kn23 kn24 kn25 kn26 kn27 kn29 kn30 kr0_0 kr0_1 kr0_2 kr0_3 kr0_4 kr0_5 kr0_7 kr0_8 kr0_9 kr0_10 kr1_0 kr2_0 kr5_0 kr5_1 kr6_0 kr6_1 kr7_0 kr7_1 kr8_0 kr9_0 kr10_0 kr11_0 kr12_0 kr13_0 kr14_0 kr15_0 kr16_0 kr17_0 kr19_0 kr19_1 kr22_0 kr22_1 kr22_2 kr22_3 kr22_4 kr22_5 kr22_7 kr22_8 kr25_0 kr25_1 kr25_2 kr26_0 kr26_1 kr26_2 kr29_0 kr29_1)
  (refine Cn_el vcn0 ?_; intros ki5_2 ki6_2 ki7_2 ki8_1 ki8_2 ki8_3 ki9_1 ki9_2 ki9_3 ki10_1 ki10_2 ki10_3 ki11_1 ki11_2 ki11_3 ki12_1 ki12_2 ki12_3 ki13_1 ki13_2 ki13_3 ki14_1 ki14_2 ki14_3 ki28_0 ki28_1 ki31_0 ki31_1 ki32_0 ki32_1 ki33_0 ki33_1 ki34_0 ki34_1 ki35_0 ki35_1 ki36_0 ki36_1)
  have hAe : ∀ i j, i < 40 → j < 40 → (A i = A j ↔ i = j) := hA
  have e0 : (Int32.ofNat s < 0) = False := n_z (by omega)
  have e6 : (Int32.ofNat s < 6) = True := by rw [show (6 : Int32) = Int32.ofNat 6 from rfl, n_lt (by omega) (by omega)]; exact eq_true hs
  have hx := ix_ok (s := Int32.ofNat s) (by rw [e0]; exact fun z => z) (by rw [e6]; trivial)
  simp only [o60_0, o60_1, o60_4, o60_5, o60_6, o60_9, o60_12, c_X5_checkSlot, c_X5_numberIn (rw := A 2) (cs := A 4), c_X5_upperOf, mcs_0, Kn_v, Kn_0, Kn_x, true_and, or_false, not_true_eq_false, not_false_eq_true, false_implies, forall_const, Nat.reduceSub, Nat.zero_le, Nat.le_refl, kc0, kc2, kc4, kn4, kr0_1, kr2_0, e0, e6, hx]
  all_goals exact Iff.rfl
theorem m_upperN {A : Nat → Nat} {h : MH} {s : Nat} {Q : MR → MH → Prop} (R : Rl A h) (hs : s < 6) : Ok 178 0 [.ref (A 22), .int (Int32.ofNat s)] [] h 0 0 Q ↔ Q (.inl (some (.int (upv A h s)))) (p_i h (A 22) 9 0) := by
  have R0 := R
  obtain ⟨vk, vcn, v0, v1, v2, vp, vl0, vl1, vlr, vsr, vc, tx⟩ := R0
  have vk0 := vk
  have vcn0 := vcn
  (refine K_el vk0 ?_; intros hA kc0 kc1 kc2 kc3 kc4 kc5 kc6 kc7 kc8 kc9 kc10 kc11 kc12 kc13 kc14 kc15 kc16 kc17 kc18 kc19 kc20 kc21 kc22 kc23 kc24 kc25 kc26 kc27 kc28 kc29 kc30 kc31 kc32 kc33 kc34 kc35 kc36 kc37 kc38 kc39 kz kt kn3 kn4 kn18 kn21 kn23 kn24 kn25 kn26 kn27 kn29 kn30 kr0_0 kr0_1 kr0_2 kr0_3 kr0_4 kr0_5 kr0_7 kr0_8 kr0_9 kr0_10 kr1_0 kr2_0 kr5_0 kr5_1 kr6_0 kr6_1 kr7_0 kr7_1 kr8_0 kr9_0 kr10_0 kr11_0 kr12_0 kr13_0 kr14_0 kr15_0 kr16_0 kr17_0 kr19_0 kr19_1 kr22_0 kr22_1 kr22_2 kr22_3 kr22_4 kr22_5 kr22_7 kr22_8 kr25_0 kr25_1 kr25_2 kr26_0 kr26_1 kr26_2 kr29_0 kr29_1)
  (refine Cn_el vcn0 ?_; intros ki5_2 ki6_2 ki7_2 ki8_1 ki8_2 ki8_3 ki9_1 ki9_2 ki9_3 ki10_1 ki10_2 ki10_3 ki11_1 ki11_2 ki11_3 ki12_1 ki12_2 ki12_3 ki13_1 ki13_2 ki13_3 ki14_1 ki14_2 ki14_3 ki28_0 ki28_1 ki31_0 ki31_1 ki32_0 ki32_1 ki33_0 ki33_1 ki34_0 ki34_1 ki35_0 ki35_1 ki36_0 ki36_1)
  have hAe : ∀ i j, i < 40 → j < 40 → (A i = A j ↔ i = j) := hA
  have e0 : (Int32.ofNat s < 0) = False := n_z (by omega)
  have e6 : (Int32.ofNat s < 6) = True := by rw [show (6 : Int32) = Int32.ofNat 6 from rfl, n_lt (by omega) (by omega)]; exact eq_true hs
  have hx := ix_ok (s := Int32.ofNat s) (by rw [e0]; exact fun z => z) (by rw [e6]; trivial)
  obtain ⟨l0, l1, l2, l3⟩ := ix_lt hx
  have u0 := (vsr _ l0).1
  have u1 := (vsr _ l1).1
  have u2 := (vsr _ l2).1
  have u3 := (vsr _ l3).1
  unfold upv
  rw [u0, u1, u2, u3]
  simp only [o178_0, o178_1, o178_2, o178_5, o178_8, o178_9, o178_12, o178_13, o178_16, o178_19, o178_20, o178_23, o178_24, o178_25, o178_28, o178_30, o178_31, o178_32, c_X8_isSlot, c_X8_isThrown__, c_X8_numberOf (sr := A 24), mc_pi, mn_pi, mi_pi, mr_pi, mcs_0, mcs_r, Kn_v, true_and, and_true, false_and, not_true_eq_false, not_false_eq_true, false_implies, forall_const, if_true, if_false, and_self, Nat.reduceEqDiff, Nat.reduceLeDiff, Nat.reduceAdd, Nat.zero_le, i10, Nat.reduceLT, hAe, kc22, kc24, kn24, kr22_1, kz, e0, e6, hx, i64_back, nm_eq]
  all_goals exact Iff.rfl

theorem c_lowerN {A : Nat → Nat} {h : MH} {s : Nat} {Q : MR → MH → Prop} (R : Rl A h) (hs : s < 6) : Ok 61 0 [.ref (A 0), .int (Int32.ofNat s)] [] h 1 6 Q ↔ Q (.inl (some (.int (lov A h s)))) h := by
  have R0 := R
  obtain ⟨vk, vcn, v0, v1, v2, vp, vl0, vl1, vlr, vsr, vc, tx⟩ := R0
  have vk0 := vk
  have vcn0 := vcn
  (refine K_el vk0 ?_; intros hA kc0 kc1 kc2 kc3 kc4 kc5 kc6 kc7 kc8 kc9 kc10 kc11 kc12 kc13 kc14 kc15 kc16 kc17 kc18 kc19 kc20 kc21 kc22 kc23 kc24 kc25 kc26 kc27 kc28 kc29 kc30 kc31 kc32 kc33 kc34 kc35 kc36 kc37 kc38 kc39 kz kt kn3 kn4 kn18 kn21 kn23 kn24 kn25 kn26 kn27 kn29 kn30 kr0_0 kr0_1 kr0_2 kr0_3 kr0_4 kr0_5 kr0_7 kr0_8 kr0_9 kr0_10 kr1_0 kr2_0 kr5_0 kr5_1 kr6_0 kr6_1 kr7_0 kr7_1 kr8_0 kr9_0 kr10_0 kr11_0 kr12_0 kr13_0 kr14_0 kr15_0 kr16_0 kr17_0 kr19_0 kr19_1 kr22_0 kr22_1 kr22_2 kr22_3 kr22_4 kr22_5 kr22_7 kr22_8 kr25_0 kr25_1 kr25_2 kr26_0 kr26_1 kr26_2 kr29_0 kr29_1)
  (refine Cn_el vcn0 ?_; intros ki5_2 ki6_2 ki7_2 ki8_1 ki8_2 ki8_3 ki9_1 ki9_2 ki9_3 ki10_1 ki10_2 ki10_3 ki11_1 ki11_2 ki11_3 ki12_1 ki12_2 ki12_3 ki13_1 ki13_2 ki13_3 ki14_1 ki14_2 ki14_3 ki28_0 ki28_1 ki31_0 ki31_1 ki32_0 ki32_1 ki33_0 ki33_1 ki34_0 ki34_1 ki35_0 ki35_1 ki36_0 ki36_1)
  have hAe : ∀ i j, i < 40 → j < 40 → (A i = A j ↔ i = j) := hA
  have e0 : (Int32.ofNat s < 0) = False := n_z (by omega)
  have e6 : (Int32.ofNat s < 6) = True := by rw [show (6 : Int32) = Int32.ofNat 6 from rfl, n_lt (by omega) (by omega)]; exact eq_true hs
  have hx := ix_ok (s := Int32.ofNat s) (by rw [e0]; exact fun z => z) (by rw [e6]; trivial)
  simp only [o61_0, o61_1, o61_4, o61_5, o61_6, o61_9, o61_12, c_X5_checkSlot, c_X5_numberIn (rw := A 2) (cs := A 4), c_X5_lowerOf, mcs_0, Kn_v, Kn_0, Kn_x, true_and, or_false, not_true_eq_false, not_false_eq_true, false_implies, forall_const, Nat.reduceSub, Nat.zero_le, Nat.le_refl, kc0, kc2, kc4, kn4, kr0_1, kr2_0, e0, e6, hx]
  all_goals exact Iff.rfl
theorem m_lowerN {A : Nat → Nat} {h : MH} {s : Nat} {Q : MR → MH → Prop} (R : Rl A h) (hs : s < 6) : Ok 179 0 [.ref (A 22), .int (Int32.ofNat s)] [] h 0 0 Q ↔ Q (.inl (some (.int (lov A h s)))) (p_i h (A 22) 9 0) := by
  have R0 := R
  obtain ⟨vk, vcn, v0, v1, v2, vp, vl0, vl1, vlr, vsr, vc, tx⟩ := R0
  have vk0 := vk
  have vcn0 := vcn
  (refine K_el vk0 ?_; intros hA kc0 kc1 kc2 kc3 kc4 kc5 kc6 kc7 kc8 kc9 kc10 kc11 kc12 kc13 kc14 kc15 kc16 kc17 kc18 kc19 kc20 kc21 kc22 kc23 kc24 kc25 kc26 kc27 kc28 kc29 kc30 kc31 kc32 kc33 kc34 kc35 kc36 kc37 kc38 kc39 kz kt kn3 kn4 kn18 kn21 kn23 kn24 kn25 kn26 kn27 kn29 kn30 kr0_0 kr0_1 kr0_2 kr0_3 kr0_4 kr0_5 kr0_7 kr0_8 kr0_9 kr0_10 kr1_0 kr2_0 kr5_0 kr5_1 kr6_0 kr6_1 kr7_0 kr7_1 kr8_0 kr9_0 kr10_0 kr11_0 kr12_0 kr13_0 kr14_0 kr15_0 kr16_0 kr17_0 kr19_0 kr19_1 kr22_0 kr22_1 kr22_2 kr22_3 kr22_4 kr22_5 kr22_7 kr22_8 kr25_0 kr25_1 kr25_2 kr26_0 kr26_1 kr26_2 kr29_0 kr29_1)
  (refine Cn_el vcn0 ?_; intros ki5_2 ki6_2 ki7_2 ki8_1 ki8_2 ki8_3 ki9_1 ki9_2 ki9_3 ki10_1 ki10_2 ki10_3 ki11_1 ki11_2 ki11_3 ki12_1 ki12_2 ki12_3 ki13_1 ki13_2 ki13_3 ki14_1 ki14_2 ki14_3 ki28_0 ki28_1 ki31_0 ki31_1 ki32_0 ki32_1 ki33_0 ki33_1 ki34_0 ki34_1 ki35_0 ki35_1 ki36_0 ki36_1)
  have hAe : ∀ i j, i < 40 → j < 40 → (A i = A j ↔ i = j) := hA
  have e0 : (Int32.ofNat s < 0) = False := n_z (by omega)
  have e6 : (Int32.ofNat s < 6) = True := by rw [show (6 : Int32) = Int32.ofNat 6 from rfl, n_lt (by omega) (by omega)]; exact eq_true hs
  have hx := ix_ok (s := Int32.ofNat s) (by rw [e0]; exact fun z => z) (by rw [e6]; trivial)
  obtain ⟨l0, l1, l2, l3⟩ := ix_lt hx
  have u0 := (vsr _ l0).1
  have u1 := (vsr _ l1).1
  have u2 := (vsr _ l2).1
  have u3 := (vsr _ l3).1
  unfold lov
  rw [u0, u1, u2, u3]
  simp only [o179_0, o179_1, o179_2, o179_5, o179_8, o179_9, o179_12, o179_13, o179_16, o179_19, o179_20, o179_23, o179_24, o179_25, o179_28, o179_29, c_X8_isSlot, c_X8_isThrown__, c_X8_numberOf (sr := A 24), mc_pi, mn_pi, mi_pi, mr_pi, mcs_0, mcs_r, Kn_v, true_and, and_true, false_and, not_true_eq_false, not_false_eq_true, false_implies, forall_const, if_true, if_false, and_self, Nat.reduceEqDiff, Nat.reduceLeDiff, Nat.reduceAdd, Nat.zero_le, i10, Nat.reduceLT, hAe, kc22, kc24, kn24, kr22_1, kz, e0, e6, hx, i64_back, nm_eq]
  all_goals exact Iff.rfl

def dS (A : Nat → Nat) (h : MH) (d : Int64) : Nat → Int64
  | 0 => d
  | n + 1 => dg1 (dg1 (dS A h d n) (upv A h n)) (lov A h n)
theorem ws_loop {A : Nat → Nat} {h : MH} {d : Int64} {v0 : Value} {Q : MR → MH → Prop} (R : Rl A h) : ∀ (k s : Nat), s + k = 6 → Q (.inl (some (.long (dS A h d 6)))) h → Ok 144 5 [.ref (A 0), v0, mk0, .long (dS A h d s), mk0, .int (Int32.ofNat s)] [] h (2 * k) (12 * k) Q
  | 0, s, hs, hQ => by
    have : s = 6 := by omega
    subst this
    have c1 : (Int32.ofNat 6 < (6 : Int32)) = False := by decide
    rw [o144_5]
    simp only [o144_7, o144_9, o144_12, o144_13, o144_14, o144_16, o144_40, o144_41, mcs_0, mcs_l, true_and, and_true, not_true_eq_false, not_false_eq_true, false_implies, forall_const, Nat.reduceLeDiff, Nat.reduceAdd, lt_le, c1]
    exact hQ
  | k + 1, s, hs, hQ => by
    have ih := ws_loop (d := d) (v0 := v0) (Q := Q) R k (s + 1) (by omega) hQ
    have R0 := R
    obtain ⟨vk, vcn, v0, v1, v2, vp, vl0, vl1, vlr, vsr, vc, tx⟩ := R0
    have vk0 := vk
    have vcn0 := vcn
    (refine K_el vk0 ?_; intros hA kc0 kc1 kc2 kc3 kc4 kc5 kc6 kc7 kc8 kc9 kc10 kc11 kc12 kc13 kc14 kc15 kc16 kc17 kc18 kc19 kc20 kc21 kc22 kc23 kc24 kc25 kc26 kc27 kc28 kc29 kc30 kc31 kc32 kc33 kc34 kc35 kc36 kc37 kc38 kc39 kz kt kn3 kn4 kn18 kn21 kn23 kn24 kn25 kn26 kn27 kn29 kn30 kr0_0 kr0_1 kr0_2 kr0_3 kr0_4 kr0_5 kr0_7 kr0_8 kr0_9 kr0_10 kr1_0 kr2_0 kr5_0 kr5_1 kr6_0 kr6_1 kr7_0 kr7_1 kr8_0 kr9_0 kr10_0 kr11_0 kr12_0 kr13_0 kr14_0 kr15_0 kr16_0 kr17_0 kr19_0 kr19_1 kr22_0 kr22_1 kr22_2 kr22_3 kr22_4 kr22_5 kr22_7 kr22_8 kr25_0 kr25_1 kr25_2 kr26_0 kr26_1 kr26_2 kr29_0 kr29_1)
    (refine Cn_el vcn0 ?_; intros ki5_2 ki6_2 ki7_2 ki8_1 ki8_2 ki8_3 ki9_1 ki9_2 ki9_3 ki10_1 ki10_2 ki10_3 ki11_1 ki11_2 ki11_3 ki12_1 ki12_2 ki12_3 ki13_1 ki13_2 ki13_3 ki14_1 ki14_2 ki14_3 ki28_0 ki28_1 ki31_0 ki31_1 ki32_0 ki32_1 ki33_0 ki33_1 ki34_0 ki34_1 ki35_0 ki35_1 ki36_0 ki36_1)
    have hAe : ∀ i j, i < 40 → j < 40 → (A i = A j ↔ i = j) := hA
    have c1 : (Int32.ofNat s < (6 : Int32)) = True := by
      rw [show (6 : Int32) = Int32.ofNat 6 by decide, n_lt (by omega) (by omega)]
      exact eq_true (by omega)
    have c6 : Int32.ofNat s + 1 = Int32.ofNat (s + 1) := n_add s 1
    have c2 : (1 ≤ 2 * (k + 1)) = True := eq_true (by omega)
    have c3 : (6 ≤ 12 * (k + 1)) = True := eq_true (by omega)
    have c4 : 2 * (k + 1) - 1 - 1 = 2 * k := by omega
    have c5 : 12 * (k + 1) - 6 - 6 = 12 * k := by omega
    have c7 : (1 ≤ 2 * (k + 1) - 1) = True := eq_true (by omega)
    have c8 : (6 ≤ 12 * (k + 1) - 6) = True := eq_true (by omega)
    rw [o144_5]
    simp only [o144_7, o144_9, o144_12, o144_13, o144_14, o144_16, o144_19, o144_20, o144_23, o144_24, o144_26, o144_29, o144_30, o144_33, o144_34, o144_37, c_upperN R (s := s) (by omega), c_lowerN R (s := s) (by omega), o143_0, o143_1, o143_4, o143_5, o143_6, o143_7, mcs_0, mcs_l, Kn_v, true_and, not_true_eq_false, not_false_eq_true, false_implies, forall_const, Nat.reduceLeDiff, Nat.reduceAdd, Nat.zero_le, lt_le, kc0, c1, c2, c3, c4, c5, c6, c7, c8]
    exact ih
theorem c_wS {A : Nat → Nat} {h : MH} {d : Int64} {Q : MR → MH → Prop} (R : Rl A h) (hQ : Q (.inl (some (.long (dS A h d 6)))) h) : Ok 144 0 [.ref (A 0), .long d, mk0, mk0, mk0, mk0] [] h 12 72 Q := by
  have lp := ws_loop (d := d) (v0 := .long d) R 6 0 rfl hQ
  simp only [o144_0, o144_1, o144_2, o144_3]
  exact lp

theorem c_liesX0 {A : Nat → Nat} {h : MH} {Q : MR → MH → Prop} (R : Rl A h) : Ok 75 0 [.ref (A 0), .int 0] [] h 1 6 Q ↔ Q (.inl (some (.int (lyF (cT h (A 5) (A 8) (A 9)))))) h := by
  have R0 := R
  obtain ⟨vk, vcn, v0, v1, v2, vp, vl0, vl1, vlr, vsr, vc, tx⟩ := R0
  have vk0 := vk
  have vcn0 := vcn
  (refine K_el vk0 ?_; intros hA kc0 kc1 kc2 kc3 kc4 kc5 kc6 kc7 kc8 kc9 kc10 kc11 kc12 kc13 kc14 kc15 kc16 kc17 kc18 kc19 kc20 kc21 kc22 kc23 kc24 kc25 kc26 kc27 kc28 kc29 kc30 kc31 kc32 kc33 kc34 kc35 kc36 kc37 kc38 kc39 kz kt kn3 kn4 kn18 kn21 kn23 kn24 kn25 kn26 kn27 kn29 kn30 kr0_0 kr0_1 kr0_2 kr0_3 kr0_4 kr0_5 kr0_7 kr0_8 kr0_9 kr0_10 kr1_0 kr2_0 kr5_0 kr5_1 kr6_0 kr6_1 kr7_0 kr7_1 kr8_0 kr9_0 kr10_0 kr11_0 kr12_0 kr13_0 kr14_0 kr15_0 kr16_0 kr17_0 kr19_0 kr19_1 kr22_0 kr22_1 kr22_2 kr22_3 kr22_4 kr22_5 kr22_7 kr22_8 kr25_0 kr25_1 kr25_2 kr26_0 kr26_1 kr26_2 kr29_0 kr29_1)
  (refine Cn_el vcn0 ?_; intros ki5_2 ki6_2 ki7_2 ki8_1 ki8_2 ki8_3 ki9_1 ki9_2 ki9_3 ki10_1 ki10_2 ki10_3 ki11_1 ki11_2 ki11_3 ki12_1 ki12_2 ki12_3 ki13_1 ki13_2 ki13_3 ki14_1 ki14_2 ki14_3 ki28_0 ki28_1 ki31_0 ki31_1 ki32_0 ki32_1 ki33_0 ki33_1 ki34_0 ki34_1 ki35_0 ki35_1 ki36_0 ki36_1)
  have hAe : ∀ i j, i < 40 → j < 40 → (A i = A j ↔ i = j) := hA
  simp only [o75_0, o75_1, o75_2, o75_5, o75_8, c_queueOf_0, c_X1_lying (w := A 8) (r := A 9), mcs_0, Kn_v, true_and, Nat.reduceSub, Nat.zero_le, Nat.le_refl, Option.some.injEq, kc0, kc5, kc8, kc9, kr0_2, kr5_0, kr5_1]

theorem c_roomX0 {A : Nat → Nat} {h : MH} {Q : MR → MH → Prop} (R : Rl A h) : Ok 76 0 [.ref (A 0), .int 0] [] h 1 6 Q ↔ Q (.inl (some (.int (frF 1 (cT h (A 5) (A 8) (A 9)))))) h := by
  have R0 := R
  obtain ⟨vk, vcn, v0, v1, v2, vp, vl0, vl1, vlr, vsr, vc, tx⟩ := R0
  have vk0 := vk
  have vcn0 := vcn
  (refine K_el vk0 ?_; intros hA kc0 kc1 kc2 kc3 kc4 kc5 kc6 kc7 kc8 kc9 kc10 kc11 kc12 kc13 kc14 kc15 kc16 kc17 kc18 kc19 kc20 kc21 kc22 kc23 kc24 kc25 kc26 kc27 kc28 kc29 kc30 kc31 kc32 kc33 kc34 kc35 kc36 kc37 kc38 kc39 kz kt kn3 kn4 kn18 kn21 kn23 kn24 kn25 kn26 kn27 kn29 kn30 kr0_0 kr0_1 kr0_2 kr0_3 kr0_4 kr0_5 kr0_7 kr0_8 kr0_9 kr0_10 kr1_0 kr2_0 kr5_0 kr5_1 kr6_0 kr6_1 kr7_0 kr7_1 kr8_0 kr9_0 kr10_0 kr11_0 kr12_0 kr13_0 kr14_0 kr15_0 kr16_0 kr17_0 kr19_0 kr19_1 kr22_0 kr22_1 kr22_2 kr22_3 kr22_4 kr22_5 kr22_7 kr22_8 kr25_0 kr25_1 kr25_2 kr26_0 kr26_1 kr26_2 kr29_0 kr29_1)
  (refine Cn_el vcn0 ?_; intros ki5_2 ki6_2 ki7_2 ki8_1 ki8_2 ki8_3 ki9_1 ki9_2 ki9_3 ki10_1 ki10_2 ki10_3 ki11_1 ki11_2 ki11_3 ki12_1 ki12_2 ki12_3 ki13_1 ki13_2 ki13_3 ki14_1 ki14_2 ki14_3 ki28_0 ki28_1 ki31_0 ki31_1 ki32_0 ki32_1 ki33_0 ki33_1 ki34_0 ki34_1 ki35_0 ki35_1 ki36_0 ki36_1)
  have hAe : ∀ i j, i < 40 → j < 40 → (A i = A j ↔ i = j) := hA
  simp only [o76_0, o76_1, o76_2, o76_5, o76_8, c_queueOf_0, c_X1_freeCells (w := A 8) (r := A 9), mcs_0, Kn_v, true_and, Nat.reduceSub, Nat.zero_le, Nat.le_refl, Option.some.injEq, kc0, kc5, kc8, kc9, kr0_2, kr5_0, kr5_1, ki5_2]

theorem c_plX0_0 {A : Nat → Nat} {h : MH} {Q : MR → MH → Prop} (R : Rl A h) : Ok 79 0 [.ref (A 0), .int 0, .int 0, mk0] [] h 2 12 Q ↔ Q (.inl (some (.int (g_i h (A 8) 4)))) h := by
  have R0 := R
  obtain ⟨vk, vcn, v0, v1, v2, vp, vl0, vl1, vlr, vsr, vc, tx⟩ := R0
  have vk0 := vk
  have vcn0 := vcn
  (refine K_el vk0 ?_; intros hA kc0 kc1 kc2 kc3 kc4 kc5 kc6 kc7 kc8 kc9 kc10 kc11 kc12 kc13 kc14 kc15 kc16 kc17 kc18 kc19 kc20 kc21 kc22 kc23 kc24 kc25 kc26 kc27 kc28 kc29 kc30 kc31 kc32 kc33 kc34 kc35 kc36 kc37 kc38 kc39 kz kt kn3 kn4 kn18 kn21 kn23 kn24 kn25 kn26 kn27 kn29 kn30 kr0_0 kr0_1 kr0_2 kr0_3 kr0_4 kr0_5 kr0_7 kr0_8 kr0_9 kr0_10 kr1_0 kr2_0 kr5_0 kr5_1 kr6_0 kr6_1 kr7_0 kr7_1 kr8_0 kr9_0 kr10_0 kr11_0 kr12_0 kr13_0 kr14_0 kr15_0 kr16_0 kr17_0 kr19_0 kr19_1 kr22_0 kr22_1 kr22_2 kr22_3 kr22_4 kr22_5 kr22_7 kr22_8 kr25_0 kr25_1 kr25_2 kr26_0 kr26_1 kr26_2 kr29_0 kr29_1)
  (refine Cn_el vcn0 ?_; intros ki5_2 ki6_2 ki7_2 ki8_1 ki8_2 ki8_3 ki9_1 ki9_2 ki9_3 ki10_1 ki10_2 ki10_3 ki11_1 ki11_2 ki11_3 ki12_1 ki12_2 ki12_3 ki13_1 ki13_2 ki13_3 ki14_1 ki14_2 ki14_3 ki28_0 ki28_1 ki31_0 ki31_1 ki32_0 ki32_1 ki33_0 ki33_1 ki34_0 ki34_1 ki35_0 ki35_1 ki36_0 ki36_1)
  have hAe : ∀ i j, i < 40 → j < 40 → (A i = A j ↔ i = j) := hA
  simp only [o79_0, o79_1, o79_2, o79_5, o79_6, o79_7, o79_9, o79_12, o79_13, o79_52, o79_53, o79_56, o79_59, o79_60, o79_61, o79_64, o79_67, o79_68, o79_69, o79_72, o79_75, o79_76, o79_77, o79_80, o79_83, o79_84, o79_85, o79_88, o79_91, o79_92, o79_93, o79_96, o79_99, o79_100, o79_101, o79_104, o79_107, c_queueOf_0, c_X5_checkChoice, mcs_0, Kn_v, Kn_0, Kn_x, mrf_some, true_and, and_true, not_false_eq_true, false_implies, forall_const, and_self, Nat.reduceLeDiff, Nat.reduceSub, Nat.zero_le, Nat.le_refl, i01, Int32.reduceLT, Option.some.injEq, kc0, kc5, kc8, kc9, kr0_2, kr5_0, kr5_1, ki8_1, ki8_2, lne, lti, Int.reduceLT, or_self, Int32.reduceLT]

theorem c_plX0_1 {A : Nat → Nat} {h : MH} {Q : MR → MH → Prop} (R : Rl A h) : Ok 79 0 [.ref (A 0), .int 0, .int 1, mk0] [] h 2 12 Q ↔ Q (.inl (some (.int (g_i h (A 8) 5)))) h := by
  have R0 := R
  obtain ⟨vk, vcn, v0, v1, v2, vp, vl0, vl1, vlr, vsr, vc, tx⟩ := R0
  have vk0 := vk
  have vcn0 := vcn
  (refine K_el vk0 ?_; intros hA kc0 kc1 kc2 kc3 kc4 kc5 kc6 kc7 kc8 kc9 kc10 kc11 kc12 kc13 kc14 kc15 kc16 kc17 kc18 kc19 kc20 kc21 kc22 kc23 kc24 kc25 kc26 kc27 kc28 kc29 kc30 kc31 kc32 kc33 kc34 kc35 kc36 kc37 kc38 kc39 kz kt kn3 kn4 kn18 kn21 kn23 kn24 kn25 kn26 kn27 kn29 kn30 kr0_0 kr0_1 kr0_2 kr0_3 kr0_4 kr0_5 kr0_7 kr0_8 kr0_9 kr0_10 kr1_0 kr2_0 kr5_0 kr5_1 kr6_0 kr6_1 kr7_0 kr7_1 kr8_0 kr9_0 kr10_0 kr11_0 kr12_0 kr13_0 kr14_0 kr15_0 kr16_0 kr17_0 kr19_0 kr19_1 kr22_0 kr22_1 kr22_2 kr22_3 kr22_4 kr22_5 kr22_7 kr22_8 kr25_0 kr25_1 kr25_2 kr26_0 kr26_1 kr26_2 kr29_0 kr29_1)
  (refine Cn_el vcn0 ?_; intros ki5_2 ki6_2 ki7_2 ki8_1 ki8_2 ki8_3 ki9_1 ki9_2 ki9_3 ki10_1 ki10_2 ki10_3 ki11_1 ki11_2 ki11_3 ki12_1 ki12_2 ki12_3 ki13_1 ki13_2 ki13_3 ki14_1 ki14_2 ki14_3 ki28_0 ki28_1 ki31_0 ki31_1 ki32_0 ki32_1 ki33_0 ki33_1 ki34_0 ki34_1 ki35_0 ki35_1 ki36_0 ki36_1)
  have hAe : ∀ i j, i < 40 → j < 40 → (A i = A j ↔ i = j) := hA
  simp only [o79_0, o79_1, o79_2, o79_5, o79_6, o79_7, o79_9, o79_12, o79_13, o79_52, o79_53, o79_56, o79_59, o79_60, o79_61, o79_64, o79_67, o79_68, o79_69, o79_72, o79_75, o79_76, o79_77, o79_80, o79_83, o79_84, o79_85, o79_88, o79_91, o79_92, o79_93, o79_96, o79_99, o79_100, o79_101, o79_104, o79_107, c_queueOf_0, c_X5_checkChoice, mcs_0, Kn_v, Kn_0, Kn_x, mrf_some, true_and, and_true, not_false_eq_true, false_implies, forall_const, and_self, Nat.reduceLeDiff, Nat.reduceSub, Nat.zero_le, Nat.le_refl, i10, Int32.reduceLT, Option.some.injEq, kc0, kc5, kc8, kc9, kr0_2, kr5_0, kr5_1, ki8_1, ki8_2, lne, lti, Int.reduceLT, or_self, Int32.reduceLT]

theorem c_plX0_2 {A : Nat → Nat} {h : MH} {Q : MR → MH → Prop} (R : Rl A h) : Ok 79 0 [.ref (A 0), .int 0, .int 2, mk0] [] h 2 12 Q ↔ Q (.inl (some (.int (g_i h (A 9) 4)))) h := by
  have R0 := R
  obtain ⟨vk, vcn, v0, v1, v2, vp, vl0, vl1, vlr, vsr, vc, tx⟩ := R0
  have vk0 := vk
  have vcn0 := vcn
  (refine K_el vk0 ?_; intros hA kc0 kc1 kc2 kc3 kc4 kc5 kc6 kc7 kc8 kc9 kc10 kc11 kc12 kc13 kc14 kc15 kc16 kc17 kc18 kc19 kc20 kc21 kc22 kc23 kc24 kc25 kc26 kc27 kc28 kc29 kc30 kc31 kc32 kc33 kc34 kc35 kc36 kc37 kc38 kc39 kz kt kn3 kn4 kn18 kn21 kn23 kn24 kn25 kn26 kn27 kn29 kn30 kr0_0 kr0_1 kr0_2 kr0_3 kr0_4 kr0_5 kr0_7 kr0_8 kr0_9 kr0_10 kr1_0 kr2_0 kr5_0 kr5_1 kr6_0 kr6_1 kr7_0 kr7_1 kr8_0 kr9_0 kr10_0 kr11_0 kr12_0 kr13_0 kr14_0 kr15_0 kr16_0 kr17_0 kr19_0 kr19_1 kr22_0 kr22_1 kr22_2 kr22_3 kr22_4 kr22_5 kr22_7 kr22_8 kr25_0 kr25_1 kr25_2 kr26_0 kr26_1 kr26_2 kr29_0 kr29_1)
  (refine Cn_el vcn0 ?_; intros ki5_2 ki6_2 ki7_2 ki8_1 ki8_2 ki8_3 ki9_1 ki9_2 ki9_3 ki10_1 ki10_2 ki10_3 ki11_1 ki11_2 ki11_3 ki12_1 ki12_2 ki12_3 ki13_1 ki13_2 ki13_3 ki14_1 ki14_2 ki14_3 ki28_0 ki28_1 ki31_0 ki31_1 ki32_0 ki32_1 ki33_0 ki33_1 ki34_0 ki34_1 ki35_0 ki35_1 ki36_0 ki36_1)
  have hAe : ∀ i j, i < 40 → j < 40 → (A i = A j ↔ i = j) := hA
  simp only [o79_0, o79_1, o79_2, o79_5, o79_6, o79_7, o79_9, o79_12, o79_13, o79_52, o79_53, o79_56, o79_59, o79_60, o79_61, o79_64, o79_67, o79_68, o79_69, o79_72, o79_75, o79_76, o79_77, o79_80, o79_83, o79_84, o79_85, o79_88, o79_91, o79_92, o79_93, o79_96, o79_99, o79_100, o79_101, o79_104, o79_107, c_queueOf_0, c_X5_checkChoice, mcs_0, Kn_v, Kn_0, Kn_x, mrf_some, true_and, and_true, not_false_eq_true, false_implies, forall_const, and_self, Nat.reduceLeDiff, Nat.reduceSub, Nat.zero_le, Nat.le_refl, Int32.reduceLT, Option.some.injEq, i20, kc0, kc5, kc8, kc9, kr0_2, kr5_0, kr5_1, ki8_1, ki8_2, lne, lti, Int.reduceLT, or_self, Int32.reduceLT]

theorem c_plX0_3 {A : Nat → Nat} {h : MH} {Q : MR → MH → Prop} (R : Rl A h) : Ok 79 0 [.ref (A 0), .int 0, .int 3, mk0] [] h 2 12 Q ↔ Q (.inl (some (.int (g_i h (A 9) 5)))) h := by
  have R0 := R
  obtain ⟨vk, vcn, v0, v1, v2, vp, vl0, vl1, vlr, vsr, vc, tx⟩ := R0
  have vk0 := vk
  have vcn0 := vcn
  (refine K_el vk0 ?_; intros hA kc0 kc1 kc2 kc3 kc4 kc5 kc6 kc7 kc8 kc9 kc10 kc11 kc12 kc13 kc14 kc15 kc16 kc17 kc18 kc19 kc20 kc21 kc22 kc23 kc24 kc25 kc26 kc27 kc28 kc29 kc30 kc31 kc32 kc33 kc34 kc35 kc36 kc37 kc38 kc39 kz kt kn3 kn4 kn18 kn21 kn23 kn24 kn25 kn26 kn27 kn29 kn30 kr0_0 kr0_1 kr0_2 kr0_3 kr0_4 kr0_5 kr0_7 kr0_8 kr0_9 kr0_10 kr1_0 kr2_0 kr5_0 kr5_1 kr6_0 kr6_1 kr7_0 kr7_1 kr8_0 kr9_0 kr10_0 kr11_0 kr12_0 kr13_0 kr14_0 kr15_0 kr16_0 kr17_0 kr19_0 kr19_1 kr22_0 kr22_1 kr22_2 kr22_3 kr22_4 kr22_5 kr22_7 kr22_8 kr25_0 kr25_1 kr25_2 kr26_0 kr26_1 kr26_2 kr29_0 kr29_1)
  (refine Cn_el vcn0 ?_; intros ki5_2 ki6_2 ki7_2 ki8_1 ki8_2 ki8_3 ki9_1 ki9_2 ki9_3 ki10_1 ki10_2 ki10_3 ki11_1 ki11_2 ki11_3 ki12_1 ki12_2 ki12_3 ki13_1 ki13_2 ki13_3 ki14_1 ki14_2 ki14_3 ki28_0 ki28_1 ki31_0 ki31_1 ki32_0 ki32_1 ki33_0 ki33_1 ki34_0 ki34_1 ki35_0 ki35_1 ki36_0 ki36_1)
  have hAe : ∀ i j, i < 40 → j < 40 → (A i = A j ↔ i = j) := hA
  simp only [o79_0, o79_1, o79_2, o79_5, o79_6, o79_7, o79_9, o79_12, o79_13, o79_52, o79_53, o79_56, o79_59, o79_60, o79_61, o79_64, o79_67, o79_68, o79_69, o79_72, o79_75, o79_76, o79_77, o79_80, o79_83, o79_84, o79_85, o79_88, o79_91, o79_92, o79_93, o79_96, o79_99, o79_100, o79_101, o79_104, o79_107, c_queueOf_0, c_X5_checkChoice, mcs_0, Kn_v, Kn_0, Kn_x, mrf_some, true_and, and_true, not_false_eq_true, false_implies, forall_const, and_self, Nat.reduceLeDiff, Nat.reduceSub, Nat.zero_le, Nat.le_refl, Int32.reduceLT, Option.some.injEq, i30, kc0, kc5, kc8, kc9, kr0_2, kr5_0, kr5_1, ki8_1, ki8_2, lne, lti, Int.reduceLT, or_self, Int32.reduceLT]

theorem c_plX0_4 {A : Nat → Nat} {h : MH} {Q : MR → MH → Prop} (R : Rl A h) : Ok 79 0 [.ref (A 0), .int 0, .int 4, mk0] [] h 2 12 Q ↔ Q (.inl (some (.int (g_i h (A 9) 6)))) h := by
  have R0 := R
  obtain ⟨vk, vcn, v0, v1, v2, vp, vl0, vl1, vlr, vsr, vc, tx⟩ := R0
  have vk0 := vk
  have vcn0 := vcn
  (refine K_el vk0 ?_; intros hA kc0 kc1 kc2 kc3 kc4 kc5 kc6 kc7 kc8 kc9 kc10 kc11 kc12 kc13 kc14 kc15 kc16 kc17 kc18 kc19 kc20 kc21 kc22 kc23 kc24 kc25 kc26 kc27 kc28 kc29 kc30 kc31 kc32 kc33 kc34 kc35 kc36 kc37 kc38 kc39 kz kt kn3 kn4 kn18 kn21 kn23 kn24 kn25 kn26 kn27 kn29 kn30 kr0_0 kr0_1 kr0_2 kr0_3 kr0_4 kr0_5 kr0_7 kr0_8 kr0_9 kr0_10 kr1_0 kr2_0 kr5_0 kr5_1 kr6_0 kr6_1 kr7_0 kr7_1 kr8_0 kr9_0 kr10_0 kr11_0 kr12_0 kr13_0 kr14_0 kr15_0 kr16_0 kr17_0 kr19_0 kr19_1 kr22_0 kr22_1 kr22_2 kr22_3 kr22_4 kr22_5 kr22_7 kr22_8 kr25_0 kr25_1 kr25_2 kr26_0 kr26_1 kr26_2 kr29_0 kr29_1)
  (refine Cn_el vcn0 ?_; intros ki5_2 ki6_2 ki7_2 ki8_1 ki8_2 ki8_3 ki9_1 ki9_2 ki9_3 ki10_1 ki10_2 ki10_3 ki11_1 ki11_2 ki11_3 ki12_1 ki12_2 ki12_3 ki13_1 ki13_2 ki13_3 ki14_1 ki14_2 ki14_3 ki28_0 ki28_1 ki31_0 ki31_1 ki32_0 ki32_1 ki33_0 ki33_1 ki34_0 ki34_1 ki35_0 ki35_1 ki36_0 ki36_1)
  have hAe : ∀ i j, i < 40 → j < 40 → (A i = A j ↔ i = j) := hA
  simp only [o79_0, o79_1, o79_2, o79_5, o79_6, o79_7, o79_9, o79_12, o79_13, o79_52, o79_53, o79_56, o79_59, o79_60, o79_61, o79_64, o79_67, o79_68, o79_69, o79_72, o79_75, o79_76, o79_77, o79_80, o79_83, o79_84, o79_85, o79_88, o79_91, o79_92, o79_93, o79_96, o79_99, o79_100, o79_101, o79_104, o79_107, c_queueOf_0, c_X5_checkChoice, mcs_0, Kn_v, Kn_0, Kn_x, mrf_some, true_and, and_true, not_false_eq_true, false_implies, forall_const, Nat.reduceLeDiff, Nat.reduceSub, Nat.zero_le, Nat.le_refl, Int32.reduceLT, Option.some.injEq, kc0, kc5, kc8, kc9, kr0_2, kr5_0, kr5_1, ki8_1, ki8_2, lne, lti, Int.reduceLT, or_self, Int32.reduceLT]

theorem c_plX0_5 {A : Nat → Nat} {h : MH} {Q : MR → MH → Prop} (R : Rl A h) : Ok 79 0 [.ref (A 0), .int 0, .int 5, mk0] [] h 2 12 Q ↔ Q (.inl (some (.int (5)))) h := by
  have R0 := R
  obtain ⟨vk, vcn, v0, v1, v2, vp, vl0, vl1, vlr, vsr, vc, tx⟩ := R0
  have vk0 := vk
  have vcn0 := vcn
  (refine K_el vk0 ?_; intros hA kc0 kc1 kc2 kc3 kc4 kc5 kc6 kc7 kc8 kc9 kc10 kc11 kc12 kc13 kc14 kc15 kc16 kc17 kc18 kc19 kc20 kc21 kc22 kc23 kc24 kc25 kc26 kc27 kc28 kc29 kc30 kc31 kc32 kc33 kc34 kc35 kc36 kc37 kc38 kc39 kz kt kn3 kn4 kn18 kn21 kn23 kn24 kn25 kn26 kn27 kn29 kn30 kr0_0 kr0_1 kr0_2 kr0_3 kr0_4 kr0_5 kr0_7 kr0_8 kr0_9 kr0_10 kr1_0 kr2_0 kr5_0 kr5_1 kr6_0 kr6_1 kr7_0 kr7_1 kr8_0 kr9_0 kr10_0 kr11_0 kr12_0 kr13_0 kr14_0 kr15_0 kr16_0 kr17_0 kr19_0 kr19_1 kr22_0 kr22_1 kr22_2 kr22_3 kr22_4 kr22_5 kr22_7 kr22_8 kr25_0 kr25_1 kr25_2 kr26_0 kr26_1 kr26_2 kr29_0 kr29_1)
  (refine Cn_el vcn0 ?_; intros ki5_2 ki6_2 ki7_2 ki8_1 ki8_2 ki8_3 ki9_1 ki9_2 ki9_3 ki10_1 ki10_2 ki10_3 ki11_1 ki11_2 ki11_3 ki12_1 ki12_2 ki12_3 ki13_1 ki13_2 ki13_3 ki14_1 ki14_2 ki14_3 ki28_0 ki28_1 ki31_0 ki31_1 ki32_0 ki32_1 ki33_0 ki33_1 ki34_0 ki34_1 ki35_0 ki35_1 ki36_0 ki36_1)
  have hAe : ∀ i j, i < 40 → j < 40 → (A i = A j ↔ i = j) := hA
  simp only [o79_0, o79_1, o79_2, o79_5, o79_6, o79_7, o79_9, o79_12, o79_13, o79_52, o79_53, o79_56, o79_59, o79_60, o79_61, o79_64, o79_67, o79_68, o79_69, o79_72, o79_75, o79_76, o79_77, o79_80, o79_83, o79_84, o79_85, o79_88, o79_91, o79_92, o79_93, o79_96, o79_99, o79_100, o79_101, o79_104, o79_107, c_queueOf_0, c_X5_checkChoice, mcs_0, Kn_v, Kn_0, Kn_x, mrf_some, true_and, not_false_eq_true, false_implies, forall_const, Nat.reduceLeDiff, Nat.reduceSub, Nat.zero_le, Nat.le_refl, Int32.reduceLT, Option.some.injEq, kc0, kc5, kc8, kc9, kr0_2, kr5_0, kr5_1, ki8_1, ki8_2, lne, lti, Int.reduceLT, or_self, Int32.reduceLT]

theorem c_plX0_6 {A : Nat → Nat} {h : MH} {Q : MR → MH → Prop} (R : Rl A h) : Ok 79 0 [.ref (A 0), .int 0, .int 6, mk0] [] h 2 12 Q ↔ Q (.inl (some (.int (1)))) h := by
  have R0 := R
  obtain ⟨vk, vcn, v0, v1, v2, vp, vl0, vl1, vlr, vsr, vc, tx⟩ := R0
  have vk0 := vk
  have vcn0 := vcn
  (refine K_el vk0 ?_; intros hA kc0 kc1 kc2 kc3 kc4 kc5 kc6 kc7 kc8 kc9 kc10 kc11 kc12 kc13 kc14 kc15 kc16 kc17 kc18 kc19 kc20 kc21 kc22 kc23 kc24 kc25 kc26 kc27 kc28 kc29 kc30 kc31 kc32 kc33 kc34 kc35 kc36 kc37 kc38 kc39 kz kt kn3 kn4 kn18 kn21 kn23 kn24 kn25 kn26 kn27 kn29 kn30 kr0_0 kr0_1 kr0_2 kr0_3 kr0_4 kr0_5 kr0_7 kr0_8 kr0_9 kr0_10 kr1_0 kr2_0 kr5_0 kr5_1 kr6_0 kr6_1 kr7_0 kr7_1 kr8_0 kr9_0 kr10_0 kr11_0 kr12_0 kr13_0 kr14_0 kr15_0 kr16_0 kr17_0 kr19_0 kr19_1 kr22_0 kr22_1 kr22_2 kr22_3 kr22_4 kr22_5 kr22_7 kr22_8 kr25_0 kr25_1 kr25_2 kr26_0 kr26_1 kr26_2 kr29_0 kr29_1)
  (refine Cn_el vcn0 ?_; intros ki5_2 ki6_2 ki7_2 ki8_1 ki8_2 ki8_3 ki9_1 ki9_2 ki9_3 ki10_1 ki10_2 ki10_3 ki11_1 ki11_2 ki11_3 ki12_1 ki12_2 ki12_3 ki13_1 ki13_2 ki13_3 ki14_1 ki14_2 ki14_3 ki28_0 ki28_1 ki31_0 ki31_1 ki32_0 ki32_1 ki33_0 ki33_1 ki34_0 ki34_1 ki35_0 ki35_1 ki36_0 ki36_1)
  have hAe : ∀ i j, i < 40 → j < 40 → (A i = A j ↔ i = j) := hA
  simp only [o79_0, o79_1, o79_2, o79_5, o79_6, o79_7, o79_9, o79_12, o79_13, o79_52, o79_53, o79_56, o79_59, o79_60, o79_61, o79_64, o79_67, o79_68, o79_69, o79_72, o79_75, o79_76, o79_77, o79_80, o79_83, o79_84, o79_85, o79_88, o79_91, o79_92, o79_93, o79_96, o79_99, o79_100, o79_101, o79_104, o79_107, c_queueOf_0, c_X5_checkChoice, mcs_0, Kn_v, Kn_0, Kn_x, mrf_some, true_and, and_true, or_true, not_false_eq_true, false_implies, forall_const, and_self, Nat.reduceLeDiff, Nat.reduceSub, Nat.zero_le, Nat.le_refl, Int32.reduceLT, Option.some.injEq, kc0, kc5, kc8, kc9, kr0_2, kr5_0, kr5_1, ki8_1, ki8_2, lne, lti, Int.reduceLT, or_self, Int32.reduceLT]

def dP0 (A : Nat → Nat) (h : MH) (d : Int64) : Int64 := dg1 (dg1 (dg1 (dg1 (dg1 (dg1 (dg1 (dg1 (dg1 d (lyF (cT h (A 5) (A 8) (A 9)))) (frF 1 (cT h (A 5) (A 8) (A 9)))) (g_i h (A 8) 4)) (g_i h (A 8) 5)) (g_i h (A 9) 4)) (g_i h (A 9) 5)) (g_i h (A 9) 6)) (5)) (1)
def dQ0 (A : Nat → Nat) (h : MH) (d : Int64) : Int64 := dg1 (dP0 A h d) (Int32.ofNat (tq (qv0 A h) (lyF (cT h (A 5) (A 8) (A 9))).toNatClampNeg))
theorem c_wQ0 {A : Nat → Nat} {h : MH} {d : Int64} {Q : MR → MH → Prop} (R : Rl A h) (hQ : ∀ m, Sm A h m → Rl A m → Q (.inl (some (.long (dQ0 A h d)))) m) : Ok 145 0 [.ref (A 0), .long d, mk0, .int 0, mk0, mk0, mk0] [] h 144 19152 Q := by
  have R0 := R
  obtain ⟨vk, vcn, v0, v1, v2, vp, vl0, vl1, vlr, vsr, vc, tx⟩ := R0
  have vk0 := vk
  have vcn0 := vcn
  (refine K_el vk0 ?_; intros hA kc0 kc1 kc2 kc3 kc4 kc5 kc6 kc7 kc8 kc9 kc10 kc11 kc12 kc13 kc14 kc15 kc16 kc17 kc18 kc19 kc20 kc21 kc22 kc23 kc24 kc25 kc26 kc27 kc28 kc29 kc30 kc31 kc32 kc33 kc34 kc35 kc36 kc37 kc38 kc39 kz kt kn3 kn4 kn18 kn21 kn23 kn24 kn25 kn26 kn27 kn29 kn30 kr0_0 kr0_1 kr0_2 kr0_3 kr0_4 kr0_5 kr0_7 kr0_8 kr0_9 kr0_10 kr1_0 kr2_0 kr5_0 kr5_1 kr6_0 kr6_1 kr7_0 kr7_1 kr8_0 kr9_0 kr10_0 kr11_0 kr12_0 kr13_0 kr14_0 kr15_0 kr16_0 kr17_0 kr19_0 kr19_1 kr22_0 kr22_1 kr22_2 kr22_3 kr22_4 kr22_5 kr22_7 kr22_8 kr25_0 kr25_1 kr25_2 kr26_0 kr26_1 kr26_2 kr29_0 kr29_1)
  (refine Cn_el vcn0 ?_; intros ki5_2 ki6_2 ki7_2 ki8_1 ki8_2 ki8_3 ki9_1 ki9_2 ki9_3 ki10_1 ki10_2 ki10_3 ki11_1 ki11_2 ki11_3 ki12_1 ki12_2 ki12_3 ki13_1 ki13_2 ki13_3 ki14_1 ki14_2 ki14_3 ki28_0 ki28_1 ki31_0 ki31_1 ki32_0 ki32_1 ki33_0 ki33_1 ki34_0 ki34_1 ki35_0 ki35_1 ki36_0 ki36_1)
  have hAe : ∀ i j, i < 40 → j < 40 → (A i = A j ↔ i = j) := hA
  have a0 : ∀ j : Nat, j < 7 → ((6 : Int32) < Int32.ofNat j) = False := by decide
  have b6 : (6 : Int32) = 6 := by decide
  simp only [o145_0, o145_1, o145_2, o145_3, o145_6, o145_7, o145_10, o145_11, o145_12, o145_15, o145_16, o145_19, o145_21, o145_22, o145_24, o145_26, o145_28, o145_31, o145_33, o145_34, o145_35, o145_37, o145_40, o145_41, o145_44, o145_46, o145_49, o145_52, o145_53, o145_54, o145_55, o145_58, c_liesX0 R, c_roomX0 R, c_plX0_0 R, c_plX0_1 R, c_plX0_2 R, c_plX0_3 R, c_plX0_4 R, c_plX0_5 R, c_plX0_6 R, o143_0, o143_1, o143_4, o143_5, o143_6, o143_7, c_queueOf_0, mcs_0, mcs_l, mcs_r, Kn_v, true_and, and_true, not_true_eq_false, not_false_eq_true, false_implies, forall_const, Nat.reduceLeDiff, Nat.reduceSub, Nat.reduceAdd, Nat.zero_le, Nat.le_refl, Int32.reduceLT, Int32.reduceAdd, Option.some.injEq, kc0, kr0_2, Int32.reduceLT]
  refine c_gQ0 R (fun m f b => ?_)
  have Rm := Rl_Fx R f b
  have R0 := Rm
  obtain ⟨vk, vcn, v0, v1, v2, vp, vl0, vl1, vlr, vsr, vc, tx⟩ := R0
  have vk0 := vk
  have vcn0 := vcn
  (refine K_el vk0 ?_; intros hA kc0 kc1 kc2 kc3 kc4 kc5 kc6 kc7 kc8 kc9 kc10 kc11 kc12 kc13 kc14 kc15 kc16 kc17 kc18 kc19 kc20 kc21 kc22 kc23 kc24 kc25 kc26 kc27 kc28 kc29 kc30 kc31 kc32 kc33 kc34 kc35 kc36 kc37 kc38 kc39 kz kt kn3 kn4 kn18 kn21 kn23 kn24 kn25 kn26 kn27 kn29 kn30 kr0_0 kr0_1 kr0_2 kr0_3 kr0_4 kr0_5 kr0_7 kr0_8 kr0_9 kr0_10 kr1_0 kr2_0 kr5_0 kr5_1 kr6_0 kr6_1 kr7_0 kr7_1 kr8_0 kr9_0 kr10_0 kr11_0 kr12_0 kr13_0 kr14_0 kr15_0 kr16_0 kr17_0 kr19_0 kr19_1 kr22_0 kr22_1 kr22_2 kr22_3 kr22_4 kr22_5 kr22_7 kr22_8 kr25_0 kr25_1 kr25_2 kr26_0 kr26_1 kr26_2 kr29_0 kr29_1)
  (refine Cn_el vcn0 ?_; intros ki5_2 ki6_2 ki7_2 ki8_1 ki8_2 ki8_3 ki9_1 ki9_2 ki9_3 ki10_1 ki10_2 ki10_3 ki11_1 ki11_2 ki11_3 ki12_1 ki12_2 ki12_3 ki13_1 ki13_2 ki13_3 ki14_1 ki14_2 ki14_3 ki28_0 ki28_1 ki31_0 ki31_1 ki32_0 ki32_1 ki33_0 ki33_1 ki34_0 ki34_1 ki35_0 ki35_1 ki36_0 ki36_1)
  have hAe : ∀ i j, i < 40 → j < 40 → (A i = A j ↔ i = j) := hA
  simp only [o145_61, o145_63, o145_64, o145_67, o145_70, o145_71, o145_74, c_wlen (Wo_of Rm) b, o143_0, o143_1, o143_4, o143_5, o143_6, o143_7, mcs_0, mcs_l, Kn_v, Kn_0, mrf_some, true_and, Nat.reduceLeDiff, Nat.reduceAdd, Nat.zero_le, kc0, kc19, kr0_10]
  exact hQ m (Sm_Fx R f) Rm

theorem c_liesX1 {A : Nat → Nat} {h : MH} {Q : MR → MH → Prop} (R : Rl A h) : Ok 75 0 [.ref (A 0), .int 1] [] h 1 6 Q ↔ Q (.inl (some (.int (lyF (cT h (A 6) (A 10) (A 11)))))) h := by
  have R0 := R
  obtain ⟨vk, vcn, v0, v1, v2, vp, vl0, vl1, vlr, vsr, vc, tx⟩ := R0
  have vk0 := vk
  have vcn0 := vcn
  (refine K_el vk0 ?_; intros hA kc0 kc1 kc2 kc3 kc4 kc5 kc6 kc7 kc8 kc9 kc10 kc11 kc12 kc13 kc14 kc15 kc16 kc17 kc18 kc19 kc20 kc21 kc22 kc23 kc24 kc25 kc26 kc27 kc28 kc29 kc30 kc31 kc32 kc33 kc34 kc35 kc36 kc37 kc38 kc39 kz kt kn3 kn4 kn18 kn21 kn23 kn24 kn25 kn26 kn27 kn29 kn30 kr0_0 kr0_1 kr0_2 kr0_3 kr0_4 kr0_5 kr0_7 kr0_8 kr0_9 kr0_10 kr1_0 kr2_0 kr5_0 kr5_1 kr6_0 kr6_1 kr7_0 kr7_1 kr8_0 kr9_0 kr10_0 kr11_0 kr12_0 kr13_0 kr14_0 kr15_0 kr16_0 kr17_0 kr19_0 kr19_1 kr22_0 kr22_1 kr22_2 kr22_3 kr22_4 kr22_5 kr22_7 kr22_8 kr25_0 kr25_1 kr25_2 kr26_0 kr26_1 kr26_2 kr29_0 kr29_1)
  (refine Cn_el vcn0 ?_; intros ki5_2 ki6_2 ki7_2 ki8_1 ki8_2 ki8_3 ki9_1 ki9_2 ki9_3 ki10_1 ki10_2 ki10_3 ki11_1 ki11_2 ki11_3 ki12_1 ki12_2 ki12_3 ki13_1 ki13_2 ki13_3 ki14_1 ki14_2 ki14_3 ki28_0 ki28_1 ki31_0 ki31_1 ki32_0 ki32_1 ki33_0 ki33_1 ki34_0 ki34_1 ki35_0 ki35_1 ki36_0 ki36_1)
  have hAe : ∀ i j, i < 40 → j < 40 → (A i = A j ↔ i = j) := hA
  simp only [o75_0, o75_1, o75_2, o75_5, o75_8, c_queueOf_1, c_X1_lying (w := A 10) (r := A 11), mcs_0, Kn_v, true_and, Nat.reduceSub, Nat.zero_le, Nat.le_refl, Option.some.injEq, kc0, kc6, kc10, kc11, kr0_3, kr6_0, kr6_1]

theorem c_roomX1 {A : Nat → Nat} {h : MH} {Q : MR → MH → Prop} (R : Rl A h) : Ok 76 0 [.ref (A 0), .int 1] [] h 1 6 Q ↔ Q (.inl (some (.int (frF 1 (cT h (A 6) (A 10) (A 11)))))) h := by
  have R0 := R
  obtain ⟨vk, vcn, v0, v1, v2, vp, vl0, vl1, vlr, vsr, vc, tx⟩ := R0
  have vk0 := vk
  have vcn0 := vcn
  (refine K_el vk0 ?_; intros hA kc0 kc1 kc2 kc3 kc4 kc5 kc6 kc7 kc8 kc9 kc10 kc11 kc12 kc13 kc14 kc15 kc16 kc17 kc18 kc19 kc20 kc21 kc22 kc23 kc24 kc25 kc26 kc27 kc28 kc29 kc30 kc31 kc32 kc33 kc34 kc35 kc36 kc37 kc38 kc39 kz kt kn3 kn4 kn18 kn21 kn23 kn24 kn25 kn26 kn27 kn29 kn30 kr0_0 kr0_1 kr0_2 kr0_3 kr0_4 kr0_5 kr0_7 kr0_8 kr0_9 kr0_10 kr1_0 kr2_0 kr5_0 kr5_1 kr6_0 kr6_1 kr7_0 kr7_1 kr8_0 kr9_0 kr10_0 kr11_0 kr12_0 kr13_0 kr14_0 kr15_0 kr16_0 kr17_0 kr19_0 kr19_1 kr22_0 kr22_1 kr22_2 kr22_3 kr22_4 kr22_5 kr22_7 kr22_8 kr25_0 kr25_1 kr25_2 kr26_0 kr26_1 kr26_2 kr29_0 kr29_1)
  (refine Cn_el vcn0 ?_; intros ki5_2 ki6_2 ki7_2 ki8_1 ki8_2 ki8_3 ki9_1 ki9_2 ki9_3 ki10_1 ki10_2 ki10_3 ki11_1 ki11_2 ki11_3 ki12_1 ki12_2 ki12_3 ki13_1 ki13_2 ki13_3 ki14_1 ki14_2 ki14_3 ki28_0 ki28_1 ki31_0 ki31_1 ki32_0 ki32_1 ki33_0 ki33_1 ki34_0 ki34_1 ki35_0 ki35_1 ki36_0 ki36_1)
  have hAe : ∀ i j, i < 40 → j < 40 → (A i = A j ↔ i = j) := hA
  simp only [o76_0, o76_1, o76_2, o76_5, o76_8, c_queueOf_1, c_X1_freeCells (w := A 10) (r := A 11), mcs_0, Kn_v, true_and, Nat.reduceSub, Nat.zero_le, Nat.le_refl, Option.some.injEq, kc0, kc6, kc10, kc11, kr0_3, kr6_0, kr6_1, ki6_2]

theorem c_plX1_0 {A : Nat → Nat} {h : MH} {Q : MR → MH → Prop} (R : Rl A h) : Ok 79 0 [.ref (A 0), .int 1, .int 0, mk0] [] h 2 12 Q ↔ Q (.inl (some (.int (g_i h (A 10) 4)))) h := by
  have R0 := R
  obtain ⟨vk, vcn, v0, v1, v2, vp, vl0, vl1, vlr, vsr, vc, tx⟩ := R0
  have vk0 := vk
  have vcn0 := vcn
  (refine K_el vk0 ?_; intros hA kc0 kc1 kc2 kc3 kc4 kc5 kc6 kc7 kc8 kc9 kc10 kc11 kc12 kc13 kc14 kc15 kc16 kc17 kc18 kc19 kc20 kc21 kc22 kc23 kc24 kc25 kc26 kc27 kc28 kc29 kc30 kc31 kc32 kc33 kc34 kc35 kc36 kc37 kc38 kc39 kz kt kn3 kn4 kn18 kn21 kn23 kn24 kn25 kn26 kn27 kn29 kn30 kr0_0 kr0_1 kr0_2 kr0_3 kr0_4 kr0_5 kr0_7 kr0_8 kr0_9 kr0_10 kr1_0 kr2_0 kr5_0 kr5_1 kr6_0 kr6_1 kr7_0 kr7_1 kr8_0 kr9_0 kr10_0 kr11_0 kr12_0 kr13_0 kr14_0 kr15_0 kr16_0 kr17_0 kr19_0 kr19_1 kr22_0 kr22_1 kr22_2 kr22_3 kr22_4 kr22_5 kr22_7 kr22_8 kr25_0 kr25_1 kr25_2 kr26_0 kr26_1 kr26_2 kr29_0 kr29_1)
  (refine Cn_el vcn0 ?_; intros ki5_2 ki6_2 ki7_2 ki8_1 ki8_2 ki8_3 ki9_1 ki9_2 ki9_3 ki10_1 ki10_2 ki10_3 ki11_1 ki11_2 ki11_3 ki12_1 ki12_2 ki12_3 ki13_1 ki13_2 ki13_3 ki14_1 ki14_2 ki14_3 ki28_0 ki28_1 ki31_0 ki31_1 ki32_0 ki32_1 ki33_0 ki33_1 ki34_0 ki34_1 ki35_0 ki35_1 ki36_0 ki36_1)
  have hAe : ∀ i j, i < 40 → j < 40 → (A i = A j ↔ i = j) := hA
  simp only [o79_0, o79_1, o79_2, o79_5, o79_6, o79_7, o79_9, o79_12, o79_13, o79_52, o79_53, o79_56, o79_59, o79_60, o79_61, o79_64, o79_67, o79_68, o79_69, o79_72, o79_75, o79_76, o79_77, o79_80, o79_83, o79_84, o79_85, o79_88, o79_91, o79_92, o79_93, o79_96, o79_99, o79_100, o79_101, o79_104, o79_107, c_queueOf_1, c_X5_checkChoice, mcs_0, Kn_v, Kn_0, Kn_x, mrf_some, true_and, and_true, not_false_eq_true, false_implies, forall_const, and_self, Nat.reduceLeDiff, Nat.reduceSub, Nat.zero_le, Nat.le_refl, i01, Int32.reduceLT, Option.some.injEq, kc0, kc6, kc10, kc11, kr0_3, kr6_0, kr6_1, ki10_1, ki10_2, lne, lti, Int.reduceLT, or_self, Int32.reduceLT]

theorem c_plX1_1 {A : Nat → Nat} {h : MH} {Q : MR → MH → Prop} (R : Rl A h) : Ok 79 0 [.ref (A 0), .int 1, .int 1, mk0] [] h 2 12 Q ↔ Q (.inl (some (.int (g_i h (A 10) 5)))) h := by
  have R0 := R
  obtain ⟨vk, vcn, v0, v1, v2, vp, vl0, vl1, vlr, vsr, vc, tx⟩ := R0
  have vk0 := vk
  have vcn0 := vcn
  (refine K_el vk0 ?_; intros hA kc0 kc1 kc2 kc3 kc4 kc5 kc6 kc7 kc8 kc9 kc10 kc11 kc12 kc13 kc14 kc15 kc16 kc17 kc18 kc19 kc20 kc21 kc22 kc23 kc24 kc25 kc26 kc27 kc28 kc29 kc30 kc31 kc32 kc33 kc34 kc35 kc36 kc37 kc38 kc39 kz kt kn3 kn4 kn18 kn21 kn23 kn24 kn25 kn26 kn27 kn29 kn30 kr0_0 kr0_1 kr0_2 kr0_3 kr0_4 kr0_5 kr0_7 kr0_8 kr0_9 kr0_10 kr1_0 kr2_0 kr5_0 kr5_1 kr6_0 kr6_1 kr7_0 kr7_1 kr8_0 kr9_0 kr10_0 kr11_0 kr12_0 kr13_0 kr14_0 kr15_0 kr16_0 kr17_0 kr19_0 kr19_1 kr22_0 kr22_1 kr22_2 kr22_3 kr22_4 kr22_5 kr22_7 kr22_8 kr25_0 kr25_1 kr25_2 kr26_0 kr26_1 kr26_2 kr29_0 kr29_1)
  (refine Cn_el vcn0 ?_; intros ki5_2 ki6_2 ki7_2 ki8_1 ki8_2 ki8_3 ki9_1 ki9_2 ki9_3 ki10_1 ki10_2 ki10_3 ki11_1 ki11_2 ki11_3 ki12_1 ki12_2 ki12_3 ki13_1 ki13_2 ki13_3 ki14_1 ki14_2 ki14_3 ki28_0 ki28_1 ki31_0 ki31_1 ki32_0 ki32_1 ki33_0 ki33_1 ki34_0 ki34_1 ki35_0 ki35_1 ki36_0 ki36_1)
  have hAe : ∀ i j, i < 40 → j < 40 → (A i = A j ↔ i = j) := hA
  simp only [o79_0, o79_1, o79_2, o79_5, o79_6, o79_7, o79_9, o79_12, o79_13, o79_52, o79_53, o79_56, o79_59, o79_60, o79_61, o79_64, o79_67, o79_68, o79_69, o79_72, o79_75, o79_76, o79_77, o79_80, o79_83, o79_84, o79_85, o79_88, o79_91, o79_92, o79_93, o79_96, o79_99, o79_100, o79_101, o79_104, o79_107, c_queueOf_1, c_X5_checkChoice, mcs_0, Kn_v, Kn_0, Kn_x, mrf_some, true_and, and_true, not_false_eq_true, false_implies, forall_const, and_self, Nat.reduceLeDiff, Nat.reduceSub, Nat.zero_le, Nat.le_refl, i10, Int32.reduceLT, Option.some.injEq, kc0, kc6, kc10, kc11, kr0_3, kr6_0, kr6_1, ki10_1, ki10_2, lne, lti, Int.reduceLT, or_self, Int32.reduceLT]

theorem c_plX1_2 {A : Nat → Nat} {h : MH} {Q : MR → MH → Prop} (R : Rl A h) : Ok 79 0 [.ref (A 0), .int 1, .int 2, mk0] [] h 2 12 Q ↔ Q (.inl (some (.int (g_i h (A 11) 4)))) h := by
  have R0 := R
  obtain ⟨vk, vcn, v0, v1, v2, vp, vl0, vl1, vlr, vsr, vc, tx⟩ := R0
  have vk0 := vk
  have vcn0 := vcn
  (refine K_el vk0 ?_; intros hA kc0 kc1 kc2 kc3 kc4 kc5 kc6 kc7 kc8 kc9 kc10 kc11 kc12 kc13 kc14 kc15 kc16 kc17 kc18 kc19 kc20 kc21 kc22 kc23 kc24 kc25 kc26 kc27 kc28 kc29 kc30 kc31 kc32 kc33 kc34 kc35 kc36 kc37 kc38 kc39 kz kt kn3 kn4 kn18 kn21 kn23 kn24 kn25 kn26 kn27 kn29 kn30 kr0_0 kr0_1 kr0_2 kr0_3 kr0_4 kr0_5 kr0_7 kr0_8 kr0_9 kr0_10 kr1_0 kr2_0 kr5_0 kr5_1 kr6_0 kr6_1 kr7_0 kr7_1 kr8_0 kr9_0 kr10_0 kr11_0 kr12_0 kr13_0 kr14_0 kr15_0 kr16_0 kr17_0 kr19_0 kr19_1 kr22_0 kr22_1 kr22_2 kr22_3 kr22_4 kr22_5 kr22_7 kr22_8 kr25_0 kr25_1 kr25_2 kr26_0 kr26_1 kr26_2 kr29_0 kr29_1)
  (refine Cn_el vcn0 ?_; intros ki5_2 ki6_2 ki7_2 ki8_1 ki8_2 ki8_3 ki9_1 ki9_2 ki9_3 ki10_1 ki10_2 ki10_3 ki11_1 ki11_2 ki11_3 ki12_1 ki12_2 ki12_3 ki13_1 ki13_2 ki13_3 ki14_1 ki14_2 ki14_3 ki28_0 ki28_1 ki31_0 ki31_1 ki32_0 ki32_1 ki33_0 ki33_1 ki34_0 ki34_1 ki35_0 ki35_1 ki36_0 ki36_1)
  have hAe : ∀ i j, i < 40 → j < 40 → (A i = A j ↔ i = j) := hA
  simp only [o79_0, o79_1, o79_2, o79_5, o79_6, o79_7, o79_9, o79_12, o79_13, o79_52, o79_53, o79_56, o79_59, o79_60, o79_61, o79_64, o79_67, o79_68, o79_69, o79_72, o79_75, o79_76, o79_77, o79_80, o79_83, o79_84, o79_85, o79_88, o79_91, o79_92, o79_93, o79_96, o79_99, o79_100, o79_101, o79_104, o79_107, c_queueOf_1, c_X5_checkChoice, mcs_0, Kn_v, Kn_0, Kn_x, mrf_some, true_and, and_true, not_false_eq_true, false_implies, forall_const, and_self, Nat.reduceLeDiff, Nat.reduceSub, Nat.zero_le, Nat.le_refl, Int32.reduceLT, Option.some.injEq, i20, kc0, kc6, kc10, kc11, kr0_3, kr6_0, kr6_1, ki10_1, ki10_2, lne, lti, Int.reduceLT, or_self, Int32.reduceLT]

theorem c_plX1_3 {A : Nat → Nat} {h : MH} {Q : MR → MH → Prop} (R : Rl A h) : Ok 79 0 [.ref (A 0), .int 1, .int 3, mk0] [] h 2 12 Q ↔ Q (.inl (some (.int (g_i h (A 11) 5)))) h := by
  have R0 := R
  obtain ⟨vk, vcn, v0, v1, v2, vp, vl0, vl1, vlr, vsr, vc, tx⟩ := R0
  have vk0 := vk
  have vcn0 := vcn
  (refine K_el vk0 ?_; intros hA kc0 kc1 kc2 kc3 kc4 kc5 kc6 kc7 kc8 kc9 kc10 kc11 kc12 kc13 kc14 kc15 kc16 kc17 kc18 kc19 kc20 kc21 kc22 kc23 kc24 kc25 kc26 kc27 kc28 kc29 kc30 kc31 kc32 kc33 kc34 kc35 kc36 kc37 kc38 kc39 kz kt kn3 kn4 kn18 kn21 kn23 kn24 kn25 kn26 kn27 kn29 kn30 kr0_0 kr0_1 kr0_2 kr0_3 kr0_4 kr0_5 kr0_7 kr0_8 kr0_9 kr0_10 kr1_0 kr2_0 kr5_0 kr5_1 kr6_0 kr6_1 kr7_0 kr7_1 kr8_0 kr9_0 kr10_0 kr11_0 kr12_0 kr13_0 kr14_0 kr15_0 kr16_0 kr17_0 kr19_0 kr19_1 kr22_0 kr22_1 kr22_2 kr22_3 kr22_4 kr22_5 kr22_7 kr22_8 kr25_0 kr25_1 kr25_2 kr26_0 kr26_1 kr26_2 kr29_0 kr29_1)
  (refine Cn_el vcn0 ?_; intros ki5_2 ki6_2 ki7_2 ki8_1 ki8_2 ki8_3 ki9_1 ki9_2 ki9_3 ki10_1 ki10_2 ki10_3 ki11_1 ki11_2 ki11_3 ki12_1 ki12_2 ki12_3 ki13_1 ki13_2 ki13_3 ki14_1 ki14_2 ki14_3 ki28_0 ki28_1 ki31_0 ki31_1 ki32_0 ki32_1 ki33_0 ki33_1 ki34_0 ki34_1 ki35_0 ki35_1 ki36_0 ki36_1)
  have hAe : ∀ i j, i < 40 → j < 40 → (A i = A j ↔ i = j) := hA
  simp only [o79_0, o79_1, o79_2, o79_5, o79_6, o79_7, o79_9, o79_12, o79_13, o79_52, o79_53, o79_56, o79_59, o79_60, o79_61, o79_64, o79_67, o79_68, o79_69, o79_72, o79_75, o79_76, o79_77, o79_80, o79_83, o79_84, o79_85, o79_88, o79_91, o79_92, o79_93, o79_96, o79_99, o79_100, o79_101, o79_104, o79_107, c_queueOf_1, c_X5_checkChoice, mcs_0, Kn_v, Kn_0, Kn_x, mrf_some, true_and, and_true, not_false_eq_true, false_implies, forall_const, and_self, Nat.reduceLeDiff, Nat.reduceSub, Nat.zero_le, Nat.le_refl, Int32.reduceLT, Option.some.injEq, i30, kc0, kc6, kc10, kc11, kr0_3, kr6_0, kr6_1, ki10_1, ki10_2, lne, lti, Int.reduceLT, or_self, Int32.reduceLT]

theorem c_plX1_4 {A : Nat → Nat} {h : MH} {Q : MR → MH → Prop} (R : Rl A h) : Ok 79 0 [.ref (A 0), .int 1, .int 4, mk0] [] h 2 12 Q ↔ Q (.inl (some (.int (g_i h (A 11) 6)))) h := by
  have R0 := R
  obtain ⟨vk, vcn, v0, v1, v2, vp, vl0, vl1, vlr, vsr, vc, tx⟩ := R0
  have vk0 := vk
  have vcn0 := vcn
  (refine K_el vk0 ?_; intros hA kc0 kc1 kc2 kc3 kc4 kc5 kc6 kc7 kc8 kc9 kc10 kc11 kc12 kc13 kc14 kc15 kc16 kc17 kc18 kc19 kc20 kc21 kc22 kc23 kc24 kc25 kc26 kc27 kc28 kc29 kc30 kc31 kc32 kc33 kc34 kc35 kc36 kc37 kc38 kc39 kz kt kn3 kn4 kn18 kn21 kn23 kn24 kn25 kn26 kn27 kn29 kn30 kr0_0 kr0_1 kr0_2 kr0_3 kr0_4 kr0_5 kr0_7 kr0_8 kr0_9 kr0_10 kr1_0 kr2_0 kr5_0 kr5_1 kr6_0 kr6_1 kr7_0 kr7_1 kr8_0 kr9_0 kr10_0 kr11_0 kr12_0 kr13_0 kr14_0 kr15_0 kr16_0 kr17_0 kr19_0 kr19_1 kr22_0 kr22_1 kr22_2 kr22_3 kr22_4 kr22_5 kr22_7 kr22_8 kr25_0 kr25_1 kr25_2 kr26_0 kr26_1 kr26_2 kr29_0 kr29_1)
  (refine Cn_el vcn0 ?_; intros ki5_2 ki6_2 ki7_2 ki8_1 ki8_2 ki8_3 ki9_1 ki9_2 ki9_3 ki10_1 ki10_2 ki10_3 ki11_1 ki11_2 ki11_3 ki12_1 ki12_2 ki12_3 ki13_1 ki13_2 ki13_3 ki14_1 ki14_2 ki14_3 ki28_0 ki28_1 ki31_0 ki31_1 ki32_0 ki32_1 ki33_0 ki33_1 ki34_0 ki34_1 ki35_0 ki35_1 ki36_0 ki36_1)
  have hAe : ∀ i j, i < 40 → j < 40 → (A i = A j ↔ i = j) := hA
  simp only [o79_0, o79_1, o79_2, o79_5, o79_6, o79_7, o79_9, o79_12, o79_13, o79_52, o79_53, o79_56, o79_59, o79_60, o79_61, o79_64, o79_67, o79_68, o79_69, o79_72, o79_75, o79_76, o79_77, o79_80, o79_83, o79_84, o79_85, o79_88, o79_91, o79_92, o79_93, o79_96, o79_99, o79_100, o79_101, o79_104, o79_107, c_queueOf_1, c_X5_checkChoice, mcs_0, Kn_v, Kn_0, Kn_x, mrf_some, true_and, and_true, not_false_eq_true, false_implies, forall_const, Nat.reduceLeDiff, Nat.reduceSub, Nat.zero_le, Nat.le_refl, Int32.reduceLT, Option.some.injEq, kc0, kc6, kc10, kc11, kr0_3, kr6_0, kr6_1, ki10_1, ki10_2, lne, lti, Int.reduceLT, or_self, Int32.reduceLT]

theorem c_plX1_5 {A : Nat → Nat} {h : MH} {Q : MR → MH → Prop} (R : Rl A h) : Ok 79 0 [.ref (A 0), .int 1, .int 5, mk0] [] h 2 12 Q ↔ Q (.inl (some (.int (3)))) h := by
  have R0 := R
  obtain ⟨vk, vcn, v0, v1, v2, vp, vl0, vl1, vlr, vsr, vc, tx⟩ := R0
  have vk0 := vk
  have vcn0 := vcn
  (refine K_el vk0 ?_; intros hA kc0 kc1 kc2 kc3 kc4 kc5 kc6 kc7 kc8 kc9 kc10 kc11 kc12 kc13 kc14 kc15 kc16 kc17 kc18 kc19 kc20 kc21 kc22 kc23 kc24 kc25 kc26 kc27 kc28 kc29 kc30 kc31 kc32 kc33 kc34 kc35 kc36 kc37 kc38 kc39 kz kt kn3 kn4 kn18 kn21 kn23 kn24 kn25 kn26 kn27 kn29 kn30 kr0_0 kr0_1 kr0_2 kr0_3 kr0_4 kr0_5 kr0_7 kr0_8 kr0_9 kr0_10 kr1_0 kr2_0 kr5_0 kr5_1 kr6_0 kr6_1 kr7_0 kr7_1 kr8_0 kr9_0 kr10_0 kr11_0 kr12_0 kr13_0 kr14_0 kr15_0 kr16_0 kr17_0 kr19_0 kr19_1 kr22_0 kr22_1 kr22_2 kr22_3 kr22_4 kr22_5 kr22_7 kr22_8 kr25_0 kr25_1 kr25_2 kr26_0 kr26_1 kr26_2 kr29_0 kr29_1)
  (refine Cn_el vcn0 ?_; intros ki5_2 ki6_2 ki7_2 ki8_1 ki8_2 ki8_3 ki9_1 ki9_2 ki9_3 ki10_1 ki10_2 ki10_3 ki11_1 ki11_2 ki11_3 ki12_1 ki12_2 ki12_3 ki13_1 ki13_2 ki13_3 ki14_1 ki14_2 ki14_3 ki28_0 ki28_1 ki31_0 ki31_1 ki32_0 ki32_1 ki33_0 ki33_1 ki34_0 ki34_1 ki35_0 ki35_1 ki36_0 ki36_1)
  have hAe : ∀ i j, i < 40 → j < 40 → (A i = A j ↔ i = j) := hA
  simp only [o79_0, o79_1, o79_2, o79_5, o79_6, o79_7, o79_9, o79_12, o79_13, o79_52, o79_53, o79_56, o79_59, o79_60, o79_61, o79_64, o79_67, o79_68, o79_69, o79_72, o79_75, o79_76, o79_77, o79_80, o79_83, o79_84, o79_85, o79_88, o79_91, o79_92, o79_93, o79_96, o79_99, o79_100, o79_101, o79_104, o79_107, c_queueOf_1, c_X5_checkChoice, mcs_0, Kn_v, Kn_0, Kn_x, mrf_some, true_and, not_false_eq_true, false_implies, forall_const, Nat.reduceLeDiff, Nat.reduceSub, Nat.zero_le, Nat.le_refl, Int32.reduceLT, Option.some.injEq, kc0, kc6, kc10, kc11, kr0_3, kr6_0, kr6_1, ki10_1, ki10_2, lne, lti, Int.reduceLT, or_self, Int32.reduceLT]

theorem c_plX1_6 {A : Nat → Nat} {h : MH} {Q : MR → MH → Prop} (R : Rl A h) : Ok 79 0 [.ref (A 0), .int 1, .int 6, mk0] [] h 2 12 Q ↔ Q (.inl (some (.int (6)))) h := by
  have R0 := R
  obtain ⟨vk, vcn, v0, v1, v2, vp, vl0, vl1, vlr, vsr, vc, tx⟩ := R0
  have vk0 := vk
  have vcn0 := vcn
  (refine K_el vk0 ?_; intros hA kc0 kc1 kc2 kc3 kc4 kc5 kc6 kc7 kc8 kc9 kc10 kc11 kc12 kc13 kc14 kc15 kc16 kc17 kc18 kc19 kc20 kc21 kc22 kc23 kc24 kc25 kc26 kc27 kc28 kc29 kc30 kc31 kc32 kc33 kc34 kc35 kc36 kc37 kc38 kc39 kz kt kn3 kn4 kn18 kn21 kn23 kn24 kn25 kn26 kn27 kn29 kn30 kr0_0 kr0_1 kr0_2 kr0_3 kr0_4 kr0_5 kr0_7 kr0_8 kr0_9 kr0_10 kr1_0 kr2_0 kr5_0 kr5_1 kr6_0 kr6_1 kr7_0 kr7_1 kr8_0 kr9_0 kr10_0 kr11_0 kr12_0 kr13_0 kr14_0 kr15_0 kr16_0 kr17_0 kr19_0 kr19_1 kr22_0 kr22_1 kr22_2 kr22_3 kr22_4 kr22_5 kr22_7 kr22_8 kr25_0 kr25_1 kr25_2 kr26_0 kr26_1 kr26_2 kr29_0 kr29_1)
  (refine Cn_el vcn0 ?_; intros ki5_2 ki6_2 ki7_2 ki8_1 ki8_2 ki8_3 ki9_1 ki9_2 ki9_3 ki10_1 ki10_2 ki10_3 ki11_1 ki11_2 ki11_3 ki12_1 ki12_2 ki12_3 ki13_1 ki13_2 ki13_3 ki14_1 ki14_2 ki14_3 ki28_0 ki28_1 ki31_0 ki31_1 ki32_0 ki32_1 ki33_0 ki33_1 ki34_0 ki34_1 ki35_0 ki35_1 ki36_0 ki36_1)
  have hAe : ∀ i j, i < 40 → j < 40 → (A i = A j ↔ i = j) := hA
  simp only [o79_0, o79_1, o79_2, o79_5, o79_6, o79_7, o79_9, o79_12, o79_13, o79_52, o79_53, o79_56, o79_59, o79_60, o79_61, o79_64, o79_67, o79_68, o79_69, o79_72, o79_75, o79_76, o79_77, o79_80, o79_83, o79_84, o79_85, o79_88, o79_91, o79_92, o79_93, o79_96, o79_99, o79_100, o79_101, o79_104, o79_107, c_queueOf_1, c_X5_checkChoice, mcs_0, Kn_v, Kn_0, Kn_x, mrf_some, true_and, and_true, or_true, not_false_eq_true, false_implies, forall_const, and_self, Nat.reduceLeDiff, Nat.reduceSub, Nat.zero_le, Nat.le_refl, Int32.reduceLT, Option.some.injEq, kc0, kc6, kc10, kc11, kr0_3, kr6_0, kr6_1, ki10_1, ki10_2, lne, lti, Int.reduceLT, or_self, Int32.reduceLT]

def dP1 (A : Nat → Nat) (h : MH) (d : Int64) : Int64 := dg1 (dg1 (dg1 (dg1 (dg1 (dg1 (dg1 (dg1 (dg1 d (lyF (cT h (A 6) (A 10) (A 11)))) (frF 1 (cT h (A 6) (A 10) (A 11)))) (g_i h (A 10) 4)) (g_i h (A 10) 5)) (g_i h (A 11) 4)) (g_i h (A 11) 5)) (g_i h (A 11) 6)) (3)) (6)
def dQ1 (A : Nat → Nat) (h : MH) (d : Int64) : Int64 := dg1 (dP1 A h d) (Int32.ofNat (tq (qv1 A h) (lyF (cT h (A 6) (A 10) (A 11))).toNatClampNeg))
theorem c_wQ1 {A : Nat → Nat} {h : MH} {d : Int64} {Q : MR → MH → Prop} (R : Rl A h) (hQ : ∀ m, Sm A h m → Rl A m → Q (.inl (some (.long (dQ1 A h d)))) m) : Ok 145 0 [.ref (A 0), .long d, mk0, .int 1, mk0, mk0, mk0] [] h 144 19152 Q := by
  have R0 := R
  obtain ⟨vk, vcn, v0, v1, v2, vp, vl0, vl1, vlr, vsr, vc, tx⟩ := R0
  have vk0 := vk
  have vcn0 := vcn
  (refine K_el vk0 ?_; intros hA kc0 kc1 kc2 kc3 kc4 kc5 kc6 kc7 kc8 kc9 kc10 kc11 kc12 kc13 kc14 kc15 kc16 kc17 kc18 kc19 kc20 kc21 kc22 kc23 kc24 kc25 kc26 kc27 kc28 kc29 kc30 kc31 kc32 kc33 kc34 kc35 kc36 kc37 kc38 kc39 kz kt kn3 kn4 kn18 kn21 kn23 kn24 kn25 kn26 kn27 kn29 kn30 kr0_0 kr0_1 kr0_2 kr0_3 kr0_4 kr0_5 kr0_7 kr0_8 kr0_9 kr0_10 kr1_0 kr2_0 kr5_0 kr5_1 kr6_0 kr6_1 kr7_0 kr7_1 kr8_0 kr9_0 kr10_0 kr11_0 kr12_0 kr13_0 kr14_0 kr15_0 kr16_0 kr17_0 kr19_0 kr19_1 kr22_0 kr22_1 kr22_2 kr22_3 kr22_4 kr22_5 kr22_7 kr22_8 kr25_0 kr25_1 kr25_2 kr26_0 kr26_1 kr26_2 kr29_0 kr29_1)
  (refine Cn_el vcn0 ?_; intros ki5_2 ki6_2 ki7_2 ki8_1 ki8_2 ki8_3 ki9_1 ki9_2 ki9_3 ki10_1 ki10_2 ki10_3 ki11_1 ki11_2 ki11_3 ki12_1 ki12_2 ki12_3 ki13_1 ki13_2 ki13_3 ki14_1 ki14_2 ki14_3 ki28_0 ki28_1 ki31_0 ki31_1 ki32_0 ki32_1 ki33_0 ki33_1 ki34_0 ki34_1 ki35_0 ki35_1 ki36_0 ki36_1)
  have hAe : ∀ i j, i < 40 → j < 40 → (A i = A j ↔ i = j) := hA
  have a0 : ∀ j : Nat, j < 7 → ((6 : Int32) < Int32.ofNat j) = False := by decide
  have b6 : (6 : Int32) = 6 := by decide
  simp only [o145_0, o145_1, o145_2, o145_3, o145_6, o145_7, o145_10, o145_11, o145_12, o145_15, o145_16, o145_19, o145_21, o145_22, o145_24, o145_26, o145_28, o145_31, o145_33, o145_34, o145_35, o145_37, o145_40, o145_41, o145_44, o145_46, o145_49, o145_52, o145_53, o145_54, o145_55, o145_58, c_liesX1 R, c_roomX1 R, c_plX1_0 R, c_plX1_1 R, c_plX1_2 R, c_plX1_3 R, c_plX1_4 R, c_plX1_5 R, c_plX1_6 R, o143_0, o143_1, o143_4, o143_5, o143_6, o143_7, c_queueOf_1, mcs_0, mcs_l, mcs_r, Kn_v, true_and, and_true, not_true_eq_false, not_false_eq_true, false_implies, forall_const, Nat.reduceLeDiff, Nat.reduceSub, Nat.reduceAdd, Nat.zero_le, Nat.le_refl, Int32.reduceLT, Int32.reduceAdd, Option.some.injEq, kc0, kr0_3, Int32.reduceLT]
  refine c_gQ1 R (fun m f b => ?_)
  have Rm := Rl_Fx R f b
  have R0 := Rm
  obtain ⟨vk, vcn, v0, v1, v2, vp, vl0, vl1, vlr, vsr, vc, tx⟩ := R0
  have vk0 := vk
  have vcn0 := vcn
  (refine K_el vk0 ?_; intros hA kc0 kc1 kc2 kc3 kc4 kc5 kc6 kc7 kc8 kc9 kc10 kc11 kc12 kc13 kc14 kc15 kc16 kc17 kc18 kc19 kc20 kc21 kc22 kc23 kc24 kc25 kc26 kc27 kc28 kc29 kc30 kc31 kc32 kc33 kc34 kc35 kc36 kc37 kc38 kc39 kz kt kn3 kn4 kn18 kn21 kn23 kn24 kn25 kn26 kn27 kn29 kn30 kr0_0 kr0_1 kr0_2 kr0_3 kr0_4 kr0_5 kr0_7 kr0_8 kr0_9 kr0_10 kr1_0 kr2_0 kr5_0 kr5_1 kr6_0 kr6_1 kr7_0 kr7_1 kr8_0 kr9_0 kr10_0 kr11_0 kr12_0 kr13_0 kr14_0 kr15_0 kr16_0 kr17_0 kr19_0 kr19_1 kr22_0 kr22_1 kr22_2 kr22_3 kr22_4 kr22_5 kr22_7 kr22_8 kr25_0 kr25_1 kr25_2 kr26_0 kr26_1 kr26_2 kr29_0 kr29_1)
  (refine Cn_el vcn0 ?_; intros ki5_2 ki6_2 ki7_2 ki8_1 ki8_2 ki8_3 ki9_1 ki9_2 ki9_3 ki10_1 ki10_2 ki10_3 ki11_1 ki11_2 ki11_3 ki12_1 ki12_2 ki12_3 ki13_1 ki13_2 ki13_3 ki14_1 ki14_2 ki14_3 ki28_0 ki28_1 ki31_0 ki31_1 ki32_0 ki32_1 ki33_0 ki33_1 ki34_0 ki34_1 ki35_0 ki35_1 ki36_0 ki36_1)
  have hAe : ∀ i j, i < 40 → j < 40 → (A i = A j ↔ i = j) := hA
  simp only [o145_61, o145_63, o145_64, o145_67, o145_70, o145_71, o145_74, c_wlen (Wo_of Rm) b, o143_0, o143_1, o143_4, o143_5, o143_6, o143_7, mcs_0, mcs_l, Kn_v, Kn_0, mrf_some, true_and, Nat.reduceLeDiff, Nat.reduceAdd, Nat.zero_le, kc0, kc19, kr0_10]
  exact hQ m (Sm_Fx R f) Rm

theorem c_liesX2 {A : Nat → Nat} {h : MH} {Q : MR → MH → Prop} (R : Rl A h) : Ok 75 0 [.ref (A 0), .int 2] [] h 1 6 Q ↔ Q (.inl (some (.int (lyF (cT h (A 7) (A 12) (A 13)))))) h := by
  have R0 := R
  obtain ⟨vk, vcn, v0, v1, v2, vp, vl0, vl1, vlr, vsr, vc, tx⟩ := R0
  have vk0 := vk
  have vcn0 := vcn
  (refine K_el vk0 ?_; intros hA kc0 kc1 kc2 kc3 kc4 kc5 kc6 kc7 kc8 kc9 kc10 kc11 kc12 kc13 kc14 kc15 kc16 kc17 kc18 kc19 kc20 kc21 kc22 kc23 kc24 kc25 kc26 kc27 kc28 kc29 kc30 kc31 kc32 kc33 kc34 kc35 kc36 kc37 kc38 kc39 kz kt kn3 kn4 kn18 kn21 kn23 kn24 kn25 kn26 kn27 kn29 kn30 kr0_0 kr0_1 kr0_2 kr0_3 kr0_4 kr0_5 kr0_7 kr0_8 kr0_9 kr0_10 kr1_0 kr2_0 kr5_0 kr5_1 kr6_0 kr6_1 kr7_0 kr7_1 kr8_0 kr9_0 kr10_0 kr11_0 kr12_0 kr13_0 kr14_0 kr15_0 kr16_0 kr17_0 kr19_0 kr19_1 kr22_0 kr22_1 kr22_2 kr22_3 kr22_4 kr22_5 kr22_7 kr22_8 kr25_0 kr25_1 kr25_2 kr26_0 kr26_1 kr26_2 kr29_0 kr29_1)
  (refine Cn_el vcn0 ?_; intros ki5_2 ki6_2 ki7_2 ki8_1 ki8_2 ki8_3 ki9_1 ki9_2 ki9_3 ki10_1 ki10_2 ki10_3 ki11_1 ki11_2 ki11_3 ki12_1 ki12_2 ki12_3 ki13_1 ki13_2 ki13_3 ki14_1 ki14_2 ki14_3 ki28_0 ki28_1 ki31_0 ki31_1 ki32_0 ki32_1 ki33_0 ki33_1 ki34_0 ki34_1 ki35_0 ki35_1 ki36_0 ki36_1)
  have hAe : ∀ i j, i < 40 → j < 40 → (A i = A j ↔ i = j) := hA
  simp only [o75_0, o75_1, o75_2, o75_5, o75_8, c_queueOf_2, c_X1_lying (w := A 12) (r := A 13), mcs_0, Kn_v, true_and, Nat.reduceSub, Nat.zero_le, Nat.le_refl, Option.some.injEq, kc0, kc7, kc12, kc13, kr0_4, kr7_0, kr7_1]

theorem c_roomX2 {A : Nat → Nat} {h : MH} {Q : MR → MH → Prop} (R : Rl A h) : Ok 76 0 [.ref (A 0), .int 2] [] h 1 6 Q ↔ Q (.inl (some (.int (frF 0 (cT h (A 7) (A 12) (A 13)))))) h := by
  have R0 := R
  obtain ⟨vk, vcn, v0, v1, v2, vp, vl0, vl1, vlr, vsr, vc, tx⟩ := R0
  have vk0 := vk
  have vcn0 := vcn
  (refine K_el vk0 ?_; intros hA kc0 kc1 kc2 kc3 kc4 kc5 kc6 kc7 kc8 kc9 kc10 kc11 kc12 kc13 kc14 kc15 kc16 kc17 kc18 kc19 kc20 kc21 kc22 kc23 kc24 kc25 kc26 kc27 kc28 kc29 kc30 kc31 kc32 kc33 kc34 kc35 kc36 kc37 kc38 kc39 kz kt kn3 kn4 kn18 kn21 kn23 kn24 kn25 kn26 kn27 kn29 kn30 kr0_0 kr0_1 kr0_2 kr0_3 kr0_4 kr0_5 kr0_7 kr0_8 kr0_9 kr0_10 kr1_0 kr2_0 kr5_0 kr5_1 kr6_0 kr6_1 kr7_0 kr7_1 kr8_0 kr9_0 kr10_0 kr11_0 kr12_0 kr13_0 kr14_0 kr15_0 kr16_0 kr17_0 kr19_0 kr19_1 kr22_0 kr22_1 kr22_2 kr22_3 kr22_4 kr22_5 kr22_7 kr22_8 kr25_0 kr25_1 kr25_2 kr26_0 kr26_1 kr26_2 kr29_0 kr29_1)
  (refine Cn_el vcn0 ?_; intros ki5_2 ki6_2 ki7_2 ki8_1 ki8_2 ki8_3 ki9_1 ki9_2 ki9_3 ki10_1 ki10_2 ki10_3 ki11_1 ki11_2 ki11_3 ki12_1 ki12_2 ki12_3 ki13_1 ki13_2 ki13_3 ki14_1 ki14_2 ki14_3 ki28_0 ki28_1 ki31_0 ki31_1 ki32_0 ki32_1 ki33_0 ki33_1 ki34_0 ki34_1 ki35_0 ki35_1 ki36_0 ki36_1)
  have hAe : ∀ i j, i < 40 → j < 40 → (A i = A j ↔ i = j) := hA
  simp only [o76_0, o76_1, o76_2, o76_5, o76_8, c_queueOf_2, c_X1_freeCells (w := A 12) (r := A 13), mcs_0, Kn_v, true_and, Nat.reduceSub, Nat.zero_le, Nat.le_refl, Option.some.injEq, kc0, kc7, kc12, kc13, kr0_4, kr7_0, kr7_1, ki7_2]

theorem c_plX2_0 {A : Nat → Nat} {h : MH} {Q : MR → MH → Prop} (R : Rl A h) : Ok 79 0 [.ref (A 0), .int 2, .int 0, mk0] [] h 2 12 Q ↔ Q (.inl (some (.int (g_i h (A 12) 4)))) h := by
  have R0 := R
  obtain ⟨vk, vcn, v0, v1, v2, vp, vl0, vl1, vlr, vsr, vc, tx⟩ := R0
  have vk0 := vk
  have vcn0 := vcn
  (refine K_el vk0 ?_; intros hA kc0 kc1 kc2 kc3 kc4 kc5 kc6 kc7 kc8 kc9 kc10 kc11 kc12 kc13 kc14 kc15 kc16 kc17 kc18 kc19 kc20 kc21 kc22 kc23 kc24 kc25 kc26 kc27 kc28 kc29 kc30 kc31 kc32 kc33 kc34 kc35 kc36 kc37 kc38 kc39 kz kt kn3 kn4 kn18 kn21 kn23 kn24 kn25 kn26 kn27 kn29 kn30 kr0_0 kr0_1 kr0_2 kr0_3 kr0_4 kr0_5 kr0_7 kr0_8 kr0_9 kr0_10 kr1_0 kr2_0 kr5_0 kr5_1 kr6_0 kr6_1 kr7_0 kr7_1 kr8_0 kr9_0 kr10_0 kr11_0 kr12_0 kr13_0 kr14_0 kr15_0 kr16_0 kr17_0 kr19_0 kr19_1 kr22_0 kr22_1 kr22_2 kr22_3 kr22_4 kr22_5 kr22_7 kr22_8 kr25_0 kr25_1 kr25_2 kr26_0 kr26_1 kr26_2 kr29_0 kr29_1)
  (refine Cn_el vcn0 ?_; intros ki5_2 ki6_2 ki7_2 ki8_1 ki8_2 ki8_3 ki9_1 ki9_2 ki9_3 ki10_1 ki10_2 ki10_3 ki11_1 ki11_2 ki11_3 ki12_1 ki12_2 ki12_3 ki13_1 ki13_2 ki13_3 ki14_1 ki14_2 ki14_3 ki28_0 ki28_1 ki31_0 ki31_1 ki32_0 ki32_1 ki33_0 ki33_1 ki34_0 ki34_1 ki35_0 ki35_1 ki36_0 ki36_1)
  have hAe : ∀ i j, i < 40 → j < 40 → (A i = A j ↔ i = j) := hA
  simp only [o79_0, o79_1, o79_2, o79_5, o79_6, o79_7, o79_9, o79_12, o79_13, o79_52, o79_53, o79_56, o79_59, o79_60, o79_61, o79_64, o79_67, o79_68, o79_69, o79_72, o79_75, o79_76, o79_77, o79_80, o79_83, o79_84, o79_85, o79_88, o79_91, o79_92, o79_93, o79_96, o79_99, o79_100, o79_101, o79_104, o79_107, c_queueOf_2, c_X5_checkChoice, mcs_0, Kn_v, Kn_0, Kn_x, mrf_some, true_and, and_true, not_false_eq_true, false_implies, forall_const, and_self, Nat.reduceLeDiff, Nat.reduceSub, Nat.zero_le, Nat.le_refl, i01, Int32.reduceLT, Option.some.injEq, kc0, kc7, kc12, kc13, kr0_4, kr7_0, kr7_1, ki12_1, ki12_2, lne, lti, Int.reduceLT, or_self, Int32.reduceLT]

theorem c_plX2_1 {A : Nat → Nat} {h : MH} {Q : MR → MH → Prop} (R : Rl A h) : Ok 79 0 [.ref (A 0), .int 2, .int 1, mk0] [] h 2 12 Q ↔ Q (.inl (some (.int (g_i h (A 12) 5)))) h := by
  have R0 := R
  obtain ⟨vk, vcn, v0, v1, v2, vp, vl0, vl1, vlr, vsr, vc, tx⟩ := R0
  have vk0 := vk
  have vcn0 := vcn
  (refine K_el vk0 ?_; intros hA kc0 kc1 kc2 kc3 kc4 kc5 kc6 kc7 kc8 kc9 kc10 kc11 kc12 kc13 kc14 kc15 kc16 kc17 kc18 kc19 kc20 kc21 kc22 kc23 kc24 kc25 kc26 kc27 kc28 kc29 kc30 kc31 kc32 kc33 kc34 kc35 kc36 kc37 kc38 kc39 kz kt kn3 kn4 kn18 kn21 kn23 kn24 kn25 kn26 kn27 kn29 kn30 kr0_0 kr0_1 kr0_2 kr0_3 kr0_4 kr0_5 kr0_7 kr0_8 kr0_9 kr0_10 kr1_0 kr2_0 kr5_0 kr5_1 kr6_0 kr6_1 kr7_0 kr7_1 kr8_0 kr9_0 kr10_0 kr11_0 kr12_0 kr13_0 kr14_0 kr15_0 kr16_0 kr17_0 kr19_0 kr19_1 kr22_0 kr22_1 kr22_2 kr22_3 kr22_4 kr22_5 kr22_7 kr22_8 kr25_0 kr25_1 kr25_2 kr26_0 kr26_1 kr26_2 kr29_0 kr29_1)
  (refine Cn_el vcn0 ?_; intros ki5_2 ki6_2 ki7_2 ki8_1 ki8_2 ki8_3 ki9_1 ki9_2 ki9_3 ki10_1 ki10_2 ki10_3 ki11_1 ki11_2 ki11_3 ki12_1 ki12_2 ki12_3 ki13_1 ki13_2 ki13_3 ki14_1 ki14_2 ki14_3 ki28_0 ki28_1 ki31_0 ki31_1 ki32_0 ki32_1 ki33_0 ki33_1 ki34_0 ki34_1 ki35_0 ki35_1 ki36_0 ki36_1)
  have hAe : ∀ i j, i < 40 → j < 40 → (A i = A j ↔ i = j) := hA
  simp only [o79_0, o79_1, o79_2, o79_5, o79_6, o79_7, o79_9, o79_12, o79_13, o79_52, o79_53, o79_56, o79_59, o79_60, o79_61, o79_64, o79_67, o79_68, o79_69, o79_72, o79_75, o79_76, o79_77, o79_80, o79_83, o79_84, o79_85, o79_88, o79_91, o79_92, o79_93, o79_96, o79_99, o79_100, o79_101, o79_104, o79_107, c_queueOf_2, c_X5_checkChoice, mcs_0, Kn_v, Kn_0, Kn_x, mrf_some, true_and, and_true, not_false_eq_true, false_implies, forall_const, and_self, Nat.reduceLeDiff, Nat.reduceSub, Nat.zero_le, Nat.le_refl, i10, Int32.reduceLT, Option.some.injEq, kc0, kc7, kc12, kc13, kr0_4, kr7_0, kr7_1, ki12_1, ki12_2, lne, lti, Int.reduceLT, or_self, Int32.reduceLT]

theorem c_plX2_2 {A : Nat → Nat} {h : MH} {Q : MR → MH → Prop} (R : Rl A h) : Ok 79 0 [.ref (A 0), .int 2, .int 2, mk0] [] h 2 12 Q ↔ Q (.inl (some (.int (g_i h (A 13) 4)))) h := by
  have R0 := R
  obtain ⟨vk, vcn, v0, v1, v2, vp, vl0, vl1, vlr, vsr, vc, tx⟩ := R0
  have vk0 := vk
  have vcn0 := vcn
  (refine K_el vk0 ?_; intros hA kc0 kc1 kc2 kc3 kc4 kc5 kc6 kc7 kc8 kc9 kc10 kc11 kc12 kc13 kc14 kc15 kc16 kc17 kc18 kc19 kc20 kc21 kc22 kc23 kc24 kc25 kc26 kc27 kc28 kc29 kc30 kc31 kc32 kc33 kc34 kc35 kc36 kc37 kc38 kc39 kz kt kn3 kn4 kn18 kn21 kn23 kn24 kn25 kn26 kn27 kn29 kn30 kr0_0 kr0_1 kr0_2 kr0_3 kr0_4 kr0_5 kr0_7 kr0_8 kr0_9 kr0_10 kr1_0 kr2_0 kr5_0 kr5_1 kr6_0 kr6_1 kr7_0 kr7_1 kr8_0 kr9_0 kr10_0 kr11_0 kr12_0 kr13_0 kr14_0 kr15_0 kr16_0 kr17_0 kr19_0 kr19_1 kr22_0 kr22_1 kr22_2 kr22_3 kr22_4 kr22_5 kr22_7 kr22_8 kr25_0 kr25_1 kr25_2 kr26_0 kr26_1 kr26_2 kr29_0 kr29_1)
  (refine Cn_el vcn0 ?_; intros ki5_2 ki6_2 ki7_2 ki8_1 ki8_2 ki8_3 ki9_1 ki9_2 ki9_3 ki10_1 ki10_2 ki10_3 ki11_1 ki11_2 ki11_3 ki12_1 ki12_2 ki12_3 ki13_1 ki13_2 ki13_3 ki14_1 ki14_2 ki14_3 ki28_0 ki28_1 ki31_0 ki31_1 ki32_0 ki32_1 ki33_0 ki33_1 ki34_0 ki34_1 ki35_0 ki35_1 ki36_0 ki36_1)
  have hAe : ∀ i j, i < 40 → j < 40 → (A i = A j ↔ i = j) := hA
  simp only [o79_0, o79_1, o79_2, o79_5, o79_6, o79_7, o79_9, o79_12, o79_13, o79_52, o79_53, o79_56, o79_59, o79_60, o79_61, o79_64, o79_67, o79_68, o79_69, o79_72, o79_75, o79_76, o79_77, o79_80, o79_83, o79_84, o79_85, o79_88, o79_91, o79_92, o79_93, o79_96, o79_99, o79_100, o79_101, o79_104, o79_107, c_queueOf_2, c_X5_checkChoice, mcs_0, Kn_v, Kn_0, Kn_x, mrf_some, true_and, and_true, not_false_eq_true, false_implies, forall_const, and_self, Nat.reduceLeDiff, Nat.reduceSub, Nat.zero_le, Nat.le_refl, Int32.reduceLT, Option.some.injEq, i20, kc0, kc7, kc12, kc13, kr0_4, kr7_0, kr7_1, ki12_1, ki12_2, lne, lti, Int.reduceLT, or_self, Int32.reduceLT]

theorem c_plX2_3 {A : Nat → Nat} {h : MH} {Q : MR → MH → Prop} (R : Rl A h) : Ok 79 0 [.ref (A 0), .int 2, .int 3, mk0] [] h 2 12 Q ↔ Q (.inl (some (.int (g_i h (A 13) 5)))) h := by
  have R0 := R
  obtain ⟨vk, vcn, v0, v1, v2, vp, vl0, vl1, vlr, vsr, vc, tx⟩ := R0
  have vk0 := vk
  have vcn0 := vcn
  (refine K_el vk0 ?_; intros hA kc0 kc1 kc2 kc3 kc4 kc5 kc6 kc7 kc8 kc9 kc10 kc11 kc12 kc13 kc14 kc15 kc16 kc17 kc18 kc19 kc20 kc21 kc22 kc23 kc24 kc25 kc26 kc27 kc28 kc29 kc30 kc31 kc32 kc33 kc34 kc35 kc36 kc37 kc38 kc39 kz kt kn3 kn4 kn18 kn21 kn23 kn24 kn25 kn26 kn27 kn29 kn30 kr0_0 kr0_1 kr0_2 kr0_3 kr0_4 kr0_5 kr0_7 kr0_8 kr0_9 kr0_10 kr1_0 kr2_0 kr5_0 kr5_1 kr6_0 kr6_1 kr7_0 kr7_1 kr8_0 kr9_0 kr10_0 kr11_0 kr12_0 kr13_0 kr14_0 kr15_0 kr16_0 kr17_0 kr19_0 kr19_1 kr22_0 kr22_1 kr22_2 kr22_3 kr22_4 kr22_5 kr22_7 kr22_8 kr25_0 kr25_1 kr25_2 kr26_0 kr26_1 kr26_2 kr29_0 kr29_1)
  (refine Cn_el vcn0 ?_; intros ki5_2 ki6_2 ki7_2 ki8_1 ki8_2 ki8_3 ki9_1 ki9_2 ki9_3 ki10_1 ki10_2 ki10_3 ki11_1 ki11_2 ki11_3 ki12_1 ki12_2 ki12_3 ki13_1 ki13_2 ki13_3 ki14_1 ki14_2 ki14_3 ki28_0 ki28_1 ki31_0 ki31_1 ki32_0 ki32_1 ki33_0 ki33_1 ki34_0 ki34_1 ki35_0 ki35_1 ki36_0 ki36_1)
  have hAe : ∀ i j, i < 40 → j < 40 → (A i = A j ↔ i = j) := hA
  simp only [o79_0, o79_1, o79_2, o79_5, o79_6, o79_7, o79_9, o79_12, o79_13, o79_52, o79_53, o79_56, o79_59, o79_60, o79_61, o79_64, o79_67, o79_68, o79_69, o79_72, o79_75, o79_76, o79_77, o79_80, o79_83, o79_84, o79_85, o79_88, o79_91, o79_92, o79_93, o79_96, o79_99, o79_100, o79_101, o79_104, o79_107, c_queueOf_2, c_X5_checkChoice, mcs_0, Kn_v, Kn_0, Kn_x, mrf_some, true_and, and_true, not_false_eq_true, false_implies, forall_const, and_self, Nat.reduceLeDiff, Nat.reduceSub, Nat.zero_le, Nat.le_refl, Int32.reduceLT, Option.some.injEq, i30, kc0, kc7, kc12, kc13, kr0_4, kr7_0, kr7_1, ki12_1, ki12_2, lne, lti, Int.reduceLT, or_self, Int32.reduceLT]

theorem c_plX2_4 {A : Nat → Nat} {h : MH} {Q : MR → MH → Prop} (R : Rl A h) : Ok 79 0 [.ref (A 0), .int 2, .int 4, mk0] [] h 2 12 Q ↔ Q (.inl (some (.int (g_i h (A 13) 6)))) h := by
  have R0 := R
  obtain ⟨vk, vcn, v0, v1, v2, vp, vl0, vl1, vlr, vsr, vc, tx⟩ := R0
  have vk0 := vk
  have vcn0 := vcn
  (refine K_el vk0 ?_; intros hA kc0 kc1 kc2 kc3 kc4 kc5 kc6 kc7 kc8 kc9 kc10 kc11 kc12 kc13 kc14 kc15 kc16 kc17 kc18 kc19 kc20 kc21 kc22 kc23 kc24 kc25 kc26 kc27 kc28 kc29 kc30 kc31 kc32 kc33 kc34 kc35 kc36 kc37 kc38 kc39 kz kt kn3 kn4 kn18 kn21 kn23 kn24 kn25 kn26 kn27 kn29 kn30 kr0_0 kr0_1 kr0_2 kr0_3 kr0_4 kr0_5 kr0_7 kr0_8 kr0_9 kr0_10 kr1_0 kr2_0 kr5_0 kr5_1 kr6_0 kr6_1 kr7_0 kr7_1 kr8_0 kr9_0 kr10_0 kr11_0 kr12_0 kr13_0 kr14_0 kr15_0 kr16_0 kr17_0 kr19_0 kr19_1 kr22_0 kr22_1 kr22_2 kr22_3 kr22_4 kr22_5 kr22_7 kr22_8 kr25_0 kr25_1 kr25_2 kr26_0 kr26_1 kr26_2 kr29_0 kr29_1)
  (refine Cn_el vcn0 ?_; intros ki5_2 ki6_2 ki7_2 ki8_1 ki8_2 ki8_3 ki9_1 ki9_2 ki9_3 ki10_1 ki10_2 ki10_3 ki11_1 ki11_2 ki11_3 ki12_1 ki12_2 ki12_3 ki13_1 ki13_2 ki13_3 ki14_1 ki14_2 ki14_3 ki28_0 ki28_1 ki31_0 ki31_1 ki32_0 ki32_1 ki33_0 ki33_1 ki34_0 ki34_1 ki35_0 ki35_1 ki36_0 ki36_1)
  have hAe : ∀ i j, i < 40 → j < 40 → (A i = A j ↔ i = j) := hA
  simp only [o79_0, o79_1, o79_2, o79_5, o79_6, o79_7, o79_9, o79_12, o79_13, o79_52, o79_53, o79_56, o79_59, o79_60, o79_61, o79_64, o79_67, o79_68, o79_69, o79_72, o79_75, o79_76, o79_77, o79_80, o79_83, o79_84, o79_85, o79_88, o79_91, o79_92, o79_93, o79_96, o79_99, o79_100, o79_101, o79_104, o79_107, c_queueOf_2, c_X5_checkChoice, mcs_0, Kn_v, Kn_0, Kn_x, mrf_some, true_and, and_true, not_false_eq_true, false_implies, forall_const, Nat.reduceLeDiff, Nat.reduceSub, Nat.zero_le, Nat.le_refl, Int32.reduceLT, Option.some.injEq, kc0, kc7, kc12, kc13, kr0_4, kr7_0, kr7_1, ki12_1, ki12_2, lne, lti, Int.reduceLT, or_self, Int32.reduceLT]

theorem c_plX2_5 {A : Nat → Nat} {h : MH} {Q : MR → MH → Prop} (R : Rl A h) : Ok 79 0 [.ref (A 0), .int 2, .int 5, mk0] [] h 2 12 Q ↔ Q (.inl (some (.int (6)))) h := by
  have R0 := R
  obtain ⟨vk, vcn, v0, v1, v2, vp, vl0, vl1, vlr, vsr, vc, tx⟩ := R0
  have vk0 := vk
  have vcn0 := vcn
  (refine K_el vk0 ?_; intros hA kc0 kc1 kc2 kc3 kc4 kc5 kc6 kc7 kc8 kc9 kc10 kc11 kc12 kc13 kc14 kc15 kc16 kc17 kc18 kc19 kc20 kc21 kc22 kc23 kc24 kc25 kc26 kc27 kc28 kc29 kc30 kc31 kc32 kc33 kc34 kc35 kc36 kc37 kc38 kc39 kz kt kn3 kn4 kn18 kn21 kn23 kn24 kn25 kn26 kn27 kn29 kn30 kr0_0 kr0_1 kr0_2 kr0_3 kr0_4 kr0_5 kr0_7 kr0_8 kr0_9 kr0_10 kr1_0 kr2_0 kr5_0 kr5_1 kr6_0 kr6_1 kr7_0 kr7_1 kr8_0 kr9_0 kr10_0 kr11_0 kr12_0 kr13_0 kr14_0 kr15_0 kr16_0 kr17_0 kr19_0 kr19_1 kr22_0 kr22_1 kr22_2 kr22_3 kr22_4 kr22_5 kr22_7 kr22_8 kr25_0 kr25_1 kr25_2 kr26_0 kr26_1 kr26_2 kr29_0 kr29_1)
  (refine Cn_el vcn0 ?_; intros ki5_2 ki6_2 ki7_2 ki8_1 ki8_2 ki8_3 ki9_1 ki9_2 ki9_3 ki10_1 ki10_2 ki10_3 ki11_1 ki11_2 ki11_3 ki12_1 ki12_2 ki12_3 ki13_1 ki13_2 ki13_3 ki14_1 ki14_2 ki14_3 ki28_0 ki28_1 ki31_0 ki31_1 ki32_0 ki32_1 ki33_0 ki33_1 ki34_0 ki34_1 ki35_0 ki35_1 ki36_0 ki36_1)
  have hAe : ∀ i j, i < 40 → j < 40 → (A i = A j ↔ i = j) := hA
  simp only [o79_0, o79_1, o79_2, o79_5, o79_6, o79_7, o79_9, o79_12, o79_13, o79_52, o79_53, o79_56, o79_59, o79_60, o79_61, o79_64, o79_67, o79_68, o79_69, o79_72, o79_75, o79_76, o79_77, o79_80, o79_83, o79_84, o79_85, o79_88, o79_91, o79_92, o79_93, o79_96, o79_99, o79_100, o79_101, o79_104, o79_107, c_queueOf_2, c_X5_checkChoice, mcs_0, Kn_v, Kn_0, Kn_x, mrf_some, true_and, not_false_eq_true, false_implies, forall_const, Nat.reduceLeDiff, Nat.reduceSub, Nat.zero_le, Nat.le_refl, Int32.reduceLT, Option.some.injEq, kc0, kc7, kc12, kc13, kr0_4, kr7_0, kr7_1, ki12_1, ki12_2, lne, lti, Int.reduceLT, or_self, Int32.reduceLT]

theorem c_plX2_6 {A : Nat → Nat} {h : MH} {Q : MR → MH → Prop} (R : Rl A h) : Ok 79 0 [.ref (A 0), .int 2, .int 6, mk0] [] h 2 12 Q ↔ Q (.inl (some (.int (9)))) h := by
  have R0 := R
  obtain ⟨vk, vcn, v0, v1, v2, vp, vl0, vl1, vlr, vsr, vc, tx⟩ := R0
  have vk0 := vk
  have vcn0 := vcn
  (refine K_el vk0 ?_; intros hA kc0 kc1 kc2 kc3 kc4 kc5 kc6 kc7 kc8 kc9 kc10 kc11 kc12 kc13 kc14 kc15 kc16 kc17 kc18 kc19 kc20 kc21 kc22 kc23 kc24 kc25 kc26 kc27 kc28 kc29 kc30 kc31 kc32 kc33 kc34 kc35 kc36 kc37 kc38 kc39 kz kt kn3 kn4 kn18 kn21 kn23 kn24 kn25 kn26 kn27 kn29 kn30 kr0_0 kr0_1 kr0_2 kr0_3 kr0_4 kr0_5 kr0_7 kr0_8 kr0_9 kr0_10 kr1_0 kr2_0 kr5_0 kr5_1 kr6_0 kr6_1 kr7_0 kr7_1 kr8_0 kr9_0 kr10_0 kr11_0 kr12_0 kr13_0 kr14_0 kr15_0 kr16_0 kr17_0 kr19_0 kr19_1 kr22_0 kr22_1 kr22_2 kr22_3 kr22_4 kr22_5 kr22_7 kr22_8 kr25_0 kr25_1 kr25_2 kr26_0 kr26_1 kr26_2 kr29_0 kr29_1)
  (refine Cn_el vcn0 ?_; intros ki5_2 ki6_2 ki7_2 ki8_1 ki8_2 ki8_3 ki9_1 ki9_2 ki9_3 ki10_1 ki10_2 ki10_3 ki11_1 ki11_2 ki11_3 ki12_1 ki12_2 ki12_3 ki13_1 ki13_2 ki13_3 ki14_1 ki14_2 ki14_3 ki28_0 ki28_1 ki31_0 ki31_1 ki32_0 ki32_1 ki33_0 ki33_1 ki34_0 ki34_1 ki35_0 ki35_1 ki36_0 ki36_1)
  have hAe : ∀ i j, i < 40 → j < 40 → (A i = A j ↔ i = j) := hA
  simp only [o79_0, o79_1, o79_2, o79_5, o79_6, o79_7, o79_9, o79_12, o79_13, o79_52, o79_53, o79_56, o79_59, o79_60, o79_61, o79_64, o79_67, o79_68, o79_69, o79_72, o79_75, o79_76, o79_77, o79_80, o79_83, o79_84, o79_85, o79_88, o79_91, o79_92, o79_93, o79_96, o79_99, o79_100, o79_101, o79_104, o79_107, c_queueOf_2, c_X5_checkChoice, mcs_0, Kn_v, Kn_0, Kn_x, mrf_some, true_and, and_true, or_true, not_false_eq_true, false_implies, forall_const, and_self, Nat.reduceLeDiff, Nat.reduceSub, Nat.zero_le, Nat.le_refl, Int32.reduceLT, Option.some.injEq, kc0, kc7, kc12, kc13, kr0_4, kr7_0, kr7_1, ki12_1, ki12_2, lne, lti, Int.reduceLT, or_self, Int32.reduceLT]

def dP2 (A : Nat → Nat) (h : MH) (d : Int64) : Int64 := dg1 (dg1 (dg1 (dg1 (dg1 (dg1 (dg1 (dg1 (dg1 d (lyF (cT h (A 7) (A 12) (A 13)))) (frF 0 (cT h (A 7) (A 12) (A 13)))) (g_i h (A 12) 4)) (g_i h (A 12) 5)) (g_i h (A 13) 4)) (g_i h (A 13) 5)) (g_i h (A 13) 6)) (6)) (9)
def dQ2 (A : Nat → Nat) (h : MH) (d : Int64) : Int64 := dg1 (dP2 A h d) (Int32.ofNat (tq (qv2 A h) (lyF (cT h (A 7) (A 12) (A 13))).toNatClampNeg))
theorem c_wQ2 {A : Nat → Nat} {h : MH} {d : Int64} {Q : MR → MH → Prop} (R : Rl A h) (hQ : ∀ m, Sm A h m → Rl A m → Q (.inl (some (.long (dQ2 A h d)))) m) : Ok 145 0 [.ref (A 0), .long d, mk0, .int 2, mk0, mk0, mk0] [] h 144 19152 Q := by
  have R0 := R
  obtain ⟨vk, vcn, v0, v1, v2, vp, vl0, vl1, vlr, vsr, vc, tx⟩ := R0
  have vk0 := vk
  have vcn0 := vcn
  (refine K_el vk0 ?_; intros hA kc0 kc1 kc2 kc3 kc4 kc5 kc6 kc7 kc8 kc9 kc10 kc11 kc12 kc13 kc14 kc15 kc16 kc17 kc18 kc19 kc20 kc21 kc22 kc23 kc24 kc25 kc26 kc27 kc28 kc29 kc30 kc31 kc32 kc33 kc34 kc35 kc36 kc37 kc38 kc39 kz kt kn3 kn4 kn18 kn21 kn23 kn24 kn25 kn26 kn27 kn29 kn30 kr0_0 kr0_1 kr0_2 kr0_3 kr0_4 kr0_5 kr0_7 kr0_8 kr0_9 kr0_10 kr1_0 kr2_0 kr5_0 kr5_1 kr6_0 kr6_1 kr7_0 kr7_1 kr8_0 kr9_0 kr10_0 kr11_0 kr12_0 kr13_0 kr14_0 kr15_0 kr16_0 kr17_0 kr19_0 kr19_1 kr22_0 kr22_1 kr22_2 kr22_3 kr22_4 kr22_5 kr22_7 kr22_8 kr25_0 kr25_1 kr25_2 kr26_0 kr26_1 kr26_2 kr29_0 kr29_1)
  (refine Cn_el vcn0 ?_; intros ki5_2 ki6_2 ki7_2 ki8_1 ki8_2 ki8_3 ki9_1 ki9_2 ki9_3 ki10_1 ki10_2 ki10_3 ki11_1 ki11_2 ki11_3 ki12_1 ki12_2 ki12_3 ki13_1 ki13_2 ki13_3 ki14_1 ki14_2 ki14_3 ki28_0 ki28_1 ki31_0 ki31_1 ki32_0 ki32_1 ki33_0 ki33_1 ki34_0 ki34_1 ki35_0 ki35_1 ki36_0 ki36_1)
  have hAe : ∀ i j, i < 40 → j < 40 → (A i = A j ↔ i = j) := hA
  have a0 : ∀ j : Nat, j < 7 → ((6 : Int32) < Int32.ofNat j) = False := by decide
  have b6 : (6 : Int32) = 6 := by decide
  simp only [o145_0, o145_1, o145_2, o145_3, o145_6, o145_7, o145_10, o145_11, o145_12, o145_15, o145_16, o145_19, o145_21, o145_22, o145_24, o145_26, o145_28, o145_31, o145_33, o145_34, o145_35, o145_37, o145_40, o145_41, o145_44, o145_46, o145_49, o145_52, o145_53, o145_54, o145_55, o145_58, c_liesX2 R, c_roomX2 R, c_plX2_0 R, c_plX2_1 R, c_plX2_2 R, c_plX2_3 R, c_plX2_4 R, c_plX2_5 R, c_plX2_6 R, o143_0, o143_1, o143_4, o143_5, o143_6, o143_7, c_queueOf_2, mcs_0, mcs_l, mcs_r, Kn_v, true_and, and_true, not_true_eq_false, not_false_eq_true, false_implies, forall_const, Nat.reduceLeDiff, Nat.reduceSub, Nat.reduceAdd, Nat.zero_le, Nat.le_refl, Int32.reduceLT, Int32.reduceAdd, Option.some.injEq, kc0, kr0_4, Int32.reduceLT]
  refine c_gQ2 R (fun m f b => ?_)
  have Rm := Rl_Fx R f b
  have R0 := Rm
  obtain ⟨vk, vcn, v0, v1, v2, vp, vl0, vl1, vlr, vsr, vc, tx⟩ := R0
  have vk0 := vk
  have vcn0 := vcn
  (refine K_el vk0 ?_; intros hA kc0 kc1 kc2 kc3 kc4 kc5 kc6 kc7 kc8 kc9 kc10 kc11 kc12 kc13 kc14 kc15 kc16 kc17 kc18 kc19 kc20 kc21 kc22 kc23 kc24 kc25 kc26 kc27 kc28 kc29 kc30 kc31 kc32 kc33 kc34 kc35 kc36 kc37 kc38 kc39 kz kt kn3 kn4 kn18 kn21 kn23 kn24 kn25 kn26 kn27 kn29 kn30 kr0_0 kr0_1 kr0_2 kr0_3 kr0_4 kr0_5 kr0_7 kr0_8 kr0_9 kr0_10 kr1_0 kr2_0 kr5_0 kr5_1 kr6_0 kr6_1 kr7_0 kr7_1 kr8_0 kr9_0 kr10_0 kr11_0 kr12_0 kr13_0 kr14_0 kr15_0 kr16_0 kr17_0 kr19_0 kr19_1 kr22_0 kr22_1 kr22_2 kr22_3 kr22_4 kr22_5 kr22_7 kr22_8 kr25_0 kr25_1 kr25_2 kr26_0 kr26_1 kr26_2 kr29_0 kr29_1)
  (refine Cn_el vcn0 ?_; intros ki5_2 ki6_2 ki7_2 ki8_1 ki8_2 ki8_3 ki9_1 ki9_2 ki9_3 ki10_1 ki10_2 ki10_3 ki11_1 ki11_2 ki11_3 ki12_1 ki12_2 ki12_3 ki13_1 ki13_2 ki13_3 ki14_1 ki14_2 ki14_3 ki28_0 ki28_1 ki31_0 ki31_1 ki32_0 ki32_1 ki33_0 ki33_1 ki34_0 ki34_1 ki35_0 ki35_1 ki36_0 ki36_1)
  have hAe : ∀ i j, i < 40 → j < 40 → (A i = A j ↔ i = j) := hA
  simp only [o145_61, o145_63, o145_64, o145_67, o145_70, o145_71, o145_74, c_wlen (Wo_of Rm) b, o143_0, o143_1, o143_4, o143_5, o143_6, o143_7, mcs_0, mcs_l, Kn_v, Kn_0, mrf_some, true_and, Nat.reduceLeDiff, Nat.reduceAdd, Nat.zero_le, kc0, kc19, kr0_10]
  exact hQ m (Sm_Fx R f) Rm


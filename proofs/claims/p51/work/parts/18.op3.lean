/-! THE OPS of the queues -/
theorem q_cases {q : Int32} (h1 : ¬ q < 0) (h2 : q < 3) : q = 0 ∨ q = 1 ∨ q = 2 := by
  have h3 : q < 4 := by
    rw [Int32.lt_iff_toInt_lt] at h2 ⊢
    have e1 : (4 : Int32).toInt = 4 := rfl
    have e2 : (3 : Int32).toInt = 3 := rfl
    omega
  rcases f_cases h1 h3 with rfl | rfl | rfl | rfl
  · exact Or.inl rfl
  · exact Or.inr (Or.inl rfl)
  · exact Or.inr (Or.inr rfl)
  · exact absurd h2 (by decide)
theorem vq3 : vp_in 0 3 = True ∧ vp_in 1 3 = True ∧ vp_in 2 3 = True := by unfold vp_in; decide
theorem x_mem {x : Int32} (h1 : ¬ x < 0) (h2 : ¬ 9 < x) : x ∈ (List.range 10).map Int32.ofNat := by
  rw [Int32.lt_iff_toInt_lt] at h1 h2
  have e1 : (0 : Int32).toInt = 0 := rfl
  have e2 : (9 : Int32).toInt = 9 := rfl
  refine List.mem_map.mpr ⟨x.toInt.toNat, List.mem_range.mpr (by omega), ?_⟩
  apply Int32.toInt_inj.mp
  rw [Int32.toInt_ofNat_of_lt (by omega)]
  omega
theorem icw0 {A : Nat → Nat} {h : MH} {t : QT} (hA : inj40 A) {j k : Nat} (hj : [0, 1, 2, 3, 4, 6, 7, 10, 11, 12, 13, 14, 15, 16, 17, 18, 19, 20, 21, 22, 23, 24, 25, 26, 27, 28, 29, 30, 31, 32, 33, 34, 35, 36, 37, 38, 39].contains j = true) : g_i (cW h (A 5) (A 8) (A 9) t) (A j) k = g_i h (A j) k := by
  have hj40 : j < 40 := by
    simp only [List.contains_eq_mem, decide_eq_true_eq] at hj
    have : ∀ x ∈ [0, 1, 2, 3, 4, 6, 7, 10, 11, 12, 13, 14, 15, 16, 17, 18, 19, 20, 21, 22, 23, 24, 25, 26, 27, 28, 29, 30, 31, 32, 33, 34, 35, 36, 37, 38, 39], x < 40 := by decide
    exact this j hj
  have d5 : ¬ A j = A 5 := fun z => by have := (hA j 5 hj40 (by decide)).mp z; subst this; simp at hj
  have d8 : ¬ A j = A 8 := fun z => by have := (hA j 8 hj40 (by decide)).mp z; subst this; simp at hj
  have d9 : ¬ A j = A 9 := fun z => by have := (hA j 9 hj40 (by decide)).mp z; subst this; simp at hj
  simp only [cW, mi_pi, d5, d8, d9, false_and, if_false]
theorem icw0_j6 {A : Nat → Nat} {h : MH} {t : QT} (hA : inj40 A) {k : Nat} : g_i (cW h (A 5) (A 8) (A 9) t) (A 6) k = g_i h (A 6) k := icw0 hA (j := 6) (by decide)
theorem icw0_j7 {A : Nat → Nat} {h : MH} {t : QT} (hA : inj40 A) {k : Nat} : g_i (cW h (A 5) (A 8) (A 9) t) (A 7) k = g_i h (A 7) k := icw0 hA (j := 7) (by decide)
theorem icw0_j10 {A : Nat → Nat} {h : MH} {t : QT} (hA : inj40 A) {k : Nat} : g_i (cW h (A 5) (A 8) (A 9) t) (A 10) k = g_i h (A 10) k := icw0 hA (j := 10) (by decide)
theorem icw0_j11 {A : Nat → Nat} {h : MH} {t : QT} (hA : inj40 A) {k : Nat} : g_i (cW h (A 5) (A 8) (A 9) t) (A 11) k = g_i h (A 11) k := icw0 hA (j := 11) (by decide)
theorem icw0_j12 {A : Nat → Nat} {h : MH} {t : QT} (hA : inj40 A) {k : Nat} : g_i (cW h (A 5) (A 8) (A 9) t) (A 12) k = g_i h (A 12) k := icw0 hA (j := 12) (by decide)
theorem icw0_j13 {A : Nat → Nat} {h : MH} {t : QT} (hA : inj40 A) {k : Nat} : g_i (cW h (A 5) (A 8) (A 9) t) (A 13) k = g_i h (A 13) k := icw0 hA (j := 13) (by decide)
theorem icw0_j18 {A : Nat → Nat} {h : MH} {t : QT} (hA : inj40 A) {k : Nat} : g_i (cW h (A 5) (A 8) (A 9) t) (A 18) k = g_i h (A 18) k := icw0 hA (j := 18) (by decide)
theorem icw0_j22 {A : Nat → Nat} {h : MH} {t : QT} (hA : inj40 A) {k : Nat} : g_i (cW h (A 5) (A 8) (A 9) t) (A 22) k = g_i h (A 22) k := icw0 hA (j := 22) (by decide)
theorem icw0_j24 {A : Nat → Nat} {h : MH} {t : QT} (hA : inj40 A) {k : Nat} : g_i (cW h (A 5) (A 8) (A 9) t) (A 24) k = g_i h (A 24) k := icw0 hA (j := 24) (by decide)
theorem icw0_j27 {A : Nat → Nat} {h : MH} {t : QT} (hA : inj40 A) {k : Nat} : g_i (cW h (A 5) (A 8) (A 9) t) (A 27) k = g_i h (A 27) k := icw0 hA (j := 27) (by decide)
theorem icw0_j30 {A : Nat → Nat} {h : MH} {t : QT} (hA : inj40 A) {k : Nat} : g_i (cW h (A 5) (A 8) (A 9) t) (A 30) k = g_i h (A 30) k := icw0 hA (j := 30) (by decide)
theorem icw0_j31 {A : Nat → Nat} {h : MH} {t : QT} (hA : inj40 A) {k : Nat} : g_i (cW h (A 5) (A 8) (A 9) t) (A 31) k = g_i h (A 31) k := icw0 hA (j := 31) (by decide)
theorem icw0_j34 {A : Nat → Nat} {h : MH} {t : QT} (hA : inj40 A) {k : Nat} : g_i (cW h (A 5) (A 8) (A 9) t) (A 34) k = g_i h (A 34) k := icw0 hA (j := 34) (by decide)
theorem imw0 {A : Nat → Nat} {h : MH} {t : QT} (hA : inj40 A) {j k : Nat} (hj : [0, 1, 2, 3, 4, 5, 6, 7, 8, 9, 10, 11, 12, 13, 14, 15, 16, 17, 18, 19, 20, 21, 22, 23, 24, 25, 26, 28, 29, 30, 32, 33, 35, 36, 37, 38, 39].contains j = true) : g_i (mW h (A 27) 0 (A 31) (A 34) t) (A j) k = g_i h (A j) k := by
  have hj40 : j < 40 := by
    simp only [List.contains_eq_mem, decide_eq_true_eq] at hj
    have : ∀ x ∈ [0, 1, 2, 3, 4, 5, 6, 7, 8, 9, 10, 11, 12, 13, 14, 15, 16, 17, 18, 19, 20, 21, 22, 23, 24, 25, 26, 28, 29, 30, 32, 33, 35, 36, 37, 38, 39], x < 40 := by decide
    exact this j hj
  have d27 : ¬ A j = A 27 := fun z => by have := (hA j 27 hj40 (by decide)).mp z; subst this; simp at hj
  have d31 : ¬ A j = A 31 := fun z => by have := (hA j 31 hj40 (by decide)).mp z; subst this; simp at hj
  have d34 : ¬ A j = A 34 := fun z => by have := (hA j 34 hj40 (by decide)).mp z; subst this; simp at hj
  simp only [mW, mi_pi, d27, d31, d34, false_and, if_false]
theorem imw0_j18 {A : Nat → Nat} {h : MH} {t : QT} (hA : inj40 A) {k : Nat} : g_i (mW h (A 27) 0 (A 31) (A 34) t) (A 18) k = g_i h (A 18) k := imw0 hA (j := 18) (by decide)
theorem imw0_j22 {A : Nat → Nat} {h : MH} {t : QT} (hA : inj40 A) {k : Nat} : g_i (mW h (A 27) 0 (A 31) (A 34) t) (A 22) k = g_i h (A 22) k := imw0 hA (j := 22) (by decide)
theorem imw0_j24 {A : Nat → Nat} {h : MH} {t : QT} (hA : inj40 A) {k : Nat} : g_i (mW h (A 27) 0 (A 31) (A 34) t) (A 24) k = g_i h (A 24) k := imw0 hA (j := 24) (by decide)
theorem imw0_j30 {A : Nat → Nat} {h : MH} {t : QT} (hA : inj40 A) {k : Nat} : g_i (mW h (A 27) 0 (A 31) (A 34) t) (A 30) k = g_i h (A 30) k := imw0 hA (j := 30) (by decide)
theorem imw0_j32 {A : Nat → Nat} {h : MH} {t : QT} (hA : inj40 A) {k : Nat} : g_i (mW h (A 27) 0 (A 31) (A 34) t) (A 32) k = g_i h (A 32) k := imw0 hA (j := 32) (by decide)
theorem imw0_j33 {A : Nat → Nat} {h : MH} {t : QT} (hA : inj40 A) {k : Nat} : g_i (mW h (A 27) 0 (A 31) (A 34) t) (A 33) k = g_i h (A 33) k := imw0 hA (j := 33) (by decide)
theorem imw0_j35 {A : Nat → Nat} {h : MH} {t : QT} (hA : inj40 A) {k : Nat} : g_i (mW h (A 27) 0 (A 31) (A 34) t) (A 35) k = g_i h (A 35) k := imw0 hA (j := 35) (by decide)
theorem imw0_j36 {A : Nat → Nat} {h : MH} {t : QT} (hA : inj40 A) {k : Nat} : g_i (mW h (A 27) 0 (A 31) (A 34) t) (A 36) k = g_i h (A 36) k := imw0 hA (j := 36) (by decide)
theorem icw1 {A : Nat → Nat} {h : MH} {t : QT} (hA : inj40 A) {j k : Nat} (hj : [0, 1, 2, 3, 4, 5, 7, 8, 9, 12, 13, 14, 15, 16, 17, 18, 19, 20, 21, 22, 23, 24, 25, 26, 27, 28, 29, 30, 31, 32, 33, 34, 35, 36, 37, 38, 39].contains j = true) : g_i (cW h (A 6) (A 10) (A 11) t) (A j) k = g_i h (A j) k := by
  have hj40 : j < 40 := by
    simp only [List.contains_eq_mem, decide_eq_true_eq] at hj
    have : ∀ x ∈ [0, 1, 2, 3, 4, 5, 7, 8, 9, 12, 13, 14, 15, 16, 17, 18, 19, 20, 21, 22, 23, 24, 25, 26, 27, 28, 29, 30, 31, 32, 33, 34, 35, 36, 37, 38, 39], x < 40 := by decide
    exact this j hj
  have d6 : ¬ A j = A 6 := fun z => by have := (hA j 6 hj40 (by decide)).mp z; subst this; simp at hj
  have d10 : ¬ A j = A 10 := fun z => by have := (hA j 10 hj40 (by decide)).mp z; subst this; simp at hj
  have d11 : ¬ A j = A 11 := fun z => by have := (hA j 11 hj40 (by decide)).mp z; subst this; simp at hj
  simp only [cW, mi_pi, d6, d10, d11, false_and, if_false]
theorem icw1_j5 {A : Nat → Nat} {h : MH} {t : QT} (hA : inj40 A) {k : Nat} : g_i (cW h (A 6) (A 10) (A 11) t) (A 5) k = g_i h (A 5) k := icw1 hA (j := 5) (by decide)
theorem icw1_j7 {A : Nat → Nat} {h : MH} {t : QT} (hA : inj40 A) {k : Nat} : g_i (cW h (A 6) (A 10) (A 11) t) (A 7) k = g_i h (A 7) k := icw1 hA (j := 7) (by decide)
theorem icw1_j8 {A : Nat → Nat} {h : MH} {t : QT} (hA : inj40 A) {k : Nat} : g_i (cW h (A 6) (A 10) (A 11) t) (A 8) k = g_i h (A 8) k := icw1 hA (j := 8) (by decide)
theorem icw1_j9 {A : Nat → Nat} {h : MH} {t : QT} (hA : inj40 A) {k : Nat} : g_i (cW h (A 6) (A 10) (A 11) t) (A 9) k = g_i h (A 9) k := icw1 hA (j := 9) (by decide)
theorem icw1_j12 {A : Nat → Nat} {h : MH} {t : QT} (hA : inj40 A) {k : Nat} : g_i (cW h (A 6) (A 10) (A 11) t) (A 12) k = g_i h (A 12) k := icw1 hA (j := 12) (by decide)
theorem icw1_j13 {A : Nat → Nat} {h : MH} {t : QT} (hA : inj40 A) {k : Nat} : g_i (cW h (A 6) (A 10) (A 11) t) (A 13) k = g_i h (A 13) k := icw1 hA (j := 13) (by decide)
theorem icw1_j18 {A : Nat → Nat} {h : MH} {t : QT} (hA : inj40 A) {k : Nat} : g_i (cW h (A 6) (A 10) (A 11) t) (A 18) k = g_i h (A 18) k := icw1 hA (j := 18) (by decide)
theorem icw1_j22 {A : Nat → Nat} {h : MH} {t : QT} (hA : inj40 A) {k : Nat} : g_i (cW h (A 6) (A 10) (A 11) t) (A 22) k = g_i h (A 22) k := icw1 hA (j := 22) (by decide)
theorem icw1_j24 {A : Nat → Nat} {h : MH} {t : QT} (hA : inj40 A) {k : Nat} : g_i (cW h (A 6) (A 10) (A 11) t) (A 24) k = g_i h (A 24) k := icw1 hA (j := 24) (by decide)
theorem icw1_j27 {A : Nat → Nat} {h : MH} {t : QT} (hA : inj40 A) {k : Nat} : g_i (cW h (A 6) (A 10) (A 11) t) (A 27) k = g_i h (A 27) k := icw1 hA (j := 27) (by decide)
theorem icw1_j30 {A : Nat → Nat} {h : MH} {t : QT} (hA : inj40 A) {k : Nat} : g_i (cW h (A 6) (A 10) (A 11) t) (A 30) k = g_i h (A 30) k := icw1 hA (j := 30) (by decide)
theorem icw1_j32 {A : Nat → Nat} {h : MH} {t : QT} (hA : inj40 A) {k : Nat} : g_i (cW h (A 6) (A 10) (A 11) t) (A 32) k = g_i h (A 32) k := icw1 hA (j := 32) (by decide)
theorem icw1_j35 {A : Nat → Nat} {h : MH} {t : QT} (hA : inj40 A) {k : Nat} : g_i (cW h (A 6) (A 10) (A 11) t) (A 35) k = g_i h (A 35) k := icw1 hA (j := 35) (by decide)
theorem imw1 {A : Nat → Nat} {h : MH} {t : QT} (hA : inj40 A) {j k : Nat} (hj : [0, 1, 2, 3, 4, 5, 6, 7, 8, 9, 10, 11, 12, 13, 14, 15, 16, 17, 18, 19, 20, 21, 22, 23, 24, 25, 26, 28, 29, 30, 31, 33, 34, 36, 37, 38, 39].contains j = true) : g_i (mW h (A 27) 1 (A 32) (A 35) t) (A j) k = g_i h (A j) k := by
  have hj40 : j < 40 := by
    simp only [List.contains_eq_mem, decide_eq_true_eq] at hj
    have : ∀ x ∈ [0, 1, 2, 3, 4, 5, 6, 7, 8, 9, 10, 11, 12, 13, 14, 15, 16, 17, 18, 19, 20, 21, 22, 23, 24, 25, 26, 28, 29, 30, 31, 33, 34, 36, 37, 38, 39], x < 40 := by decide
    exact this j hj
  have d27 : ¬ A j = A 27 := fun z => by have := (hA j 27 hj40 (by decide)).mp z; subst this; simp at hj
  have d32 : ¬ A j = A 32 := fun z => by have := (hA j 32 hj40 (by decide)).mp z; subst this; simp at hj
  have d35 : ¬ A j = A 35 := fun z => by have := (hA j 35 hj40 (by decide)).mp z; subst this; simp at hj
  simp only [mW, mi_pi, d27, d32, d35, false_and, if_false]
theorem imw1_j18 {A : Nat → Nat} {h : MH} {t : QT} (hA : inj40 A) {k : Nat} : g_i (mW h (A 27) 1 (A 32) (A 35) t) (A 18) k = g_i h (A 18) k := imw1 hA (j := 18) (by decide)
theorem imw1_j22 {A : Nat → Nat} {h : MH} {t : QT} (hA : inj40 A) {k : Nat} : g_i (mW h (A 27) 1 (A 32) (A 35) t) (A 22) k = g_i h (A 22) k := imw1 hA (j := 22) (by decide)
theorem imw1_j24 {A : Nat → Nat} {h : MH} {t : QT} (hA : inj40 A) {k : Nat} : g_i (mW h (A 27) 1 (A 32) (A 35) t) (A 24) k = g_i h (A 24) k := imw1 hA (j := 24) (by decide)
theorem imw1_j30 {A : Nat → Nat} {h : MH} {t : QT} (hA : inj40 A) {k : Nat} : g_i (mW h (A 27) 1 (A 32) (A 35) t) (A 30) k = g_i h (A 30) k := imw1 hA (j := 30) (by decide)
theorem imw1_j31 {A : Nat → Nat} {h : MH} {t : QT} (hA : inj40 A) {k : Nat} : g_i (mW h (A 27) 1 (A 32) (A 35) t) (A 31) k = g_i h (A 31) k := imw1 hA (j := 31) (by decide)
theorem imw1_j33 {A : Nat → Nat} {h : MH} {t : QT} (hA : inj40 A) {k : Nat} : g_i (mW h (A 27) 1 (A 32) (A 35) t) (A 33) k = g_i h (A 33) k := imw1 hA (j := 33) (by decide)
theorem imw1_j34 {A : Nat → Nat} {h : MH} {t : QT} (hA : inj40 A) {k : Nat} : g_i (mW h (A 27) 1 (A 32) (A 35) t) (A 34) k = g_i h (A 34) k := imw1 hA (j := 34) (by decide)
theorem imw1_j36 {A : Nat → Nat} {h : MH} {t : QT} (hA : inj40 A) {k : Nat} : g_i (mW h (A 27) 1 (A 32) (A 35) t) (A 36) k = g_i h (A 36) k := imw1 hA (j := 36) (by decide)
theorem icw2 {A : Nat → Nat} {h : MH} {t : QT} (hA : inj40 A) {j k : Nat} (hj : [0, 1, 2, 3, 4, 5, 6, 8, 9, 10, 11, 14, 15, 16, 17, 18, 19, 20, 21, 22, 23, 24, 25, 26, 27, 28, 29, 30, 31, 32, 33, 34, 35, 36, 37, 38, 39].contains j = true) : g_i (cW h (A 7) (A 12) (A 13) t) (A j) k = g_i h (A j) k := by
  have hj40 : j < 40 := by
    simp only [List.contains_eq_mem, decide_eq_true_eq] at hj
    have : ∀ x ∈ [0, 1, 2, 3, 4, 5, 6, 8, 9, 10, 11, 14, 15, 16, 17, 18, 19, 20, 21, 22, 23, 24, 25, 26, 27, 28, 29, 30, 31, 32, 33, 34, 35, 36, 37, 38, 39], x < 40 := by decide
    exact this j hj
  have d7 : ¬ A j = A 7 := fun z => by have := (hA j 7 hj40 (by decide)).mp z; subst this; simp at hj
  have d12 : ¬ A j = A 12 := fun z => by have := (hA j 12 hj40 (by decide)).mp z; subst this; simp at hj
  have d13 : ¬ A j = A 13 := fun z => by have := (hA j 13 hj40 (by decide)).mp z; subst this; simp at hj
  simp only [cW, mi_pi, d7, d12, d13, false_and, if_false]
theorem icw2_j5 {A : Nat → Nat} {h : MH} {t : QT} (hA : inj40 A) {k : Nat} : g_i (cW h (A 7) (A 12) (A 13) t) (A 5) k = g_i h (A 5) k := icw2 hA (j := 5) (by decide)
theorem icw2_j6 {A : Nat → Nat} {h : MH} {t : QT} (hA : inj40 A) {k : Nat} : g_i (cW h (A 7) (A 12) (A 13) t) (A 6) k = g_i h (A 6) k := icw2 hA (j := 6) (by decide)
theorem icw2_j8 {A : Nat → Nat} {h : MH} {t : QT} (hA : inj40 A) {k : Nat} : g_i (cW h (A 7) (A 12) (A 13) t) (A 8) k = g_i h (A 8) k := icw2 hA (j := 8) (by decide)
theorem icw2_j9 {A : Nat → Nat} {h : MH} {t : QT} (hA : inj40 A) {k : Nat} : g_i (cW h (A 7) (A 12) (A 13) t) (A 9) k = g_i h (A 9) k := icw2 hA (j := 9) (by decide)
theorem icw2_j10 {A : Nat → Nat} {h : MH} {t : QT} (hA : inj40 A) {k : Nat} : g_i (cW h (A 7) (A 12) (A 13) t) (A 10) k = g_i h (A 10) k := icw2 hA (j := 10) (by decide)
theorem icw2_j11 {A : Nat → Nat} {h : MH} {t : QT} (hA : inj40 A) {k : Nat} : g_i (cW h (A 7) (A 12) (A 13) t) (A 11) k = g_i h (A 11) k := icw2 hA (j := 11) (by decide)
theorem icw2_j18 {A : Nat → Nat} {h : MH} {t : QT} (hA : inj40 A) {k : Nat} : g_i (cW h (A 7) (A 12) (A 13) t) (A 18) k = g_i h (A 18) k := icw2 hA (j := 18) (by decide)
theorem icw2_j22 {A : Nat → Nat} {h : MH} {t : QT} (hA : inj40 A) {k : Nat} : g_i (cW h (A 7) (A 12) (A 13) t) (A 22) k = g_i h (A 22) k := icw2 hA (j := 22) (by decide)
theorem icw2_j24 {A : Nat → Nat} {h : MH} {t : QT} (hA : inj40 A) {k : Nat} : g_i (cW h (A 7) (A 12) (A 13) t) (A 24) k = g_i h (A 24) k := icw2 hA (j := 24) (by decide)
theorem icw2_j27 {A : Nat → Nat} {h : MH} {t : QT} (hA : inj40 A) {k : Nat} : g_i (cW h (A 7) (A 12) (A 13) t) (A 27) k = g_i h (A 27) k := icw2 hA (j := 27) (by decide)
theorem icw2_j30 {A : Nat → Nat} {h : MH} {t : QT} (hA : inj40 A) {k : Nat} : g_i (cW h (A 7) (A 12) (A 13) t) (A 30) k = g_i h (A 30) k := icw2 hA (j := 30) (by decide)
theorem icw2_j33 {A : Nat → Nat} {h : MH} {t : QT} (hA : inj40 A) {k : Nat} : g_i (cW h (A 7) (A 12) (A 13) t) (A 33) k = g_i h (A 33) k := icw2 hA (j := 33) (by decide)
theorem icw2_j36 {A : Nat → Nat} {h : MH} {t : QT} (hA : inj40 A) {k : Nat} : g_i (cW h (A 7) (A 12) (A 13) t) (A 36) k = g_i h (A 36) k := icw2 hA (j := 36) (by decide)
theorem imw2 {A : Nat → Nat} {h : MH} {t : QT} (hA : inj40 A) {j k : Nat} (hj : [0, 1, 2, 3, 4, 5, 6, 7, 8, 9, 10, 11, 12, 13, 14, 15, 16, 17, 18, 19, 20, 21, 22, 23, 24, 25, 26, 28, 29, 30, 31, 32, 34, 35, 37, 38, 39].contains j = true) : g_i (mW h (A 27) 2 (A 33) (A 36) t) (A j) k = g_i h (A j) k := by
  have hj40 : j < 40 := by
    simp only [List.contains_eq_mem, decide_eq_true_eq] at hj
    have : ∀ x ∈ [0, 1, 2, 3, 4, 5, 6, 7, 8, 9, 10, 11, 12, 13, 14, 15, 16, 17, 18, 19, 20, 21, 22, 23, 24, 25, 26, 28, 29, 30, 31, 32, 34, 35, 37, 38, 39], x < 40 := by decide
    exact this j hj
  have d27 : ¬ A j = A 27 := fun z => by have := (hA j 27 hj40 (by decide)).mp z; subst this; simp at hj
  have d33 : ¬ A j = A 33 := fun z => by have := (hA j 33 hj40 (by decide)).mp z; subst this; simp at hj
  have d36 : ¬ A j = A 36 := fun z => by have := (hA j 36 hj40 (by decide)).mp z; subst this; simp at hj
  simp only [mW, mi_pi, d27, d33, d36, false_and, if_false]
theorem imw2_j18 {A : Nat → Nat} {h : MH} {t : QT} (hA : inj40 A) {k : Nat} : g_i (mW h (A 27) 2 (A 33) (A 36) t) (A 18) k = g_i h (A 18) k := imw2 hA (j := 18) (by decide)
theorem imw2_j22 {A : Nat → Nat} {h : MH} {t : QT} (hA : inj40 A) {k : Nat} : g_i (mW h (A 27) 2 (A 33) (A 36) t) (A 22) k = g_i h (A 22) k := imw2 hA (j := 22) (by decide)
theorem imw2_j24 {A : Nat → Nat} {h : MH} {t : QT} (hA : inj40 A) {k : Nat} : g_i (mW h (A 27) 2 (A 33) (A 36) t) (A 24) k = g_i h (A 24) k := imw2 hA (j := 24) (by decide)
theorem imw2_j30 {A : Nat → Nat} {h : MH} {t : QT} (hA : inj40 A) {k : Nat} : g_i (mW h (A 27) 2 (A 33) (A 36) t) (A 30) k = g_i h (A 30) k := imw2 hA (j := 30) (by decide)
theorem imw2_j31 {A : Nat → Nat} {h : MH} {t : QT} (hA : inj40 A) {k : Nat} : g_i (mW h (A 27) 2 (A 33) (A 36) t) (A 31) k = g_i h (A 31) k := imw2 hA (j := 31) (by decide)
theorem imw2_j32 {A : Nat → Nat} {h : MH} {t : QT} (hA : inj40 A) {k : Nat} : g_i (mW h (A 27) 2 (A 33) (A 36) t) (A 32) k = g_i h (A 32) k := imw2 hA (j := 32) (by decide)
theorem imw2_j34 {A : Nat → Nat} {h : MH} {t : QT} (hA : inj40 A) {k : Nat} : g_i (mW h (A 27) 2 (A 33) (A 36) t) (A 34) k = g_i h (A 34) k := imw2 hA (j := 34) (by decide)
theorem imw2_j35 {A : Nat → Nat} {h : MH} {t : QT} (hA : inj40 A) {k : Nat} : g_i (mW h (A 27) 2 (A 33) (A 36) t) (A 35) k = g_i h (A 35) k := imw2 hA (j := 35) (by decide)
theorem hx_295_1 {l rest : List Value} {bc bs : Nat} {Q : MR → MH → Prop} {h : MH} : Kc Ok 295 4 7 l rest bc bs Q (.inr 1) h ↔ ∀ q : Nat, Ok 295 14 l [.ref q] h bc bs Q := Kc_x (by decide +kernel) (by decide +kernel)
theorem op_put {A : Nat → Nat} {h : MH} (R : Rl A h) {q s : Int32} : Ok 295 0 [.ref (A 0), .int q, .int s, .ref (A 39), mk0] [] h 2 12 (fun r h1 => ∃ k : Int32, r = .inl (some (.int k)) ∧ g_c h1 (A 22) = 9 ∧ Ok 187 0 [.ref (A 22), .int q, .int s] [] h1 0 0 (fun r2 h2 => ∃ b : Int32, r2 = .inl (some (.int b)) ∧ Rl A h2 ∧ g_i h2 (A 22) 9 = k ∧ (k = 0 → g_l h2 (A 39) 0 = b.toInt64))) := by
  obtain ⟨vk, vcn, v0, v1, v2, vp, vl0, vl1, vlr, vsr, vc, tx⟩ := R
  have vk0 := vk
  have vcn0 := vcn
  (refine K_el vk0 ?_; intros hA kc0 kc1 kc2 kc3 kc4 kc5 kc6 kc7 kc8 kc9 kc10 kc11 kc12 kc13 kc14 kc15 kc16 kc17 kc18 kc19 kc20 kc21 kc22 kc23 kc24 kc25 kc26 kc27 kc28 kc29 kc30 kc31 kc32 kc33 kc34 kc35 kc36 kc37 kc38 kc39 kz kt kn3 kn4 kn18 kn21 kn23 kn24 kn25 kn26 kn27 kn29 kn30 kr0_0 kr0_1 kr0_2 kr0_3 kr0_4 kr0_5 kr0_7 kr0_8 kr0_9 kr0_10 kr1_0 kr2_0 kr5_0 kr5_1 kr6_0 kr6_1 kr7_0 kr7_1 kr8_0 kr9_0 kr10_0 kr11_0 kr12_0 kr13_0 kr14_0 kr15_0 kr16_0 kr17_0 kr19_0 kr19_1 kr22_0 kr22_1 kr22_2 kr22_3 kr22_4 kr22_5 kr22_7 kr22_8 kr25_0 kr25_1 kr25_2 kr26_0 kr26_1 kr26_2 kr29_0 kr29_1)
  (refine Cn_el vcn0 ?_; intros ki5_2 ki6_2 ki7_2 ki8_1 ki8_2 ki8_3 ki9_1 ki9_2 ki9_3 ki10_1 ki10_2 ki10_3 ki11_1 ki11_2 ki11_3 ki12_1 ki12_2 ki12_3 ki13_1 ki13_2 ki13_3 ki14_1 ki14_2 ki14_3 ki28_0 ki28_1 ki31_0 ki31_1 ki32_0 ki32_1 ki33_0 ki33_1 ki34_0 ki34_1 ki35_0 ki35_1 ki36_0 ki36_1)
  have hAe : ∀ i j, i < 40 → j < 40 → (A i = A j ↔ i = j) := hA
  by_cases bq : q < 0 ∨ ¬ q < 3
  · have bq2 : (¬ q < 0 ∧ q < 3) = False := nrng bq
    by_cases bs : (¬ s < 0 ∧ s < 6)
    all_goals
      simp only [o295_0, o295_1, o295_2, o295_3, o295_4, o295_14, o295_16, o295_17, o64_0, o64_1, o64_2, o187_0, o187_1, o187_2, o187_5, o187_8, o187_9, o187_12, o187_15, o187_16, o187_19, o187_20, o187_23, o187_26, o187_27, o187_28, o187_29, o187_32, o187_33, hx_295_1, c_X8_isSlot, c_X8_isThrown__, c_X8_isQueue, c_queueOf_bad, mc_pi, mc_pT, mn_pi, mn_pT, mi_pi, mi_pT, ml_pi, ml_pT, mr_pi, mr_pT, mz_pT, mcs_0, mcs_r, Kn_v, Kn_x, mrf_some, true_and, and_true, not_true_eq_false, not_false_eq_true, false_implies, forall_const, if_true, if_false, and_self, Nat.reduceLeDiff, Nat.reduceSub, Nat.reduceAdd, Nat.zero_le, Nat.le_refl, i10, Sum.inl.injEq, Option.some.injEq, Value.int.injEq, exists_eq_left', Nat.reduceLT, kc0, kc22, kc25, kn25, kr22_2, kz, bq, bq2, bs]
      intro t ht
      first | refine ⟨⟨?_, ?_, ?_, ?_, ?_, ?_, ?_, ?_, ?_, ?_, ?_, ?_⟩, rfl⟩ | refine ⟨?_, ?_, ?_, ?_, ?_, ?_, ?_, ?_, ?_, ?_, ?_, ?_⟩
      · (try simp only [K_pi])
        exact K_pT ht vk
      · (try simp only [Cn_pi_j22 hA, Cn_pT])
        exact vcn
      · (try simp only [Vq0_pi_j22 hA, Vq0_pT])
        exact v0
      · (try simp only [Vq1_pi_j22 hA, Vq1_pT])
        exact v1
      · (try simp only [Vq2_pi_j22 hA, Vq2_pT])
        exact v2
      · (try simp only [Vp_thr hA, Vp_pT])
        exact vp
      · (try simp only [Vl0_pi_j22 hA, Vl0_pT])
        exact vl0
      · (try simp only [Vl1_pi_j22 hA, Vl1_pT])
        exact vl1
      · (try simp only [Vlr_pi_j22 hA, Vlr_pT])
        exact vlr
      · (try simp only [Vsr_pi_j22 hA, Vsr_pT])
        exact vsr
      · (try simp only [Vc_pi_j22 hA, Vc_pT])
        exact vc
      · (try simp only [Tx_pi_j22 hA])
        exact Tx_pT ht tx
  · have y1 : ¬ q < 0 := fun z => bq (Or.inl z)
    have y2 : q < 3 := Classical.byContradiction fun z => bq (Or.inr z)
    have bq2 : (¬ q < 0 ∧ q < 3) = True := eq_true ⟨y1, y2⟩
    by_cases bs : s < 0 ∨ ¬ s < 6
    · have bs2 : (¬ s < 0 ∧ s < 6) = False := nrng bs
      rcases q_cases y1 y2 with rfl | rfl | rfl
      · skip
        simp only [o295_0, o295_1, o295_2, o295_3, o295_4, o295_14, o295_16, o295_17, o64_0, o64_1, o64_2, o64_5, o64_6, o64_7, o64_10, o64_11, o187_0, o187_1, o187_2, o187_5, o187_8, o187_9, o187_12, o187_15, o187_16, o187_19, o187_20, o187_23, o187_26, o187_27, o187_28, o187_29, o187_32, o187_33, o187_34, hx_295_1, c_X5_checkSlot, c_X8_isSlot, c_X8_isThrown__, c_X8_isQueue, c_queueOf_0, mc_pi, mc_pT, mn_pi, mn_pT, mi_pi, mi_pT, ml_pi, ml_pT, mr_pi, mr_pT, mz_pT, mcs_0, mcs_r, Kn_v, Kn_0, Kn_x, mrf_some, true_and, and_true, not_true_eq_false, not_false_eq_true, false_implies, forall_const, if_true, if_false, and_self, Nat.reduceLeDiff, Nat.reduceSub, Nat.reduceAdd, Nat.zero_le, Nat.le_refl, i10, Int32.reduceLT, cl0, Sum.inl.injEq, Option.some.injEq, Value.int.injEq, exists_eq_left', Nat.reduceLT, kc0, kc5, kc22, kc25, kc31, kn25, kr0_2, kr22_2, kr25_0, kz, vq3, bs, bs2]
        intro t ht
        first | refine ⟨⟨?_, ?_, ?_, ?_, ?_, ?_, ?_, ?_, ?_, ?_, ?_, ?_⟩, rfl⟩ | refine ⟨?_, ?_, ?_, ?_, ?_, ?_, ?_, ?_, ?_, ?_, ?_, ?_⟩
        · (try simp only [K_pi])
          exact K_pT ht vk
        · (try simp only [Cn_pi_j22 hA, Cn_pT])
          exact vcn
        · (try simp only [Vq0_pi_j22 hA, Vq0_pT])
          exact v0
        · (try simp only [Vq1_pi_j22 hA, Vq1_pT])
          exact v1
        · (try simp only [Vq2_pi_j22 hA, Vq2_pT])
          exact v2
        · (try simp only [Vp_thr hA, Vp_pT])
          exact vp
        · (try simp only [Vl0_pi_j22 hA, Vl0_pT])
          exact vl0
        · (try simp only [Vl1_pi_j22 hA, Vl1_pT])
          exact vl1
        · (try simp only [Vlr_pi_j22 hA, Vlr_pT])
          exact vlr
        · (try simp only [Vsr_pi_j22 hA, Vsr_pT])
          exact vsr
        · (try simp only [Vc_pi_j22 hA, Vc_pT])
          exact vc
        · (try simp only [Tx_pi_j22 hA])
          exact Tx_pT ht tx
      · skip
        simp only [o295_0, o295_1, o295_2, o295_3, o295_4, o295_14, o295_16, o295_17, o64_0, o64_1, o64_2, o64_5, o64_6, o64_7, o64_10, o64_11, o187_0, o187_1, o187_2, o187_5, o187_8, o187_9, o187_12, o187_15, o187_16, o187_19, o187_20, o187_23, o187_26, o187_27, o187_28, o187_29, o187_32, o187_33, o187_34, hx_295_1, c_X5_checkSlot, c_X8_isSlot, c_X8_isThrown__, c_X8_isQueue, c_queueOf_1, mc_pi, mc_pT, mn_pi, mn_pT, mi_pi, mi_pT, ml_pi, ml_pT, mr_pi, mr_pT, mz_pT, mcs_0, mcs_r, Kn_v, Kn_0, Kn_x, mrf_some, true_and, and_true, not_true_eq_false, not_false_eq_true, false_implies, forall_const, if_true, if_false, and_self, Nat.reduceLeDiff, Nat.reduceSub, Nat.reduceAdd, Nat.zero_le, Nat.le_refl, i10, Int32.reduceLT, cl1, Sum.inl.injEq, Option.some.injEq, Value.int.injEq, exists_eq_left', Nat.reduceLT, kc0, kc6, kc22, kc25, kc32, kn25, kr0_3, kr22_2, kr25_1, kz, vq3, bs, bs2]
        intro t ht
        first | refine ⟨⟨?_, ?_, ?_, ?_, ?_, ?_, ?_, ?_, ?_, ?_, ?_, ?_⟩, rfl⟩ | refine ⟨?_, ?_, ?_, ?_, ?_, ?_, ?_, ?_, ?_, ?_, ?_, ?_⟩
        · (try simp only [K_pi])
          exact K_pT ht vk
        · (try simp only [Cn_pi_j22 hA, Cn_pT])
          exact vcn
        · (try simp only [Vq0_pi_j22 hA, Vq0_pT])
          exact v0
        · (try simp only [Vq1_pi_j22 hA, Vq1_pT])
          exact v1
        · (try simp only [Vq2_pi_j22 hA, Vq2_pT])
          exact v2
        · (try simp only [Vp_thr hA, Vp_pT])
          exact vp
        · (try simp only [Vl0_pi_j22 hA, Vl0_pT])
          exact vl0
        · (try simp only [Vl1_pi_j22 hA, Vl1_pT])
          exact vl1
        · (try simp only [Vlr_pi_j22 hA, Vlr_pT])
          exact vlr
        · (try simp only [Vsr_pi_j22 hA, Vsr_pT])
          exact vsr
        · (try simp only [Vc_pi_j22 hA, Vc_pT])
          exact vc
        · (try simp only [Tx_pi_j22 hA])
          exact Tx_pT ht tx
      · skip
        simp only [o295_0, o295_1, o295_2, o295_3, o295_4, o295_14, o295_16, o295_17, o64_0, o64_1, o64_2, o64_5, o64_6, o64_7, o64_10, o64_11, o187_0, o187_1, o187_2, o187_5, o187_8, o187_9, o187_12, o187_15, o187_16, o187_19, o187_20, o187_23, o187_26, o187_27, o187_28, o187_29, o187_32, o187_33, o187_34, hx_295_1, c_X5_checkSlot, c_X8_isSlot, c_X8_isThrown__, c_X8_isQueue, c_queueOf_2, mc_pi, mc_pT, mn_pi, mn_pT, mi_pi, mi_pT, ml_pi, ml_pT, mr_pi, mr_pT, mz_pT, mcs_0, mcs_r, Kn_v, Kn_0, Kn_x, mrf_some, true_and, and_true, not_true_eq_false, not_false_eq_true, false_implies, forall_const, if_true, if_false, and_self, Nat.reduceLeDiff, Nat.reduceSub, Nat.reduceAdd, Nat.zero_le, Nat.le_refl, i10, Int32.reduceLT, cl2, Sum.inl.injEq, Option.some.injEq, Value.int.injEq, exists_eq_left', Nat.reduceLT, kc0, kc7, kc22, kc25, kc33, kn25, kr0_4, kr22_2, kr25_2, kz, vq3, bs, bs2]
        intro t ht
        first | refine ⟨⟨?_, ?_, ?_, ?_, ?_, ?_, ?_, ?_, ?_, ?_, ?_, ?_⟩, rfl⟩ | refine ⟨?_, ?_, ?_, ?_, ?_, ?_, ?_, ?_, ?_, ?_, ?_, ?_⟩
        · (try simp only [K_pi])
          exact K_pT ht vk
        · (try simp only [Cn_pi_j22 hA, Cn_pT])
          exact vcn
        · (try simp only [Vq0_pi_j22 hA, Vq0_pT])
          exact v0
        · (try simp only [Vq1_pi_j22 hA, Vq1_pT])
          exact v1
        · (try simp only [Vq2_pi_j22 hA, Vq2_pT])
          exact v2
        · (try simp only [Vp_thr hA, Vp_pT])
          exact vp
        · (try simp only [Vl0_pi_j22 hA, Vl0_pT])
          exact vl0
        · (try simp only [Vl1_pi_j22 hA, Vl1_pT])
          exact vl1
        · (try simp only [Vlr_pi_j22 hA, Vlr_pT])
          exact vlr
        · (try simp only [Vsr_pi_j22 hA, Vsr_pT])
          exact vsr
        · (try simp only [Vc_pi_j22 hA, Vc_pT])
          exact vc
        · (try simp only [Tx_pi_j22 hA])
          exact Tx_pT ht tx
    · have s1 : ¬ s < 0 := fun z => bs (Or.inl z)
      have s2 : s < 6 := Classical.byContradiction fun z => bs (Or.inr z)
      have hs := ix_ok s1 s2
      have hs2 := hs
      obtain ⟨⟨j0, j1, j2, j3⟩, d01, d02, d03, d10, d12, d13, d20, d21, d23, d30, d31, d32⟩ := hs2
      obtain ⟨l0, l1, l2, l3⟩ := ix_lt hs
      have vs0 := (vsr _ l0).1
      have vs1 := (vsr _ l1).1
      have vs2 := (vsr _ l2).1
      have vs3 := (vsr _ l3).1
      have bs2 : (¬ s < 0 ∧ s < 6) = True := eq_true ⟨s1, s2⟩
      rcases q_cases y1 y2 with rfl | rfl | rfl
      · have he := v0.1
        have hm := v0.2
        have hT : mT h (A 27) 0 (A 31) (A 34) = cT h (A 5) (A 8) (A 9) := he.symm
        have he2 := he
        simp only [cT, mT, Prod.mk.injEq] at he2
        obtain ⟨g1, g2, g3, g4, g5, g6, g7⟩ := he2
        replace g1 := g1.symm
        replace g2 := g2.symm
        replace g3 := g3.symm
        replace g4 := g4.symm
        replace g5 := g5.symm
        replace g6 := g6.symm
        replace g7 := g7.symm
        obtain ⟨hmk, har, hl0, hl9⟩ := qA_0 _ hm
        have hark : arok 0 (g_i h (A 5) 3) := fun z => absurd (by decide) z
        have n1 : ¬ A 8 = A 9 := fun z => absurd ((hAe 8 9 (by decide) (by decide)).mp z) (by decide)
        by_cases e0 : g_i h (A 8) 5 - g_i h (A 8) 4 = 0
        · skip
          simp only [o295_0, o295_1, o295_2, o295_3, o295_4, o295_7, o295_8, o295_11, o295_14, o295_16, o295_17, o295_18, o295_19, o64_0, o64_1, o64_2, o64_5, o64_6, o64_7, o64_10, o64_11, o64_14, o64_17, o64_18, o64_21, o64_22, o64_25, o64_26, o64_27, o64_28, o64_29, o187_0, o187_1, o187_2, o187_5, o187_8, o187_9, o187_12, o187_15, o187_16, o187_19, o187_20, o187_23, o187_26, o187_27, o187_28, o187_29, o187_32, o187_33, o187_34, o187_37, o187_40, o187_41, o187_42, o187_45, o187_46, o187_47, o187_48, o187_49, o187_50, hx_295_1, c_X5_checkSlot, c_X8_isSlot, c_X8_isThrown__, c_X8_isQueue, c_queueOf_0, c_X1_hasNoRest (w := A 8) (r := A 9), c_ref_1 (cs := A 18), c_X7_rests, c_X8_no (cs := A 30), mc_pi, mc_pl, mc_pT, mn_pi, mn_pl, mn_pT, mi_pi, mi_pl, mi_pT, ml_pi, ml_pl, ml_pT, mr_pi, mr_pl, mr_pT, mz_pi, mz_pl, mz_pT, mcs_0, mcs_i, mcs_r, Kn_v, Kn_0, Kn_x, mrf_some, true_and, and_true, and_false, or_false, not_true_eq_false, not_false_eq_true, false_implies, implies_true, forall_const, if_true, if_false, and_self, Nat.reduceEqDiff, Nat.reduceLeDiff, Nat.reduceSub, Nat.reduceAdd, Nat.zero_le, Nat.le_refl, i10, i01, Int32.reduceLT, Int32.reduceSub, cl0, cl1, Kc_v, Sum.inl.injEq, Option.some.injEq, Value.int.injEq, exists_eq_left', Nat.reduceLT, hAe, kc0, kc5, kc8, kc9, kc17, kc18, kc22, kc25, kc30, kc31, kc39, kn18, kn25, kn30, kr0_2, kr0_9, kr5_0, kr5_1, kr17_0, kr22_2, kr22_8, kr25_0, kz, vq3, g1, g2, Int32.reduceLT, cl0, cl1, s1, s2, i64_inj, e0, v18]
          first | refine ⟨⟨?_, ?_, ?_, ?_, ?_, ?_, ?_, ?_, ?_, ?_, ?_, ?_⟩, rfl⟩ | refine ⟨?_, ?_, ?_, ?_, ?_, ?_, ?_, ?_, ?_, ?_, ?_, ?_⟩
          · (try simp only [K_pi, K_pl])
            exact vk
          · (try simp only [Cn_pi_j18 hA, Cn_pi_j22 hA, Cn_pi_j30 hA, Cn_pl])
            exact vcn
          · (try simp only [Vq0_pi_j18 hA, Vq0_pi_j22 hA, Vq0_pi_j30 hA, Vq0_pl])
            exact v0
          · (try simp only [Vq1_pi_j18 hA, Vq1_pi_j22 hA, Vq1_pi_j30 hA, Vq1_pl])
            exact v1
          · (try simp only [Vq2_pi_j18 hA, Vq2_pi_j22 hA, Vq2_pi_j30 hA, Vq2_pl])
            exact v2
          · (try simp only [Vp_pi_j18 hA, Vp_pi_j30 hA, Vp_thr hA, Vp_pl])
            exact vp
          · (try simp only [Vl0_pi_j18 hA, Vl0_pi_j22 hA, Vl0_pi_j30 hA, Vl0_pl])
            exact vl0
          · (try simp only [Vl1_pi_j18 hA, Vl1_pi_j22 hA, Vl1_pi_j30 hA, Vl1_pl])
            exact vl1
          · (try simp only [Vlr_pi_j18 hA, Vlr_pi_j22 hA, Vlr_pi_j30 hA, Vlr_pl_j39 hA])
            exact vlr
          · (try simp only [Vsr_pi_j18 hA, Vsr_pi_j22 hA, Vsr_pi_j30 hA, Vsr_pl_j39 hA])
            exact vsr
          · refine Vc_of (c := 1) vc (by decide) (fun k => ?_) (fun k => ?_) <;> simp only [mi_pi, mi_pl, hAe, Nat.reduceLT, Nat.reduceEqDiff, false_and, true_and, if_false]
          · (try simp only [Tx_pi_j18 hA, Tx_pi_j22 hA, Tx_pi_j30 hA, Tx_pl])
            exact tx
        · obtain ⟨i1, i2, hj, hq9⟩ := (qI_0 _ hm).resolve_left e0
          simp only [cT] at i1 i2 hj
          have hj2 := hj.2.2
          simp only [o295_0, o295_1, o295_2, o295_3, o295_4, o295_7, o295_8, o295_11, o295_14, o295_16, o295_17, o295_18, o295_19, o64_0, o64_1, o64_2, o64_5, o64_6, o64_7, o64_10, o64_11, o64_14, o64_17, o64_18, o64_21, o64_22, o64_26, o64_27, o64_28, o64_29, o64_32, o64_35, o64_36, o64_39, o64_40, o64_43, o64_46, o187_0, o187_1, o187_2, o187_5, o187_8, o187_9, o187_12, o187_15, o187_16, o187_19, o187_20, o187_23, o187_26, o187_27, o187_28, o187_29, o187_32, o187_33, o187_34, o187_37, o187_40, o187_41, o187_42, o187_46, o187_47, o187_48, o187_49, o187_50, o187_53, o187_56, o187_57, o187_58, o187_59, o187_62, o187_65, hx_295_1, c_X5_checkSlot, c_X8_isSlot, c_X8_isThrown__, c_X8_isQueue, c_queueOf_0, c_X1_hasNoRest (w := A 8) (r := A 9), c_X7_rests, c_X1_comeIn (w := A 8) (r := A 9) (rw := A 1) (cs := A 3) (n := 16) (sz := 5) (ring := 1), c_X1_lying (w := A 8) (r := A 9), c_X8_comeIn (x2 := A 25) (x3 := A 26) (a := A 27) (w := A 31) (r := A 34) (lr := A 23) (sz := 5), c_X8_liesOf (x2 := A 25) (x3 := A 26) (a := A 27) (w := A 31) (r := A 34), c_X5_numberIn (rw := A 2) (cs := A 4), c_X8_numberOf (sr := A 24), c_X0_done (cs := A 18), c_X8_done (cs := A 30), mc_pi, mc_pl, mc_pT, mn_pi, mn_pl, mn_pT, mi_pi, mi_pl, mi_pT, ml_pi, ml_pl, ml_pT, mr_pi, mr_pl, mr_pT, mz_pi, mz_pl, mz_pT, mcs_0, mcs_i, mcs_r, Kn_v, Kn_0, Kn_x, mrf_some, true_and, and_true, false_and, and_false, or_false, not_true_eq_false, not_false_eq_true, false_implies, implies_true, forall_const, if_true, if_false, and_self, Nat.reduceEqDiff, Nat.reduceLeDiff, Nat.reduceSub, Nat.reduceAdd, Nat.zero_le, Nat.le_refl, i10, i01, Int32.reduceLT, cl0, Kc_v, Sum.inl.injEq, Option.some.injEq, Value.int.injEq, exists_eq_left', Nat.reduceLT, hAe, kc0, kc1, kc2, kc3, kc4, kc5, kc8, kc9, kc17, kc18, kc22, kc23, kc24, kc25, kc26, kc27, kc30, kc31, kc34, kc39, kn3, kn4, kn18, kn23, kn24, kn25, kn26, kn27, kn30, kr0_1, kr0_2, kr0_9, kr1_0, kr2_0, kr5_0, kr5_1, kr8_0, kr17_0, kr22_0, kr22_1, kr22_2, kr22_3, kr22_4, kr22_8, kr25_0, kr26_0, kz, ki5_2, ki8_1, ki8_2, ki8_3, ki9_2, ki31_0, ki31_1, ki34_1, vq3, hT, g1, g2, g7, hark, Int32.reduceLT, cl0, s1, s2, hs, vs0, vs1, vs2, vs3, i64_inj, i64_back, nm_eq, c_cW, n_cW, r_cW, z_cW, l_cW, c_mW, n_mW, r_mW, z_mW, l_mW, icw0_j18 hA, icw0_j22 hA, imw0_j22 hA, icw0_j24 hA, icw0_j30 hA, imw0_j30 hA, icw0_j27 hA, icw0_j31 hA, icw0_j34 hA, mT0_pi_j18 hA, mT0_pi_j22 hA, mT0_pl, mT0_pT, cT0_cW hA, mT0_cW hA, mT0_mW hA, e0, i1, i2, hj, hj2]
          first | refine ⟨⟨?_, ?_, ?_, ?_, ?_, ?_, ?_, ?_, ?_, ?_, ?_, ?_⟩, rfl⟩ | refine ⟨?_, ?_, ?_, ?_, ?_, ?_, ?_, ?_, ?_, ?_, ?_, ?_⟩
          · (try simp only [K_pi, K_pl, K_cW, K_mW])
            exact vk
          · (try simp only [Cn_pi_j18 hA, Cn_pi_j22 hA, Cn_pi_j30 hA, Cn_pl, Cn_cW0 hA, Cn_mW0 hA])
            exact vcn
          · simp only [Vq0_pi_j30 hA, Vq0_mW hA, cT0_pi_j18 hA, cT0_pi_j22 hA, cT0_pl, cT0_cW hA]
            exact ⟨trivial, hq9⟩
          · (try simp only [Vq1_pi_j18 hA, Vq1_pi_j22 hA, Vq1_pi_j30 hA, Vq1_pl, Vq1_cW0 hA, Vq1_mW0 hA])
            exact v1
          · (try simp only [Vq2_pi_j18 hA, Vq2_pi_j22 hA, Vq2_pi_j30 hA, Vq2_pl, Vq2_cW0 hA, Vq2_mW0 hA])
            exact v2
          · (try simp only [Vp_pi_j18 hA, Vp_pi_j30 hA, Vp_thr hA, Vp_pl, Vp_cW0 hA, Vp_mW0 hA])
            exact vp
          · (try simp only [Vl0_pi_j18 hA, Vl0_pi_j22 hA, Vl0_pi_j30 hA, Vl0_pl, Vl0_cW0 hA, Vl0_mW0 hA])
            exact vl0
          · (try simp only [Vl1_pi_j18 hA, Vl1_pi_j22 hA, Vl1_pi_j30 hA, Vl1_pl, Vl1_cW0 hA, Vl1_mW0 hA])
            exact vl1
          · refine Vlr_1 (i0 := (1 + g_i h (A 8) 4).toNatClampNeg) (x0 := nmM (g_i h (A 24) (11 + 4 * s + 0).toNatClampNeg) (g_i h (A 24) (11 + 4 * s + 1).toNatClampNeg) (g_i h (A 24) (11 + 4 * s + 2).toNatClampNeg) (g_i h (A 24) (11 + 4 * s + 3).toNatClampNeg)) vlr (fun k => ?_) (fun k => ?_) <;> simp only [l_cW, l_mW, ml_pi, ml_pl, hAe, Nat.reduceLT, Nat.reduceEqDiff, false_and, true_and, if_false]
          · (try simp only [Vsr_pi_j18 hA, Vsr_pi_j22 hA, Vsr_pi_j30 hA, Vsr_pl_j39 hA, Vsr_pl_j3 hA, Vsr_pl_j23 hA, Vsr_cW0 hA, Vsr_mW0 hA])
            exact vsr
          · refine Vc_of (c := 0) vc (by decide) (fun k => ?_) (fun k => ?_) <;> simp only [mi_pi, mi_pl, hAe, Nat.reduceLT, Nat.reduceEqDiff, false_and, true_and, if_false, icw0_j18 hA, imw0_j18 hA, icw0_j30 hA, imw0_j30 hA]
          · (try simp only [Tx_pi_j18 hA, Tx_pi_j22 hA, Tx_pi_j30 hA, Tx_pl, Tx_cW0 hA, Tx_mW0 hA])
            exact tx
      · have he := v1.1
        have hm := v1.2
        have hT : mT h (A 27) 1 (A 32) (A 35) = cT h (A 6) (A 10) (A 11) := he.symm
        have he2 := he
        simp only [cT, mT, Prod.mk.injEq] at he2
        obtain ⟨g1, g2, g3, g4, g5, g6, g7⟩ := he2
        replace g1 := g1.symm
        replace g2 := g2.symm
        replace g3 := g3.symm
        replace g4 := g4.symm
        replace g5 := g5.symm
        replace g6 := g6.symm
        replace g7 := g7.symm
        obtain ⟨hmk, har, hl0, hl9⟩ := qA_1 _ hm
        have hark : arok 1 (g_i h (A 6) 3) := fun z => absurd (by decide) z
        have n1 : ¬ A 10 = A 11 := fun z => absurd ((hAe 10 11 (by decide) (by decide)).mp z) (by decide)
        by_cases e0 : g_i h (A 10) 5 - g_i h (A 10) 4 = 0
        · skip
          simp only [o295_0, o295_1, o295_2, o295_3, o295_4, o295_7, o295_8, o295_11, o295_14, o295_16, o295_17, o295_18, o295_19, o64_0, o64_1, o64_2, o64_5, o64_6, o64_7, o64_10, o64_11, o64_14, o64_17, o64_18, o64_21, o64_22, o64_25, o64_26, o64_27, o64_28, o64_29, o187_0, o187_1, o187_2, o187_5, o187_8, o187_9, o187_12, o187_15, o187_16, o187_19, o187_20, o187_23, o187_26, o187_27, o187_28, o187_29, o187_32, o187_33, o187_34, o187_37, o187_40, o187_41, o187_42, o187_45, o187_46, o187_47, o187_48, o187_49, o187_50, hx_295_1, c_X5_checkSlot, c_X8_isSlot, c_X8_isThrown__, c_X8_isQueue, c_queueOf_1, c_X1_hasNoRest (w := A 10) (r := A 11), c_ref_1 (cs := A 18), c_X7_rests, c_X8_no (cs := A 30), mc_pi, mc_pl, mc_pT, mn_pi, mn_pl, mn_pT, mi_pi, mi_pl, mi_pT, ml_pi, ml_pl, ml_pT, mr_pi, mr_pl, mr_pT, mz_pi, mz_pl, mz_pT, mcs_0, mcs_i, mcs_r, Kn_v, Kn_0, Kn_x, mrf_some, true_and, and_true, and_false, or_false, not_true_eq_false, not_false_eq_true, false_implies, implies_true, forall_const, if_true, if_false, and_self, Nat.reduceEqDiff, Nat.reduceLeDiff, Nat.reduceSub, Nat.reduceAdd, Nat.zero_le, Nat.le_refl, i10, i01, Int32.reduceLT, Int32.reduceSub, cl1, Kc_v, Sum.inl.injEq, Option.some.injEq, Value.int.injEq, exists_eq_left', Nat.reduceLT, hAe, kc0, kc6, kc10, kc11, kc17, kc18, kc22, kc25, kc30, kc32, kc39, kn18, kn25, kn30, kr0_3, kr0_9, kr6_0, kr6_1, kr17_0, kr22_2, kr22_8, kr25_1, kz, vq3, g1, g2, Int32.reduceLT, cl1, s1, s2, i64_inj, e0, v18]
          first | refine ⟨⟨?_, ?_, ?_, ?_, ?_, ?_, ?_, ?_, ?_, ?_, ?_, ?_⟩, rfl⟩ | refine ⟨?_, ?_, ?_, ?_, ?_, ?_, ?_, ?_, ?_, ?_, ?_, ?_⟩
          · (try simp only [K_pi, K_pl])
            exact vk
          · (try simp only [Cn_pi_j18 hA, Cn_pi_j22 hA, Cn_pi_j30 hA, Cn_pl])
            exact vcn
          · (try simp only [Vq0_pi_j18 hA, Vq0_pi_j22 hA, Vq0_pi_j30 hA, Vq0_pl])
            exact v0
          · (try simp only [Vq1_pi_j18 hA, Vq1_pi_j22 hA, Vq1_pi_j30 hA, Vq1_pl])
            exact v1
          · (try simp only [Vq2_pi_j18 hA, Vq2_pi_j22 hA, Vq2_pi_j30 hA, Vq2_pl])
            exact v2
          · (try simp only [Vp_pi_j18 hA, Vp_pi_j30 hA, Vp_thr hA, Vp_pl])
            exact vp
          · (try simp only [Vl0_pi_j18 hA, Vl0_pi_j22 hA, Vl0_pi_j30 hA, Vl0_pl])
            exact vl0
          · (try simp only [Vl1_pi_j18 hA, Vl1_pi_j22 hA, Vl1_pi_j30 hA, Vl1_pl])
            exact vl1
          · (try simp only [Vlr_pi_j18 hA, Vlr_pi_j22 hA, Vlr_pi_j30 hA, Vlr_pl_j39 hA])
            exact vlr
          · (try simp only [Vsr_pi_j18 hA, Vsr_pi_j22 hA, Vsr_pi_j30 hA, Vsr_pl_j39 hA])
            exact vsr
          · refine Vc_of (c := 1) vc (by decide) (fun k => ?_) (fun k => ?_) <;> simp only [mi_pi, mi_pl, hAe, Nat.reduceLT, Nat.reduceEqDiff, false_and, true_and, if_false]
          · (try simp only [Tx_pi_j18 hA, Tx_pi_j22 hA, Tx_pi_j30 hA, Tx_pl])
            exact tx
        · obtain ⟨i1, i2, hj, hq9⟩ := (qI_1 _ hm).resolve_left e0
          simp only [cT] at i1 i2 hj
          have hj2 := hj.2.2
          simp only [o295_0, o295_1, o295_2, o295_3, o295_4, o295_7, o295_8, o295_11, o295_14, o295_16, o295_17, o295_18, o295_19, o64_0, o64_1, o64_2, o64_5, o64_6, o64_7, o64_10, o64_11, o64_14, o64_17, o64_18, o64_21, o64_22, o64_26, o64_27, o64_28, o64_29, o64_32, o64_35, o64_36, o64_39, o64_40, o64_43, o64_46, o187_0, o187_1, o187_2, o187_5, o187_8, o187_9, o187_12, o187_15, o187_16, o187_19, o187_20, o187_23, o187_26, o187_27, o187_28, o187_29, o187_32, o187_33, o187_34, o187_37, o187_40, o187_41, o187_42, o187_46, o187_47, o187_48, o187_49, o187_50, o187_53, o187_56, o187_57, o187_58, o187_59, o187_62, o187_65, hx_295_1, c_X5_checkSlot, c_X8_isSlot, c_X8_isThrown__, c_X8_isQueue, c_queueOf_1, c_X1_hasNoRest (w := A 10) (r := A 11), c_X7_rests, c_X1_comeIn (w := A 10) (r := A 11) (rw := A 1) (cs := A 3) (n := 16) (sz := 3) (ring := 1), c_X1_lying (w := A 10) (r := A 11), c_X8_comeIn (x2 := A 25) (x3 := A 26) (a := A 27) (w := A 32) (r := A 35) (lr := A 23) (sz := 3), c_X8_liesOf (x2 := A 25) (x3 := A 26) (a := A 27) (w := A 32) (r := A 35), c_X5_numberIn (rw := A 2) (cs := A 4), c_X8_numberOf (sr := A 24), c_X0_done (cs := A 18), c_X8_done (cs := A 30), mc_pi, mc_pl, mc_pT, mn_pi, mn_pl, mn_pT, mi_pi, mi_pl, mi_pT, ml_pi, ml_pl, ml_pT, mr_pi, mr_pl, mr_pT, mz_pi, mz_pl, mz_pT, mcs_0, mcs_i, mcs_r, Kn_v, Kn_0, Kn_x, mrf_some, true_and, and_true, false_and, and_false, or_false, not_true_eq_false, not_false_eq_true, false_implies, implies_true, forall_const, if_true, if_false, and_self, Nat.reduceEqDiff, Nat.reduceLeDiff, Nat.reduceSub, Nat.reduceAdd, Nat.zero_le, Nat.le_refl, i10, i01, Int32.reduceLT, cl1, Kc_v, Sum.inl.injEq, Option.some.injEq, Value.int.injEq, exists_eq_left', Nat.reduceLT, hAe, kc0, kc1, kc2, kc3, kc4, kc6, kc10, kc11, kc17, kc18, kc22, kc23, kc24, kc25, kc26, kc27, kc30, kc32, kc35, kc39, kn3, kn4, kn18, kn23, kn24, kn25, kn26, kn27, kn30, kr0_1, kr0_3, kr0_9, kr1_0, kr2_0, kr6_0, kr6_1, kr10_0, kr17_0, kr22_0, kr22_1, kr22_2, kr22_3, kr22_4, kr22_8, kr25_1, kr26_1, kz, ki6_2, ki10_1, ki10_2, ki10_3, ki11_2, ki32_0, ki32_1, ki35_1, vq3, hT, g1, g2, g7, hark, Int32.reduceLT, cl1, s1, s2, hs, vs0, vs1, vs2, vs3, i64_inj, i64_back, nm_eq, c_cW, n_cW, r_cW, z_cW, l_cW, c_mW, n_mW, r_mW, z_mW, l_mW, icw1_j18 hA, icw1_j22 hA, imw1_j22 hA, icw1_j24 hA, icw1_j30 hA, imw1_j30 hA, icw1_j27 hA, icw1_j32 hA, icw1_j35 hA, mT1_pi_j18 hA, mT1_pi_j22 hA, mT1_pl, mT1_pT, cT1_cW hA, mT1_cW hA, mT1_mW hA, e0, i1, i2, hj, hj2]
          first | refine ⟨⟨?_, ?_, ?_, ?_, ?_, ?_, ?_, ?_, ?_, ?_, ?_, ?_⟩, rfl⟩ | refine ⟨?_, ?_, ?_, ?_, ?_, ?_, ?_, ?_, ?_, ?_, ?_, ?_⟩
          · (try simp only [K_pi, K_pl, K_cW, K_mW])
            exact vk
          · (try simp only [Cn_pi_j18 hA, Cn_pi_j22 hA, Cn_pi_j30 hA, Cn_pl, Cn_cW1 hA, Cn_mW1 hA])
            exact vcn
          · (try simp only [Vq0_pi_j18 hA, Vq0_pi_j22 hA, Vq0_pi_j30 hA, Vq0_pl, Vq0_cW1 hA, Vq0_mW1 hA])
            exact v0
          · simp only [Vq1_pi_j30 hA, Vq1_mW hA, cT1_pi_j18 hA, cT1_pi_j22 hA, cT1_pl, cT1_cW hA]
            exact ⟨trivial, hq9⟩
          · (try simp only [Vq2_pi_j18 hA, Vq2_pi_j22 hA, Vq2_pi_j30 hA, Vq2_pl, Vq2_cW1 hA, Vq2_mW1 hA])
            exact v2
          · (try simp only [Vp_pi_j18 hA, Vp_pi_j30 hA, Vp_thr hA, Vp_pl, Vp_cW1 hA, Vp_mW1 hA])
            exact vp
          · (try simp only [Vl0_pi_j18 hA, Vl0_pi_j22 hA, Vl0_pi_j30 hA, Vl0_pl, Vl0_cW1 hA, Vl0_mW1 hA])
            exact vl0
          · (try simp only [Vl1_pi_j18 hA, Vl1_pi_j22 hA, Vl1_pi_j30 hA, Vl1_pl, Vl1_cW1 hA, Vl1_mW1 hA])
            exact vl1
          · refine Vlr_1 (i0 := (6 + g_i h (A 10) 4).toNatClampNeg) (x0 := nmM (g_i h (A 24) (11 + 4 * s + 0).toNatClampNeg) (g_i h (A 24) (11 + 4 * s + 1).toNatClampNeg) (g_i h (A 24) (11 + 4 * s + 2).toNatClampNeg) (g_i h (A 24) (11 + 4 * s + 3).toNatClampNeg)) vlr (fun k => ?_) (fun k => ?_) <;> simp only [l_cW, l_mW, ml_pi, ml_pl, hAe, Nat.reduceLT, Nat.reduceEqDiff, false_and, true_and, if_false]
          · (try simp only [Vsr_pi_j18 hA, Vsr_pi_j22 hA, Vsr_pi_j30 hA, Vsr_pl_j39 hA, Vsr_pl_j3 hA, Vsr_pl_j23 hA, Vsr_cW1 hA, Vsr_mW1 hA])
            exact vsr
          · refine Vc_of (c := 0) vc (by decide) (fun k => ?_) (fun k => ?_) <;> simp only [mi_pi, mi_pl, hAe, Nat.reduceLT, Nat.reduceEqDiff, false_and, true_and, if_false, icw1_j18 hA, imw1_j18 hA, icw1_j30 hA, imw1_j30 hA]
          · (try simp only [Tx_pi_j18 hA, Tx_pi_j22 hA, Tx_pi_j30 hA, Tx_pl, Tx_cW1 hA, Tx_mW1 hA])
            exact tx
      · have he := v2.1
        have hm := v2.2
        have hT : mT h (A 27) 2 (A 33) (A 36) = cT h (A 7) (A 12) (A 13) := he.symm
        have he2 := he
        simp only [cT, mT, Prod.mk.injEq] at he2
        obtain ⟨g1, g2, g3, g4, g5, g6, g7⟩ := he2
        replace g1 := g1.symm
        replace g2 := g2.symm
        replace g3 := g3.symm
        replace g4 := g4.symm
        replace g5 := g5.symm
        replace g6 := g6.symm
        replace g7 := g7.symm
        obtain ⟨hmk, har, hl0, hl9⟩ := qA_2 _ hm
        have hark : arok 2 (g_i h (A 7) 3) := fun _ => har
        have n1 : ¬ A 12 = A 13 := fun z => absurd ((hAe 12 13 (by decide) (by decide)).mp z) (by decide)
        by_cases e0 : g_i h (A 12) 5 - g_i h (A 12) 4 = 0
        · skip
          simp only [o295_0, o295_1, o295_2, o295_3, o295_4, o295_7, o295_8, o295_11, o295_14, o295_16, o295_17, o295_18, o295_19, o64_0, o64_1, o64_2, o64_5, o64_6, o64_7, o64_10, o64_11, o64_14, o64_17, o64_18, o64_21, o64_22, o64_25, o64_26, o64_27, o64_28, o64_29, o187_0, o187_1, o187_2, o187_5, o187_8, o187_9, o187_12, o187_15, o187_16, o187_19, o187_20, o187_23, o187_26, o187_27, o187_28, o187_29, o187_32, o187_33, o187_34, o187_37, o187_40, o187_41, o187_42, o187_45, o187_46, o187_47, o187_48, o187_49, o187_50, hx_295_1, c_X5_checkSlot, c_X8_isSlot, c_X8_isThrown__, c_X8_isQueue, c_queueOf_2, c_X1_hasNoRest (w := A 12) (r := A 13), c_ref_1 (cs := A 18), c_X7_rests, c_X8_no (cs := A 30), mc_pi, mc_pl, mc_pT, mn_pi, mn_pl, mn_pT, mi_pi, mi_pl, mi_pT, ml_pi, ml_pl, ml_pT, mr_pi, mr_pl, mr_pT, mz_pi, mz_pl, mz_pT, mcs_0, mcs_i, mcs_r, Kn_v, Kn_0, Kn_x, mrf_some, true_and, and_true, and_false, or_false, not_true_eq_false, not_false_eq_true, false_implies, implies_true, forall_const, if_true, if_false, and_self, Nat.reduceEqDiff, Nat.reduceLeDiff, Nat.reduceSub, Nat.reduceAdd, Nat.zero_le, Nat.le_refl, i10, i01, Int32.reduceLT, Int32.reduceSub, cl1, cl2, Kc_v, Sum.inl.injEq, Option.some.injEq, Value.int.injEq, exists_eq_left', Nat.reduceLT, hAe, kc0, kc7, kc12, kc13, kc17, kc18, kc22, kc25, kc30, kc33, kc39, kn18, kn25, kn30, kr0_4, kr0_9, kr7_0, kr7_1, kr17_0, kr22_2, kr22_8, kr25_2, kz, vq3, g1, g2, Int32.reduceLT, cl1, cl2, s1, s2, i64_inj, e0, v18]
          first | refine ⟨⟨?_, ?_, ?_, ?_, ?_, ?_, ?_, ?_, ?_, ?_, ?_, ?_⟩, rfl⟩ | refine ⟨?_, ?_, ?_, ?_, ?_, ?_, ?_, ?_, ?_, ?_, ?_, ?_⟩
          · (try simp only [K_pi, K_pl])
            exact vk
          · (try simp only [Cn_pi_j18 hA, Cn_pi_j22 hA, Cn_pi_j30 hA, Cn_pl])
            exact vcn
          · (try simp only [Vq0_pi_j18 hA, Vq0_pi_j22 hA, Vq0_pi_j30 hA, Vq0_pl])
            exact v0
          · (try simp only [Vq1_pi_j18 hA, Vq1_pi_j22 hA, Vq1_pi_j30 hA, Vq1_pl])
            exact v1
          · (try simp only [Vq2_pi_j18 hA, Vq2_pi_j22 hA, Vq2_pi_j30 hA, Vq2_pl])
            exact v2
          · (try simp only [Vp_pi_j18 hA, Vp_pi_j30 hA, Vp_thr hA, Vp_pl])
            exact vp
          · (try simp only [Vl0_pi_j18 hA, Vl0_pi_j22 hA, Vl0_pi_j30 hA, Vl0_pl])
            exact vl0
          · (try simp only [Vl1_pi_j18 hA, Vl1_pi_j22 hA, Vl1_pi_j30 hA, Vl1_pl])
            exact vl1
          · (try simp only [Vlr_pi_j18 hA, Vlr_pi_j22 hA, Vlr_pi_j30 hA, Vlr_pl_j39 hA])
            exact vlr
          · (try simp only [Vsr_pi_j18 hA, Vsr_pi_j22 hA, Vsr_pi_j30 hA, Vsr_pl_j39 hA])
            exact vsr
          · refine Vc_of (c := 1) vc (by decide) (fun k => ?_) (fun k => ?_) <;> simp only [mi_pi, mi_pl, hAe, Nat.reduceLT, Nat.reduceEqDiff, false_and, true_and, if_false]
          · (try simp only [Tx_pi_j18 hA, Tx_pi_j22 hA, Tx_pi_j30 hA, Tx_pl])
            exact tx
        · obtain ⟨i1, i2, hj, hq9⟩ := (qI_2 _ hm).resolve_left e0
          simp only [cT] at i1 i2 hj
          have hj2 := hj.2.2
          simp only [o295_0, o295_1, o295_2, o295_3, o295_4, o295_7, o295_8, o295_11, o295_14, o295_16, o295_17, o295_18, o295_19, o64_0, o64_1, o64_2, o64_5, o64_6, o64_7, o64_10, o64_11, o64_14, o64_17, o64_18, o64_21, o64_22, o64_26, o64_27, o64_28, o64_29, o64_32, o64_35, o64_36, o64_39, o64_40, o64_43, o64_46, o187_0, o187_1, o187_2, o187_5, o187_8, o187_9, o187_12, o187_15, o187_16, o187_19, o187_20, o187_23, o187_26, o187_27, o187_28, o187_29, o187_32, o187_33, o187_34, o187_37, o187_40, o187_41, o187_42, o187_46, o187_47, o187_48, o187_49, o187_50, o187_53, o187_56, o187_57, o187_58, o187_59, o187_62, o187_65, hx_295_1, c_X5_checkSlot, c_X8_isSlot, c_X8_isThrown__, c_X8_isQueue, c_queueOf_2, c_X1_hasNoRest (w := A 12) (r := A 13), c_X7_rests, c_X1_comeIn (w := A 12) (r := A 13) (rw := A 1) (cs := A 3) (n := 16) (sz := 6) (ring := 0), c_X1_lying (w := A 12) (r := A 13), c_X8_comeIn (x2 := A 25) (x3 := A 26) (a := A 27) (w := A 33) (r := A 36) (lr := A 23) (sz := 6), c_X8_liesOf (x2 := A 25) (x3 := A 26) (a := A 27) (w := A 33) (r := A 36), c_X5_numberIn (rw := A 2) (cs := A 4), c_X8_numberOf (sr := A 24), c_X0_done (cs := A 18), c_X8_done (cs := A 30), mc_pi, mc_pl, mc_pT, mn_pi, mn_pl, mn_pT, mi_pi, mi_pl, mi_pT, ml_pi, ml_pl, ml_pT, mr_pi, mr_pl, mr_pT, mz_pi, mz_pl, mz_pT, mcs_0, mcs_i, mcs_r, Kn_v, Kn_0, Kn_x, mrf_some, true_and, and_true, false_and, and_false, or_false, not_true_eq_false, not_false_eq_true, false_implies, implies_true, forall_const, if_true, if_false, and_self, Nat.reduceEqDiff, Nat.reduceLeDiff, Nat.reduceSub, Nat.reduceAdd, Nat.zero_le, Nat.le_refl, i10, i01, Int32.reduceLT, cl2, Kc_v, Sum.inl.injEq, Option.some.injEq, Value.int.injEq, exists_eq_left', Nat.reduceLT, hAe, kc0, kc1, kc2, kc3, kc4, kc7, kc12, kc13, kc17, kc18, kc22, kc23, kc24, kc25, kc26, kc27, kc30, kc33, kc36, kc39, kn3, kn4, kn18, kn23, kn24, kn25, kn26, kn27, kn30, kr0_1, kr0_4, kr0_9, kr1_0, kr2_0, kr7_0, kr7_1, kr12_0, kr17_0, kr22_0, kr22_1, kr22_2, kr22_3, kr22_4, kr22_8, kr25_2, kr26_2, kz, ki7_2, ki12_1, ki12_2, ki12_3, ki13_2, ki33_0, ki33_1, ki36_1, vq3, hT, g1, g2, g7, hark, Int32.reduceLT, cl2, s1, s2, hs, vs0, vs1, vs2, vs3, i64_inj, i64_back, nm_eq, c_cW, n_cW, r_cW, z_cW, l_cW, c_mW, n_mW, r_mW, z_mW, l_mW, icw2_j18 hA, icw2_j22 hA, imw2_j22 hA, icw2_j24 hA, icw2_j30 hA, imw2_j30 hA, icw2_j27 hA, icw2_j33 hA, icw2_j36 hA, mT2_pi_j18 hA, mT2_pi_j22 hA, mT2_pl, mT2_pT, cT2_cW hA, mT2_cW hA, mT2_mW hA, e0, i1, i2, hj, hj2]
          first | refine ⟨⟨?_, ?_, ?_, ?_, ?_, ?_, ?_, ?_, ?_, ?_, ?_, ?_⟩, rfl⟩ | refine ⟨?_, ?_, ?_, ?_, ?_, ?_, ?_, ?_, ?_, ?_, ?_, ?_⟩
          · (try simp only [K_pi, K_pl, K_cW, K_mW])
            exact vk
          · (try simp only [Cn_pi_j18 hA, Cn_pi_j22 hA, Cn_pi_j30 hA, Cn_pl, Cn_cW2 hA, Cn_mW2 hA])
            exact vcn
          · (try simp only [Vq0_pi_j18 hA, Vq0_pi_j22 hA, Vq0_pi_j30 hA, Vq0_pl, Vq0_cW2 hA, Vq0_mW2 hA])
            exact v0
          · (try simp only [Vq1_pi_j18 hA, Vq1_pi_j22 hA, Vq1_pi_j30 hA, Vq1_pl, Vq1_cW2 hA, Vq1_mW2 hA])
            exact v1
          · simp only [Vq2_pi_j30 hA, Vq2_mW hA, cT2_pi_j18 hA, cT2_pi_j22 hA, cT2_pl, cT2_cW hA]
            exact ⟨trivial, hq9⟩
          · (try simp only [Vp_pi_j18 hA, Vp_pi_j30 hA, Vp_thr hA, Vp_pl, Vp_cW2 hA, Vp_mW2 hA])
            exact vp
          · (try simp only [Vl0_pi_j18 hA, Vl0_pi_j22 hA, Vl0_pi_j30 hA, Vl0_pl, Vl0_cW2 hA, Vl0_mW2 hA])
            exact vl0
          · (try simp only [Vl1_pi_j18 hA, Vl1_pi_j22 hA, Vl1_pi_j30 hA, Vl1_pl, Vl1_cW2 hA, Vl1_mW2 hA])
            exact vl1
          · refine Vlr_1 (i0 := (9 + g_i h (A 12) 4).toNatClampNeg) (x0 := nmM (g_i h (A 24) (11 + 4 * s + 0).toNatClampNeg) (g_i h (A 24) (11 + 4 * s + 1).toNatClampNeg) (g_i h (A 24) (11 + 4 * s + 2).toNatClampNeg) (g_i h (A 24) (11 + 4 * s + 3).toNatClampNeg)) vlr (fun k => ?_) (fun k => ?_) <;> simp only [l_cW, l_mW, ml_pi, ml_pl, hAe, Nat.reduceLT, Nat.reduceEqDiff, false_and, true_and, if_false]
          · (try simp only [Vsr_pi_j18 hA, Vsr_pi_j22 hA, Vsr_pi_j30 hA, Vsr_pl_j39 hA, Vsr_pl_j3 hA, Vsr_pl_j23 hA, Vsr_cW2 hA, Vsr_mW2 hA])
            exact vsr
          · refine Vc_of (c := 0) vc (by decide) (fun k => ?_) (fun k => ?_) <;> simp only [mi_pi, mi_pl, hAe, Nat.reduceLT, Nat.reduceEqDiff, false_and, true_and, if_false, icw2_j18 hA, imw2_j18 hA, icw2_j30 hA, imw2_j30 hA]
          · (try simp only [Tx_pi_j18 hA, Tx_pi_j22 hA, Tx_pi_j30 hA, Tx_pl, Tx_cW2 hA, Tx_mW2 hA])
            exact tx

theorem icx0_0 {A : Nat → Nat} {h : MH} {t : QT} (hA : inj40 A) : g_i (cW h (A 5) (A 8) (A 9) t) (A 8) 4 = t.1 := by simp only [cW, mi_pi, (hA_8_9 hA), (hA_8_5 hA), Nat.reduceEqDiff, and_true, and_false, if_true, if_false]
theorem icx0_1 {A : Nat → Nat} {h : MH} {t : QT} (hA : inj40 A) : g_i (cW h (A 5) (A 8) (A 9) t) (A 8) 5 = t.2.1 := by simp only [cW, mi_pi, (hA_8_9 hA), (hA_8_5 hA), Nat.reduceEqDiff, and_true, and_false, if_true, if_false]
theorem icx0_2 {A : Nat → Nat} {h : MH} {t : QT} (hA : inj40 A) : g_i (cW h (A 5) (A 8) (A 9) t) (A 8) 6 = t.2.2.1 := by simp only [cW, mi_pi, (hA_8_9 hA), (hA_8_5 hA), Nat.reduceEqDiff, and_true, and_false, if_true, if_false]
theorem icx0_3 {A : Nat → Nat} {h : MH} {t : QT} (hA : inj40 A) : g_i (cW h (A 5) (A 8) (A 9) t) (A 9) 4 = t.2.2.2.1 := by simp only [cW, mi_pi, (hA_9_8 hA), (hA_9_5 hA), Nat.reduceEqDiff, and_true, and_false, if_true, if_false]
theorem icx0_4 {A : Nat → Nat} {h : MH} {t : QT} (hA : inj40 A) : g_i (cW h (A 5) (A 8) (A 9) t) (A 9) 5 = t.2.2.2.2.1 := by simp only [cW, mi_pi, (hA_9_8 hA), (hA_9_5 hA), Nat.reduceEqDiff, and_true, and_false, if_true, if_false]
theorem icx0_5 {A : Nat → Nat} {h : MH} {t : QT} (hA : inj40 A) : g_i (cW h (A 5) (A 8) (A 9) t) (A 9) 6 = t.2.2.2.2.2.1 := by simp only [cW, mi_pi, (hA_9_8 hA), (hA_9_5 hA), Nat.reduceEqDiff, and_true, and_false, if_true, if_false]
theorem icx0_6 {A : Nat → Nat} {h : MH} {t : QT} (hA : inj40 A) : g_i (cW h (A 5) (A 8) (A 9) t) (A 5) 3 = t.2.2.2.2.2.2 := by simp only [cW, mi_pi, (hA_5_8 hA), (hA_5_9 hA), Nat.reduceEqDiff, and_true, and_false, if_true, if_false]
theorem imx0_0 {A : Nat → Nat} {h : MH} {t : QT} (hA : inj40 A) : g_i (mW h (A 27) 0 (A 31) (A 34) t) (A 31) 3 = t.1 := by simp only [mW, mi_pi, (hA_31_34 hA), (hA_31_27 hA), Nat.reduceEqDiff, and_true, and_false, if_true, if_false]
theorem imx0_1 {A : Nat → Nat} {h : MH} {t : QT} (hA : inj40 A) : g_i (mW h (A 27) 0 (A 31) (A 34) t) (A 31) 4 = t.2.1 := by simp only [mW, mi_pi, (hA_31_34 hA), (hA_31_27 hA), Nat.reduceEqDiff, and_true, and_false, if_true, if_false]
theorem imx0_3 {A : Nat → Nat} {h : MH} {t : QT} (hA : inj40 A) : g_i (mW h (A 27) 0 (A 31) (A 34) t) (A 34) 3 = t.2.2.2.1 := by simp only [mW, mi_pi, (hA_34_31 hA), (hA_34_27 hA), Nat.reduceEqDiff, and_true, and_false, if_true, if_false]
theorem imx0_4 {A : Nat → Nat} {h : MH} {t : QT} (hA : inj40 A) : g_i (mW h (A 27) 0 (A 31) (A 34) t) (A 34) 4 = t.2.2.2.2.1 := by simp only [mW, mi_pi, (hA_34_31 hA), (hA_34_27 hA), Nat.reduceEqDiff, and_true, and_false, if_true, if_false]
theorem imx0_5 {A : Nat → Nat} {h : MH} {t : QT} (hA : inj40 A) : g_i (mW h (A 27) 0 (A 31) (A 34) t) (A 34) 5 = t.2.2.2.2.2.1 := by simp only [mW, mi_pi, (hA_34_31 hA), (hA_34_27 hA), Nat.reduceEqDiff, and_true, and_false, if_true, if_false]
theorem imx0_6 {A : Nat → Nat} {h : MH} {t : QT} (hA : inj40 A) : g_i (mW h (A 27) 0 (A 31) (A 34) t) (A 27) 0 = t.2.2.2.2.2.2 := by simp only [mW, mi_pi, (hA_27_31 hA), (hA_27_34 hA), Nat.reduceEqDiff, and_true, and_false, if_true, if_false]
theorem icx1_0 {A : Nat → Nat} {h : MH} {t : QT} (hA : inj40 A) : g_i (cW h (A 6) (A 10) (A 11) t) (A 10) 4 = t.1 := by simp only [cW, mi_pi, (hA_10_11 hA), (hA_10_6 hA), Nat.reduceEqDiff, and_true, and_false, if_true, if_false]
theorem icx1_1 {A : Nat → Nat} {h : MH} {t : QT} (hA : inj40 A) : g_i (cW h (A 6) (A 10) (A 11) t) (A 10) 5 = t.2.1 := by simp only [cW, mi_pi, (hA_10_11 hA), (hA_10_6 hA), Nat.reduceEqDiff, and_true, and_false, if_true, if_false]
theorem icx1_2 {A : Nat → Nat} {h : MH} {t : QT} (hA : inj40 A) : g_i (cW h (A 6) (A 10) (A 11) t) (A 10) 6 = t.2.2.1 := by simp only [cW, mi_pi, (hA_10_11 hA), (hA_10_6 hA), Nat.reduceEqDiff, and_true, and_false, if_true, if_false]
theorem icx1_3 {A : Nat → Nat} {h : MH} {t : QT} (hA : inj40 A) : g_i (cW h (A 6) (A 10) (A 11) t) (A 11) 4 = t.2.2.2.1 := by simp only [cW, mi_pi, (hA_11_10 hA), (hA_11_6 hA), Nat.reduceEqDiff, and_true, and_false, if_true, if_false]
theorem icx1_4 {A : Nat → Nat} {h : MH} {t : QT} (hA : inj40 A) : g_i (cW h (A 6) (A 10) (A 11) t) (A 11) 5 = t.2.2.2.2.1 := by simp only [cW, mi_pi, (hA_11_10 hA), (hA_11_6 hA), Nat.reduceEqDiff, and_true, and_false, if_true, if_false]
theorem icx1_5 {A : Nat → Nat} {h : MH} {t : QT} (hA : inj40 A) : g_i (cW h (A 6) (A 10) (A 11) t) (A 11) 6 = t.2.2.2.2.2.1 := by simp only [cW, mi_pi, (hA_11_10 hA), (hA_11_6 hA), Nat.reduceEqDiff, and_true, and_false, if_true, if_false]
theorem icx1_6 {A : Nat → Nat} {h : MH} {t : QT} (hA : inj40 A) : g_i (cW h (A 6) (A 10) (A 11) t) (A 6) 3 = t.2.2.2.2.2.2 := by simp only [cW, mi_pi, (hA_6_10 hA), (hA_6_11 hA), Nat.reduceEqDiff, and_true, and_false, if_true, if_false]
theorem imx1_0 {A : Nat → Nat} {h : MH} {t : QT} (hA : inj40 A) : g_i (mW h (A 27) 1 (A 32) (A 35) t) (A 32) 3 = t.1 := by simp only [mW, mi_pi, (hA_32_35 hA), (hA_32_27 hA), Nat.reduceEqDiff, and_true, and_false, if_true, if_false]
theorem imx1_1 {A : Nat → Nat} {h : MH} {t : QT} (hA : inj40 A) : g_i (mW h (A 27) 1 (A 32) (A 35) t) (A 32) 4 = t.2.1 := by simp only [mW, mi_pi, (hA_32_35 hA), (hA_32_27 hA), Nat.reduceEqDiff, and_true, and_false, if_true, if_false]
theorem imx1_3 {A : Nat → Nat} {h : MH} {t : QT} (hA : inj40 A) : g_i (mW h (A 27) 1 (A 32) (A 35) t) (A 35) 3 = t.2.2.2.1 := by simp only [mW, mi_pi, (hA_35_32 hA), (hA_35_27 hA), Nat.reduceEqDiff, and_true, and_false, if_true, if_false]
theorem imx1_4 {A : Nat → Nat} {h : MH} {t : QT} (hA : inj40 A) : g_i (mW h (A 27) 1 (A 32) (A 35) t) (A 35) 4 = t.2.2.2.2.1 := by simp only [mW, mi_pi, (hA_35_32 hA), (hA_35_27 hA), Nat.reduceEqDiff, and_true, and_false, if_true, if_false]
theorem imx1_5 {A : Nat → Nat} {h : MH} {t : QT} (hA : inj40 A) : g_i (mW h (A 27) 1 (A 32) (A 35) t) (A 35) 5 = t.2.2.2.2.2.1 := by simp only [mW, mi_pi, (hA_35_32 hA), (hA_35_27 hA), Nat.reduceEqDiff, and_true, and_false, if_true, if_false]
theorem imx1_6 {A : Nat → Nat} {h : MH} {t : QT} (hA : inj40 A) : g_i (mW h (A 27) 1 (A 32) (A 35) t) (A 27) 1 = t.2.2.2.2.2.2 := by simp only [mW, mi_pi, (hA_27_32 hA), (hA_27_35 hA), Nat.reduceEqDiff, and_true, and_false, if_true, if_false]
theorem icx2_0 {A : Nat → Nat} {h : MH} {t : QT} (hA : inj40 A) : g_i (cW h (A 7) (A 12) (A 13) t) (A 12) 4 = t.1 := by simp only [cW, mi_pi, (hA_12_13 hA), (hA_12_7 hA), Nat.reduceEqDiff, and_true, and_false, if_true, if_false]
theorem icx2_1 {A : Nat → Nat} {h : MH} {t : QT} (hA : inj40 A) : g_i (cW h (A 7) (A 12) (A 13) t) (A 12) 5 = t.2.1 := by simp only [cW, mi_pi, (hA_12_13 hA), (hA_12_7 hA), Nat.reduceEqDiff, and_true, and_false, if_true, if_false]
theorem icx2_2 {A : Nat → Nat} {h : MH} {t : QT} (hA : inj40 A) : g_i (cW h (A 7) (A 12) (A 13) t) (A 12) 6 = t.2.2.1 := by simp only [cW, mi_pi, (hA_12_13 hA), (hA_12_7 hA), Nat.reduceEqDiff, and_true, and_false, if_true, if_false]
theorem icx2_3 {A : Nat → Nat} {h : MH} {t : QT} (hA : inj40 A) : g_i (cW h (A 7) (A 12) (A 13) t) (A 13) 4 = t.2.2.2.1 := by simp only [cW, mi_pi, (hA_13_12 hA), (hA_13_7 hA), Nat.reduceEqDiff, and_true, and_false, if_true, if_false]
theorem icx2_4 {A : Nat → Nat} {h : MH} {t : QT} (hA : inj40 A) : g_i (cW h (A 7) (A 12) (A 13) t) (A 13) 5 = t.2.2.2.2.1 := by simp only [cW, mi_pi, (hA_13_12 hA), (hA_13_7 hA), Nat.reduceEqDiff, and_true, and_false, if_true, if_false]
theorem icx2_5 {A : Nat → Nat} {h : MH} {t : QT} (hA : inj40 A) : g_i (cW h (A 7) (A 12) (A 13) t) (A 13) 6 = t.2.2.2.2.2.1 := by simp only [cW, mi_pi, (hA_13_12 hA), (hA_13_7 hA), Nat.reduceEqDiff, and_true, and_false, if_true, if_false]
theorem icx2_6 {A : Nat → Nat} {h : MH} {t : QT} (hA : inj40 A) : g_i (cW h (A 7) (A 12) (A 13) t) (A 7) 3 = t.2.2.2.2.2.2 := by simp only [cW, mi_pi, (hA_7_12 hA), (hA_7_13 hA), Nat.reduceEqDiff, and_true, and_false, if_true, if_false]
theorem imx2_0 {A : Nat → Nat} {h : MH} {t : QT} (hA : inj40 A) : g_i (mW h (A 27) 2 (A 33) (A 36) t) (A 33) 3 = t.1 := by simp only [mW, mi_pi, (hA_33_36 hA), (hA_33_27 hA), Nat.reduceEqDiff, and_true, and_false, if_true, if_false]
theorem imx2_1 {A : Nat → Nat} {h : MH} {t : QT} (hA : inj40 A) : g_i (mW h (A 27) 2 (A 33) (A 36) t) (A 33) 4 = t.2.1 := by simp only [mW, mi_pi, (hA_33_36 hA), (hA_33_27 hA), Nat.reduceEqDiff, and_true, and_false, if_true, if_false]
theorem imx2_3 {A : Nat → Nat} {h : MH} {t : QT} (hA : inj40 A) : g_i (mW h (A 27) 2 (A 33) (A 36) t) (A 36) 3 = t.2.2.2.1 := by simp only [mW, mi_pi, (hA_36_33 hA), (hA_36_27 hA), Nat.reduceEqDiff, and_true, and_false, if_true, if_false]
theorem imx2_4 {A : Nat → Nat} {h : MH} {t : QT} (hA : inj40 A) : g_i (mW h (A 27) 2 (A 33) (A 36) t) (A 36) 4 = t.2.2.2.2.1 := by simp only [mW, mi_pi, (hA_36_33 hA), (hA_36_27 hA), Nat.reduceEqDiff, and_true, and_false, if_true, if_false]
theorem imx2_5 {A : Nat → Nat} {h : MH} {t : QT} (hA : inj40 A) : g_i (mW h (A 27) 2 (A 33) (A 36) t) (A 36) 5 = t.2.2.2.2.2.1 := by simp only [mW, mi_pi, (hA_36_33 hA), (hA_36_27 hA), Nat.reduceEqDiff, and_true, and_false, if_true, if_false]
theorem imx2_6 {A : Nat → Nat} {h : MH} {t : QT} (hA : inj40 A) : g_i (mW h (A 27) 2 (A 33) (A 36) t) (A 27) 2 = t.2.2.2.2.2.2 := by simp only [mW, mi_pi, (hA_27_33 hA), (hA_27_36 hA), Nat.reduceEqDiff, and_true, and_false, if_true, if_false]
theorem hx_296_1 {l rest : List Value} {bc bs : Nat} {Q : MR → MH → Prop} {h : MH} : Kc Ok 296 4 7 l rest bc bs Q (.inr 1) h ↔ ∀ q : Nat, Ok 296 14 l [.ref q] h bc bs Q := Kc_x (by decide +kernel) (by decide +kernel)
theorem op_take {A : Nat → Nat} {h : MH} (R : Rl A h) {q s : Int32} : Ok 296 0 [.ref (A 0), .int q, .int s, .ref (A 39), mk0] [] h 2 12 (fun r h1 => ∃ k : Int32, r = .inl (some (.int k)) ∧ g_c h1 (A 22) = 9 ∧ Ok 188 0 [.ref (A 22), .int q, .int s] [] h1 0 0 (fun r2 h2 => ∃ b : Int32, r2 = .inl (some (.int b)) ∧ Rl A h2 ∧ g_i h2 (A 22) 9 = k ∧ (k = 0 → g_l h2 (A 39) 0 = b.toInt64))) := by
  obtain ⟨vk, vcn, v0, v1, v2, vp, vl0, vl1, vlr, vsr, vc, tx⟩ := R
  have vk0 := vk
  have vcn0 := vcn
  (refine K_el vk0 ?_; intros hA kc0 kc1 kc2 kc3 kc4 kc5 kc6 kc7 kc8 kc9 kc10 kc11 kc12 kc13 kc14 kc15 kc16 kc17 kc18 kc19 kc20 kc21 kc22 kc23 kc24 kc25 kc26 kc27 kc28 kc29 kc30 kc31 kc32 kc33 kc34 kc35 kc36 kc37 kc38 kc39 kz kt kn3 kn4 kn18 kn21 kn23 kn24 kn25 kn26 kn27 kn29 kn30 kr0_0 kr0_1 kr0_2 kr0_3 kr0_4 kr0_5 kr0_7 kr0_8 kr0_9 kr0_10 kr1_0 kr2_0 kr5_0 kr5_1 kr6_0 kr6_1 kr7_0 kr7_1 kr8_0 kr9_0 kr10_0 kr11_0 kr12_0 kr13_0 kr14_0 kr15_0 kr16_0 kr17_0 kr19_0 kr19_1 kr22_0 kr22_1 kr22_2 kr22_3 kr22_4 kr22_5 kr22_7 kr22_8 kr25_0 kr25_1 kr25_2 kr26_0 kr26_1 kr26_2 kr29_0 kr29_1)
  (refine Cn_el vcn0 ?_; intros ki5_2 ki6_2 ki7_2 ki8_1 ki8_2 ki8_3 ki9_1 ki9_2 ki9_3 ki10_1 ki10_2 ki10_3 ki11_1 ki11_2 ki11_3 ki12_1 ki12_2 ki12_3 ki13_1 ki13_2 ki13_3 ki14_1 ki14_2 ki14_3 ki28_0 ki28_1 ki31_0 ki31_1 ki32_0 ki32_1 ki33_0 ki33_1 ki34_0 ki34_1 ki35_0 ki35_1 ki36_0 ki36_1)
  have hAe : ∀ i j, i < 40 → j < 40 → (A i = A j ↔ i = j) := hA
  by_cases bq : q < 0 ∨ ¬ q < 3
  · have bq2 : (¬ q < 0 ∧ q < 3) = False := nrng bq
    by_cases bs : (¬ s < 0 ∧ s < 6)
    all_goals
      simp only [o296_0, o296_1, o296_2, o296_3, o296_4, o296_14, o296_16, o296_17, o65_0, o65_1, o65_2, o188_0, o188_1, o188_2, o188_5, o188_8, o188_9, o188_12, o188_15, o188_16, o188_19, o188_20, o188_23, o188_26, o188_27, o188_28, o188_29, o188_32, o188_33, hx_296_1, c_X8_isSlot, c_X8_isThrown__, c_X8_isQueue, c_queueOf_bad, mc_pi, mc_pT, mn_pi, mn_pT, mi_pi, mi_pT, ml_pi, ml_pT, mr_pi, mr_pT, mz_pT, mcs_0, mcs_r, Kn_v, Kn_x, mrf_some, true_and, and_true, not_true_eq_false, not_false_eq_true, false_implies, forall_const, if_true, if_false, and_self, Nat.reduceLeDiff, Nat.reduceSub, Nat.reduceAdd, Nat.zero_le, Nat.le_refl, i10, Sum.inl.injEq, Option.some.injEq, Value.int.injEq, exists_eq_left', Nat.reduceLT, kc0, kc22, kc26, kn26, kr22_3, kz, bq, bq2, bs]
      intro t ht
      first | refine ⟨⟨?_, ?_, ?_, ?_, ?_, ?_, ?_, ?_, ?_, ?_, ?_, ?_⟩, rfl⟩ | refine ⟨?_, ?_, ?_, ?_, ?_, ?_, ?_, ?_, ?_, ?_, ?_, ?_⟩
      · (try simp only [K_pi])
        exact K_pT ht vk
      · (try simp only [Cn_pi_j22 hA, Cn_pT])
        exact vcn
      · (try simp only [Vq0_pi_j22 hA, Vq0_pT])
        exact v0
      · (try simp only [Vq1_pi_j22 hA, Vq1_pT])
        exact v1
      · (try simp only [Vq2_pi_j22 hA, Vq2_pT])
        exact v2
      · (try simp only [Vp_thr hA, Vp_pT])
        exact vp
      · (try simp only [Vl0_pi_j22 hA, Vl0_pT])
        exact vl0
      · (try simp only [Vl1_pi_j22 hA, Vl1_pT])
        exact vl1
      · (try simp only [Vlr_pi_j22 hA, Vlr_pT])
        exact vlr
      · (try simp only [Vsr_pi_j22 hA, Vsr_pT])
        exact vsr
      · (try simp only [Vc_pi_j22 hA, Vc_pT])
        exact vc
      · (try simp only [Tx_pi_j22 hA])
        exact Tx_pT ht tx
  · have y1 : ¬ q < 0 := fun z => bq (Or.inl z)
    have y2 : q < 3 := Classical.byContradiction fun z => bq (Or.inr z)
    have bq2 : (¬ q < 0 ∧ q < 3) = True := eq_true ⟨y1, y2⟩
    by_cases bs : s < 0 ∨ ¬ s < 6
    · have bs2 : (¬ s < 0 ∧ s < 6) = False := nrng bs
      rcases q_cases y1 y2 with rfl | rfl | rfl
      · skip
        simp only [o296_0, o296_1, o296_2, o296_3, o296_4, o296_14, o296_16, o296_17, o65_0, o65_1, o65_2, o65_5, o65_6, o65_7, o65_10, o65_11, o188_0, o188_1, o188_2, o188_5, o188_8, o188_9, o188_12, o188_15, o188_16, o188_19, o188_20, o188_23, o188_26, o188_27, o188_28, o188_29, o188_32, o188_33, o188_34, hx_296_1, c_X5_checkSlot, c_X8_isSlot, c_X8_isThrown__, c_X8_isQueue, c_queueOf_0, mc_pi, mc_pT, mn_pi, mn_pT, mi_pi, mi_pT, ml_pi, ml_pT, mr_pi, mr_pT, mz_pT, mcs_0, mcs_r, Kn_v, Kn_0, Kn_x, mrf_some, true_and, and_true, not_true_eq_false, not_false_eq_true, false_implies, forall_const, if_true, if_false, and_self, Nat.reduceLeDiff, Nat.reduceSub, Nat.reduceAdd, Nat.zero_le, Nat.le_refl, i10, Int32.reduceLT, cl0, Sum.inl.injEq, Option.some.injEq, Value.int.injEq, exists_eq_left', Nat.reduceLT, kc0, kc5, kc22, kc26, kc34, kn26, kr0_2, kr22_3, kr26_0, kz, vq3, bs, bs2]
        intro t ht
        first | refine ⟨⟨?_, ?_, ?_, ?_, ?_, ?_, ?_, ?_, ?_, ?_, ?_, ?_⟩, rfl⟩ | refine ⟨?_, ?_, ?_, ?_, ?_, ?_, ?_, ?_, ?_, ?_, ?_, ?_⟩
        · (try simp only [K_pi])
          exact K_pT ht vk
        · (try simp only [Cn_pi_j22 hA, Cn_pT])
          exact vcn
        · (try simp only [Vq0_pi_j22 hA, Vq0_pT])
          exact v0
        · (try simp only [Vq1_pi_j22 hA, Vq1_pT])
          exact v1
        · (try simp only [Vq2_pi_j22 hA, Vq2_pT])
          exact v2
        · (try simp only [Vp_thr hA, Vp_pT])
          exact vp
        · (try simp only [Vl0_pi_j22 hA, Vl0_pT])
          exact vl0
        · (try simp only [Vl1_pi_j22 hA, Vl1_pT])
          exact vl1
        · (try simp only [Vlr_pi_j22 hA, Vlr_pT])
          exact vlr
        · (try simp only [Vsr_pi_j22 hA, Vsr_pT])
          exact vsr
        · (try simp only [Vc_pi_j22 hA, Vc_pT])
          exact vc
        · (try simp only [Tx_pi_j22 hA])
          exact Tx_pT ht tx
      · skip
        simp only [o296_0, o296_1, o296_2, o296_3, o296_4, o296_14, o296_16, o296_17, o65_0, o65_1, o65_2, o65_5, o65_6, o65_7, o65_10, o65_11, o188_0, o188_1, o188_2, o188_5, o188_8, o188_9, o188_12, o188_15, o188_16, o188_19, o188_20, o188_23, o188_26, o188_27, o188_28, o188_29, o188_32, o188_33, o188_34, hx_296_1, c_X5_checkSlot, c_X8_isSlot, c_X8_isThrown__, c_X8_isQueue, c_queueOf_1, mc_pi, mc_pT, mn_pi, mn_pT, mi_pi, mi_pT, ml_pi, ml_pT, mr_pi, mr_pT, mz_pT, mcs_0, mcs_r, Kn_v, Kn_0, Kn_x, mrf_some, true_and, and_true, not_true_eq_false, not_false_eq_true, false_implies, forall_const, if_true, if_false, and_self, Nat.reduceLeDiff, Nat.reduceSub, Nat.reduceAdd, Nat.zero_le, Nat.le_refl, i10, Int32.reduceLT, cl1, Sum.inl.injEq, Option.some.injEq, Value.int.injEq, exists_eq_left', Nat.reduceLT, kc0, kc6, kc22, kc26, kc35, kn26, kr0_3, kr22_3, kr26_1, kz, vq3, bs, bs2]
        intro t ht
        first | refine ⟨⟨?_, ?_, ?_, ?_, ?_, ?_, ?_, ?_, ?_, ?_, ?_, ?_⟩, rfl⟩ | refine ⟨?_, ?_, ?_, ?_, ?_, ?_, ?_, ?_, ?_, ?_, ?_, ?_⟩
        · (try simp only [K_pi])
          exact K_pT ht vk
        · (try simp only [Cn_pi_j22 hA, Cn_pT])
          exact vcn
        · (try simp only [Vq0_pi_j22 hA, Vq0_pT])
          exact v0
        · (try simp only [Vq1_pi_j22 hA, Vq1_pT])
          exact v1
        · (try simp only [Vq2_pi_j22 hA, Vq2_pT])
          exact v2
        · (try simp only [Vp_thr hA, Vp_pT])
          exact vp
        · (try simp only [Vl0_pi_j22 hA, Vl0_pT])
          exact vl0
        · (try simp only [Vl1_pi_j22 hA, Vl1_pT])
          exact vl1
        · (try simp only [Vlr_pi_j22 hA, Vlr_pT])
          exact vlr
        · (try simp only [Vsr_pi_j22 hA, Vsr_pT])
          exact vsr
        · (try simp only [Vc_pi_j22 hA, Vc_pT])
          exact vc
        · (try simp only [Tx_pi_j22 hA])
          exact Tx_pT ht tx
      · skip
        simp only [o296_0, o296_1, o296_2, o296_3, o296_4, o296_14, o296_16, o296_17, o65_0, o65_1, o65_2, o65_5, o65_6, o65_7, o65_10, o65_11, o188_0, o188_1, o188_2, o188_5, o188_8, o188_9, o188_12, o188_15, o188_16, o188_19, o188_20, o188_23, o188_26, o188_27, o188_28, o188_29, o188_32, o188_33, o188_34, hx_296_1, c_X5_checkSlot, c_X8_isSlot, c_X8_isThrown__, c_X8_isQueue, c_queueOf_2, mc_pi, mc_pT, mn_pi, mn_pT, mi_pi, mi_pT, ml_pi, ml_pT, mr_pi, mr_pT, mz_pT, mcs_0, mcs_r, Kn_v, Kn_0, Kn_x, mrf_some, true_and, and_true, not_true_eq_false, not_false_eq_true, false_implies, forall_const, if_true, if_false, and_self, Nat.reduceLeDiff, Nat.reduceSub, Nat.reduceAdd, Nat.zero_le, Nat.le_refl, i10, Int32.reduceLT, cl2, Sum.inl.injEq, Option.some.injEq, Value.int.injEq, exists_eq_left', Nat.reduceLT, kc0, kc7, kc22, kc26, kc36, kn26, kr0_4, kr22_3, kr26_2, kz, vq3, bs, bs2]
        intro t ht
        first | refine ⟨⟨?_, ?_, ?_, ?_, ?_, ?_, ?_, ?_, ?_, ?_, ?_, ?_⟩, rfl⟩ | refine ⟨?_, ?_, ?_, ?_, ?_, ?_, ?_, ?_, ?_, ?_, ?_, ?_⟩
        · (try simp only [K_pi])
          exact K_pT ht vk
        · (try simp only [Cn_pi_j22 hA, Cn_pT])
          exact vcn
        · (try simp only [Vq0_pi_j22 hA, Vq0_pT])
          exact v0
        · (try simp only [Vq1_pi_j22 hA, Vq1_pT])
          exact v1
        · (try simp only [Vq2_pi_j22 hA, Vq2_pT])
          exact v2
        · (try simp only [Vp_thr hA, Vp_pT])
          exact vp
        · (try simp only [Vl0_pi_j22 hA, Vl0_pT])
          exact vl0
        · (try simp only [Vl1_pi_j22 hA, Vl1_pT])
          exact vl1
        · (try simp only [Vlr_pi_j22 hA, Vlr_pT])
          exact vlr
        · (try simp only [Vsr_pi_j22 hA, Vsr_pT])
          exact vsr
        · (try simp only [Vc_pi_j22 hA, Vc_pT])
          exact vc
        · (try simp only [Tx_pi_j22 hA])
          exact Tx_pT ht tx
    · have s1 : ¬ s < 0 := fun z => bs (Or.inl z)
      have s2 : s < 6 := Classical.byContradiction fun z => bs (Or.inr z)
      have hs := ix_ok s1 s2
      have hs2 := hs
      obtain ⟨⟨j0, j1, j2, j3⟩, d01, d02, d03, d10, d12, d13, d20, d21, d23, d30, d31, d32⟩ := hs2
      obtain ⟨l0, l1, l2, l3⟩ := ix_lt hs
      have vs0 := (vsr _ l0).1
      have vs1 := (vsr _ l1).1
      have vs2 := (vsr _ l2).1
      have vs3 := (vsr _ l3).1
      have bs2 : (¬ s < 0 ∧ s < 6) = True := eq_true ⟨s1, s2⟩
      rcases q_cases y1 y2 with rfl | rfl | rfl
      · have he := v0.1
        have hm := v0.2
        have hT : mT h (A 27) 0 (A 31) (A 34) = cT h (A 5) (A 8) (A 9) := he.symm
        have he2 := he
        simp only [cT, mT, Prod.mk.injEq] at he2
        obtain ⟨g1, g2, g3, g4, g5, g6, g7⟩ := he2
        replace g1 := g1.symm
        replace g2 := g2.symm
        replace g3 := g3.symm
        replace g4 := g4.symm
        replace g5 := g5.symm
        replace g6 := g6.symm
        replace g7 := g7.symm
        obtain ⟨hmk, har, hl0, hl9⟩ := qA_0 _ hm
        have hark : arok 0 (g_i h (A 5) 3) := fun z => absurd (by decide) z
        have n1 : ¬ A 8 = A 9 := fun z => absurd ((hAe 8 9 (by decide) (by decide)).mp z) (by decide)
        by_cases e0 : g_i h (A 9) 5 - g_i h (A 9) 4 = 0
        · skip
          simp only [o296_0, o296_1, o296_2, o296_3, o296_4, o296_7, o296_8, o296_11, o296_14, o296_16, o296_17, o296_18, o296_19, o65_0, o65_1, o65_2, o65_5, o65_6, o65_7, o65_10, o65_11, o65_14, o65_17, o65_18, o65_21, o65_22, o65_25, o65_26, o65_27, o65_28, o65_29, o188_0, o188_1, o188_2, o188_5, o188_8, o188_9, o188_12, o188_15, o188_16, o188_19, o188_20, o188_23, o188_26, o188_27, o188_28, o188_29, o188_32, o188_33, o188_34, o188_37, o188_40, o188_41, o188_42, o188_45, o188_46, o188_47, o188_48, o188_49, o188_50, hx_296_1, c_X5_checkSlot, c_X8_isSlot, c_X8_isThrown__, c_X8_isQueue, c_queueOf_0, c_X1_hasNone (w := A 8) (r := A 9), c_ref_2 (cs := A 18), c_X7_rests, c_X8_no (cs := A 30), mc_pi, mc_pl, mc_pT, mn_pi, mn_pl, mn_pT, mi_pi, mi_pl, mi_pT, ml_pi, ml_pl, ml_pT, mr_pi, mr_pl, mr_pT, mz_pi, mz_pl, mz_pT, mcs_0, mcs_i, mcs_r, Kn_v, Kn_0, Kn_x, mrf_some, true_and, and_true, and_false, or_false, not_true_eq_false, not_false_eq_true, false_implies, implies_true, forall_const, if_true, if_false, and_self, Nat.reduceEqDiff, Nat.reduceLeDiff, Nat.reduceSub, Nat.reduceAdd, Nat.zero_le, Nat.le_refl, i10, i01, Int32.reduceLT, Int32.reduceSub, cl0, cl2, Kc_v, Sum.inl.injEq, Option.some.injEq, Value.int.injEq, exists_eq_left', Nat.reduceLT, hAe, kc0, kc5, kc8, kc9, kc17, kc18, kc22, kc26, kc30, kc34, kc39, kn18, kn26, kn30, kr0_2, kr0_9, kr5_0, kr5_1, kr17_0, kr22_3, kr22_8, kr26_0, kz, vq3, g4, g5, Int32.reduceLT, cl0, cl2, s1, s2, i64_inj, e0, v18]
          first | refine ⟨⟨?_, ?_, ?_, ?_, ?_, ?_, ?_, ?_, ?_, ?_, ?_, ?_⟩, rfl⟩ | refine ⟨?_, ?_, ?_, ?_, ?_, ?_, ?_, ?_, ?_, ?_, ?_, ?_⟩
          · (try simp only [K_pi, K_pl])
            exact vk
          · (try simp only [Cn_pi_j18 hA, Cn_pi_j22 hA, Cn_pi_j30 hA, Cn_pl])
            exact vcn
          · (try simp only [Vq0_pi_j18 hA, Vq0_pi_j22 hA, Vq0_pi_j30 hA, Vq0_pl])
            exact v0
          · (try simp only [Vq1_pi_j18 hA, Vq1_pi_j22 hA, Vq1_pi_j30 hA, Vq1_pl])
            exact v1
          · (try simp only [Vq2_pi_j18 hA, Vq2_pi_j22 hA, Vq2_pi_j30 hA, Vq2_pl])
            exact v2
          · (try simp only [Vp_pi_j18 hA, Vp_pi_j30 hA, Vp_thr hA, Vp_pl])
            exact vp
          · (try simp only [Vl0_pi_j18 hA, Vl0_pi_j22 hA, Vl0_pi_j30 hA, Vl0_pl])
            exact vl0
          · (try simp only [Vl1_pi_j18 hA, Vl1_pi_j22 hA, Vl1_pi_j30 hA, Vl1_pl])
            exact vl1
          · (try simp only [Vlr_pi_j18 hA, Vlr_pi_j22 hA, Vlr_pi_j30 hA, Vlr_pl_j39 hA])
            exact vlr
          · (try simp only [Vsr_pi_j18 hA, Vsr_pi_j22 hA, Vsr_pi_j30 hA, Vsr_pl_j39 hA])
            exact vsr
          · refine Vc_of (c := 2) vc (by decide) (fun k => ?_) (fun k => ?_) <;> simp only [mi_pi, mi_pl, hAe, Nat.reduceLT, Nat.reduceEqDiff, false_and, true_and, if_false]
          · (try simp only [Tx_pi_j18 hA, Tx_pi_j22 hA, Tx_pi_j30 hA, Tx_pl])
            exact tx
        · obtain ⟨i1, i2, hj, hq9⟩ := (qO_0 _ hm).resolve_left e0
          simp only [cT] at i1 i2 hj
          have hj2 := hj.2.2
          have vlk := (vlr _ (rdy_lt hj)).symm
          simp only [o296_0, o296_1, o296_2, o296_3, o296_4, o296_7, o296_8, o296_11, o296_14, o296_16, o296_17, o296_18, o296_19, o65_0, o65_1, o65_2, o65_5, o65_6, o65_7, o65_10, o65_11, o65_14, o65_17, o65_18, o65_21, o65_22, o65_26, o65_27, o65_28, o65_29, o65_32, o65_35, o65_36, o65_37, o65_40, o65_41, o65_44, o65_47, o188_0, o188_1, o188_2, o188_5, o188_8, o188_9, o188_12, o188_15, o188_16, o188_19, o188_20, o188_23, o188_26, o188_27, o188_28, o188_29, o188_32, o188_33, o188_34, o188_37, o188_40, o188_41, o188_42, o188_46, o188_47, o188_48, o188_49, o188_50, o188_53, o188_56, o188_57, o188_58, o188_59, o188_60, o188_63, o188_66, hx_296_1, c_X5_checkSlot, c_X8_isSlot, c_X8_isThrown__, c_X8_isQueue, c_queueOf_0, c_X1_hasNone (w := A 8) (r := A 9), c_X7_rests, c_X1_goOut (w := A 8) (r := A 9) (rw := A 1) (cs := A 3) (n := 16) (sz := 5) (ring := 1), c_X1_lying (w := A 8) (r := A 9), c_X8_goOut (x2 := A 25) (x3 := A 26) (a := A 27) (w := A 31) (r := A 34) (lr := A 23) (sz := 5), c_X8_liesOf (x2 := A 25) (x3 := A 26) (a := A 27) (w := A 31) (r := A 34), c_X5_layNumber (rw := A 2) (cs := A 4), c_X8_laid (sr := A 24), c_X0_done (cs := A 18), c_X8_done (cs := A 30), mc_pi, mc_pl, mc_pT, mn_pi, mn_pl, mn_pT, mi_pi, mi_pl, mi_pT, ml_pi, ml_pl, ml_pT, mr_pi, mr_pl, mr_pT, mz_pi, mz_pl, mz_pT, mcs_0, mcs_i, mcs_r, Kn_v, Kn_0, Kn_x, mrf_some, true_and, and_true, false_and, and_false, or_false, not_true_eq_false, not_false_eq_true, false_implies, implies_true, forall_const, if_true, if_false, and_self, Nat.reduceEqDiff, Nat.reduceLeDiff, Nat.reduceSub, Nat.reduceAdd, Nat.zero_le, Nat.le_refl, i10, i01, Int32.reduceLT, cl0, Kc_v, Sum.inl.injEq, Option.some.injEq, Value.int.injEq, exists_eq_left', Nat.reduceLT, hAe, kc0, kc1, kc2, kc3, kc4, kc5, kc8, kc9, kc17, kc18, kc22, kc23, kc24, kc25, kc26, kc27, kc30, kc31, kc34, kc39, kn3, kn4, kn18, kn23, kn24, kn25, kn26, kn27, kn30, kr0_1, kr0_2, kr0_9, kr1_0, kr2_0, kr5_0, kr5_1, kr9_0, kr17_0, kr22_0, kr22_1, kr22_2, kr22_3, kr22_4, kr22_8, kr25_0, kr26_0, kz, ki5_2, ki8_2, ki9_1, ki9_2, ki31_1, ki34_0, ki34_1, vq3, hT, g4, g5, g7, hark, Int32.reduceLT, cl0, s1, s2, hs, vs0, vs1, vs2, vs3, i64_inj, fo0, fo1, fo2, fo3, c_cW, n_cW, r_cW, z_cW, l_cW, c_mW, n_mW, r_mW, z_mW, l_mW, icw0_j18 hA, icw0_j22 hA, imw0_j22 hA, icw0_j24 hA, imw0_j24 hA, icw0_j30 hA, imw0_j30 hA, icw0_j27 hA, icw0_j31 hA, icw0_j34 hA, mT0_pi_j18 hA, mT0_pi_j22 hA, mT0_pi_j24 hA, cT0_pl, mT0_pl, mT0_pT, cT0_cW hA, mT0_cW hA, mT0_mW hA, e0, i1, i2, hj, hj2, vlk]
          first | refine ⟨⟨?_, ?_, ?_, ?_, ?_, ?_, ?_, ?_, ?_, ?_, ?_, ?_⟩, rfl⟩ | refine ⟨?_, ?_, ?_, ?_, ?_, ?_, ?_, ?_, ?_, ?_, ?_, ?_⟩
          · (try simp only [K_pi, K_pl, K_cW, K_mW])
            exact vk
          · (try simp only [Cn_pi_j18 hA, Cn_pi_j22 hA, Cn_pi_j30 hA, Cn_pi_j24 hA, Cn_pl, Cn_cW0 hA, Cn_mW0 hA])
            exact vcn
          · simp only [Vq0_pi_j30 hA, Vq0_pi_j24 hA, Vq0_mW hA, cT0_pi_j18 hA, cT0_pi_j22 hA, cT0_pl, cT0_cW hA]
            exact ⟨trivial, hq9⟩
          · (try simp only [Vq1_pi_j18 hA, Vq1_pi_j22 hA, Vq1_pi_j30 hA, Vq1_pi_j24 hA, Vq1_pl, Vq1_cW0 hA, Vq1_mW0 hA])
            exact v1
          · (try simp only [Vq2_pi_j18 hA, Vq2_pi_j22 hA, Vq2_pi_j30 hA, Vq2_pi_j24 hA, Vq2_pl, Vq2_cW0 hA, Vq2_mW0 hA])
            exact v2
          · (try simp only [Vp_pi_j18 hA, Vp_pi_j30 hA, Vp_pi_j24 hA, Vp_thr hA, Vp_pl, Vp_cW0 hA, Vp_mW0 hA])
            exact vp
          · (try simp only [Vl0_pi_j18 hA, Vl0_pi_j22 hA, Vl0_pi_j30 hA, Vl0_pi_j24 hA, Vl0_pl, Vl0_cW0 hA, Vl0_mW0 hA])
            exact vl0
          · (try simp only [Vl1_pi_j18 hA, Vl1_pi_j22 hA, Vl1_pi_j30 hA, Vl1_pi_j24 hA, Vl1_pl, Vl1_cW0 hA, Vl1_mW0 hA])
            exact vl1
          · (try simp only [Vlr_pi_j18 hA, Vlr_pi_j22 hA, Vlr_pi_j30 hA, Vlr_pi_j24 hA, Vlr_pl_j39 hA, Vlr_pl_j4 hA, Vlr_cW0 hA, Vlr_mW0 hA])
            exact vlr
          · simp only [Vsr_pi_j30 hA]
            refine Vsr_nest vsr (fun k => ?_) (fun k => ?_) <;> simp only [l_cW, l_mW, mi_pi, mi_pl, ml_pi, ml_pl, hAe, Nat.reduceLT, Nat.reduceEqDiff, false_and, true_and, if_false, icw0_j24 hA, imw0_j24 hA]
          · refine Vc_of (c := 0) vc (by decide) (fun k => ?_) (fun k => ?_) <;> simp only [mi_pi, mi_pl, hAe, Nat.reduceLT, Nat.reduceEqDiff, false_and, true_and, if_false, icw0_j18 hA, imw0_j18 hA, icw0_j30 hA, imw0_j30 hA]
          · (try simp only [Tx_pi_j18 hA, Tx_pi_j22 hA, Tx_pi_j30 hA, Tx_pi_j24 hA, Tx_pl, Tx_cW0 hA, Tx_mW0 hA])
            exact tx
      · have he := v1.1
        have hm := v1.2
        have hT : mT h (A 27) 1 (A 32) (A 35) = cT h (A 6) (A 10) (A 11) := he.symm
        have he2 := he
        simp only [cT, mT, Prod.mk.injEq] at he2
        obtain ⟨g1, g2, g3, g4, g5, g6, g7⟩ := he2
        replace g1 := g1.symm
        replace g2 := g2.symm
        replace g3 := g3.symm
        replace g4 := g4.symm
        replace g5 := g5.symm
        replace g6 := g6.symm
        replace g7 := g7.symm
        obtain ⟨hmk, har, hl0, hl9⟩ := qA_1 _ hm
        have hark : arok 1 (g_i h (A 6) 3) := fun z => absurd (by decide) z
        have n1 : ¬ A 10 = A 11 := fun z => absurd ((hAe 10 11 (by decide) (by decide)).mp z) (by decide)
        by_cases e0 : g_i h (A 11) 5 - g_i h (A 11) 4 = 0
        · skip
          simp only [o296_0, o296_1, o296_2, o296_3, o296_4, o296_7, o296_8, o296_11, o296_14, o296_16, o296_17, o296_18, o296_19, o65_0, o65_1, o65_2, o65_5, o65_6, o65_7, o65_10, o65_11, o65_14, o65_17, o65_18, o65_21, o65_22, o65_25, o65_26, o65_27, o65_28, o65_29, o188_0, o188_1, o188_2, o188_5, o188_8, o188_9, o188_12, o188_15, o188_16, o188_19, o188_20, o188_23, o188_26, o188_27, o188_28, o188_29, o188_32, o188_33, o188_34, o188_37, o188_40, o188_41, o188_42, o188_45, o188_46, o188_47, o188_48, o188_49, o188_50, hx_296_1, c_X5_checkSlot, c_X8_isSlot, c_X8_isThrown__, c_X8_isQueue, c_queueOf_1, c_X1_hasNone (w := A 10) (r := A 11), c_ref_2 (cs := A 18), c_X7_rests, c_X8_no (cs := A 30), mc_pi, mc_pl, mc_pT, mn_pi, mn_pl, mn_pT, mi_pi, mi_pl, mi_pT, ml_pi, ml_pl, ml_pT, mr_pi, mr_pl, mr_pT, mz_pi, mz_pl, mz_pT, mcs_0, mcs_i, mcs_r, Kn_v, Kn_0, Kn_x, mrf_some, true_and, and_true, and_false, or_false, not_true_eq_false, not_false_eq_true, false_implies, implies_true, forall_const, if_true, if_false, and_self, Nat.reduceEqDiff, Nat.reduceLeDiff, Nat.reduceSub, Nat.reduceAdd, Nat.zero_le, Nat.le_refl, i10, i01, Int32.reduceLT, Int32.reduceSub, cl1, cl2, Kc_v, Sum.inl.injEq, Option.some.injEq, Value.int.injEq, exists_eq_left', Nat.reduceLT, hAe, kc0, kc6, kc10, kc11, kc17, kc18, kc22, kc26, kc30, kc35, kc39, kn18, kn26, kn30, kr0_3, kr0_9, kr6_0, kr6_1, kr17_0, kr22_3, kr22_8, kr26_1, kz, vq3, g4, g5, Int32.reduceLT, cl1, cl2, s1, s2, i64_inj, e0, v18]
          first | refine ⟨⟨?_, ?_, ?_, ?_, ?_, ?_, ?_, ?_, ?_, ?_, ?_, ?_⟩, rfl⟩ | refine ⟨?_, ?_, ?_, ?_, ?_, ?_, ?_, ?_, ?_, ?_, ?_, ?_⟩
          · (try simp only [K_pi, K_pl])
            exact vk
          · (try simp only [Cn_pi_j18 hA, Cn_pi_j22 hA, Cn_pi_j30 hA, Cn_pl])
            exact vcn
          · (try simp only [Vq0_pi_j18 hA, Vq0_pi_j22 hA, Vq0_pi_j30 hA, Vq0_pl])
            exact v0
          · (try simp only [Vq1_pi_j18 hA, Vq1_pi_j22 hA, Vq1_pi_j30 hA, Vq1_pl])
            exact v1
          · (try simp only [Vq2_pi_j18 hA, Vq2_pi_j22 hA, Vq2_pi_j30 hA, Vq2_pl])
            exact v2
          · (try simp only [Vp_pi_j18 hA, Vp_pi_j30 hA, Vp_thr hA, Vp_pl])
            exact vp
          · (try simp only [Vl0_pi_j18 hA, Vl0_pi_j22 hA, Vl0_pi_j30 hA, Vl0_pl])
            exact vl0
          · (try simp only [Vl1_pi_j18 hA, Vl1_pi_j22 hA, Vl1_pi_j30 hA, Vl1_pl])
            exact vl1
          · (try simp only [Vlr_pi_j18 hA, Vlr_pi_j22 hA, Vlr_pi_j30 hA, Vlr_pl_j39 hA])
            exact vlr
          · (try simp only [Vsr_pi_j18 hA, Vsr_pi_j22 hA, Vsr_pi_j30 hA, Vsr_pl_j39 hA])
            exact vsr
          · refine Vc_of (c := 2) vc (by decide) (fun k => ?_) (fun k => ?_) <;> simp only [mi_pi, mi_pl, hAe, Nat.reduceLT, Nat.reduceEqDiff, false_and, true_and, if_false]
          · (try simp only [Tx_pi_j18 hA, Tx_pi_j22 hA, Tx_pi_j30 hA, Tx_pl])
            exact tx
        · obtain ⟨i1, i2, hj, hq9⟩ := (qO_1 _ hm).resolve_left e0
          simp only [cT] at i1 i2 hj
          have hj2 := hj.2.2
          have vlk := (vlr _ (rdy_lt hj)).symm
          simp only [o296_0, o296_1, o296_2, o296_3, o296_4, o296_7, o296_8, o296_11, o296_14, o296_16, o296_17, o296_18, o296_19, o65_0, o65_1, o65_2, o65_5, o65_6, o65_7, o65_10, o65_11, o65_14, o65_17, o65_18, o65_21, o65_22, o65_26, o65_27, o65_28, o65_29, o65_32, o65_35, o65_36, o65_37, o65_40, o65_41, o65_44, o65_47, o188_0, o188_1, o188_2, o188_5, o188_8, o188_9, o188_12, o188_15, o188_16, o188_19, o188_20, o188_23, o188_26, o188_27, o188_28, o188_29, o188_32, o188_33, o188_34, o188_37, o188_40, o188_41, o188_42, o188_46, o188_47, o188_48, o188_49, o188_50, o188_53, o188_56, o188_57, o188_58, o188_59, o188_60, o188_63, o188_66, hx_296_1, c_X5_checkSlot, c_X8_isSlot, c_X8_isThrown__, c_X8_isQueue, c_queueOf_1, c_X1_hasNone (w := A 10) (r := A 11), c_X7_rests, c_X1_goOut (w := A 10) (r := A 11) (rw := A 1) (cs := A 3) (n := 16) (sz := 3) (ring := 1), c_X1_lying (w := A 10) (r := A 11), c_X8_goOut (x2 := A 25) (x3 := A 26) (a := A 27) (w := A 32) (r := A 35) (lr := A 23) (sz := 3), c_X8_liesOf (x2 := A 25) (x3 := A 26) (a := A 27) (w := A 32) (r := A 35), c_X5_layNumber (rw := A 2) (cs := A 4), c_X8_laid (sr := A 24), c_X0_done (cs := A 18), c_X8_done (cs := A 30), mc_pi, mc_pl, mc_pT, mn_pi, mn_pl, mn_pT, mi_pi, mi_pl, mi_pT, ml_pi, ml_pl, ml_pT, mr_pi, mr_pl, mr_pT, mz_pi, mz_pl, mz_pT, mcs_0, mcs_i, mcs_r, Kn_v, Kn_0, Kn_x, mrf_some, true_and, and_true, false_and, and_false, or_false, not_true_eq_false, not_false_eq_true, false_implies, implies_true, forall_const, if_true, if_false, and_self, Nat.reduceEqDiff, Nat.reduceLeDiff, Nat.reduceSub, Nat.reduceAdd, Nat.zero_le, Nat.le_refl, i10, i01, Int32.reduceLT, cl1, Kc_v, Sum.inl.injEq, Option.some.injEq, Value.int.injEq, exists_eq_left', Nat.reduceLT, hAe, kc0, kc1, kc2, kc3, kc4, kc6, kc10, kc11, kc17, kc18, kc22, kc23, kc24, kc25, kc26, kc27, kc30, kc32, kc35, kc39, kn3, kn4, kn18, kn23, kn24, kn25, kn26, kn27, kn30, kr0_1, kr0_3, kr0_9, kr1_0, kr2_0, kr6_0, kr6_1, kr11_0, kr17_0, kr22_0, kr22_1, kr22_2, kr22_3, kr22_4, kr22_8, kr25_1, kr26_1, kz, ki6_2, ki10_2, ki11_1, ki11_2, ki32_1, ki35_0, ki35_1, vq3, hT, g4, g5, g7, hark, Int32.reduceLT, cl1, s1, s2, hs, vs0, vs1, vs2, vs3, i64_inj, fo0, fo1, fo2, fo3, c_cW, n_cW, r_cW, z_cW, l_cW, c_mW, n_mW, r_mW, z_mW, l_mW, icw1_j18 hA, icw1_j22 hA, imw1_j22 hA, icw1_j24 hA, imw1_j24 hA, icw1_j30 hA, imw1_j30 hA, icw1_j27 hA, icw1_j32 hA, icw1_j35 hA, mT1_pi_j18 hA, mT1_pi_j22 hA, mT1_pi_j24 hA, cT1_pl, mT1_pl, mT1_pT, cT1_cW hA, mT1_cW hA, mT1_mW hA, e0, i1, i2, hj, hj2, vlk]
          first | refine ⟨⟨?_, ?_, ?_, ?_, ?_, ?_, ?_, ?_, ?_, ?_, ?_, ?_⟩, rfl⟩ | refine ⟨?_, ?_, ?_, ?_, ?_, ?_, ?_, ?_, ?_, ?_, ?_, ?_⟩
          · (try simp only [K_pi, K_pl, K_cW, K_mW])
            exact vk
          · (try simp only [Cn_pi_j18 hA, Cn_pi_j22 hA, Cn_pi_j30 hA, Cn_pi_j24 hA, Cn_pl, Cn_cW1 hA, Cn_mW1 hA])
            exact vcn
          · (try simp only [Vq0_pi_j18 hA, Vq0_pi_j22 hA, Vq0_pi_j30 hA, Vq0_pi_j24 hA, Vq0_pl, Vq0_cW1 hA, Vq0_mW1 hA])
            exact v0
          · simp only [Vq1_pi_j30 hA, Vq1_pi_j24 hA, Vq1_mW hA, cT1_pi_j18 hA, cT1_pi_j22 hA, cT1_pl, cT1_cW hA]
            exact ⟨trivial, hq9⟩
          · (try simp only [Vq2_pi_j18 hA, Vq2_pi_j22 hA, Vq2_pi_j30 hA, Vq2_pi_j24 hA, Vq2_pl, Vq2_cW1 hA, Vq2_mW1 hA])
            exact v2
          · (try simp only [Vp_pi_j18 hA, Vp_pi_j30 hA, Vp_pi_j24 hA, Vp_thr hA, Vp_pl, Vp_cW1 hA, Vp_mW1 hA])
            exact vp
          · (try simp only [Vl0_pi_j18 hA, Vl0_pi_j22 hA, Vl0_pi_j30 hA, Vl0_pi_j24 hA, Vl0_pl, Vl0_cW1 hA, Vl0_mW1 hA])
            exact vl0
          · (try simp only [Vl1_pi_j18 hA, Vl1_pi_j22 hA, Vl1_pi_j30 hA, Vl1_pi_j24 hA, Vl1_pl, Vl1_cW1 hA, Vl1_mW1 hA])
            exact vl1
          · (try simp only [Vlr_pi_j18 hA, Vlr_pi_j22 hA, Vlr_pi_j30 hA, Vlr_pi_j24 hA, Vlr_pl_j39 hA, Vlr_pl_j4 hA, Vlr_cW1 hA, Vlr_mW1 hA])
            exact vlr
          · simp only [Vsr_pi_j30 hA]
            refine Vsr_nest vsr (fun k => ?_) (fun k => ?_) <;> simp only [l_cW, l_mW, mi_pi, mi_pl, ml_pi, ml_pl, hAe, Nat.reduceLT, Nat.reduceEqDiff, false_and, true_and, if_false, icw1_j24 hA, imw1_j24 hA]
          · refine Vc_of (c := 0) vc (by decide) (fun k => ?_) (fun k => ?_) <;> simp only [mi_pi, mi_pl, hAe, Nat.reduceLT, Nat.reduceEqDiff, false_and, true_and, if_false, icw1_j18 hA, imw1_j18 hA, icw1_j30 hA, imw1_j30 hA]
          · (try simp only [Tx_pi_j18 hA, Tx_pi_j22 hA, Tx_pi_j30 hA, Tx_pi_j24 hA, Tx_pl, Tx_cW1 hA, Tx_mW1 hA])
            exact tx
      · have he := v2.1
        have hm := v2.2
        have hT : mT h (A 27) 2 (A 33) (A 36) = cT h (A 7) (A 12) (A 13) := he.symm
        have he2 := he
        simp only [cT, mT, Prod.mk.injEq] at he2
        obtain ⟨g1, g2, g3, g4, g5, g6, g7⟩ := he2
        replace g1 := g1.symm
        replace g2 := g2.symm
        replace g3 := g3.symm
        replace g4 := g4.symm
        replace g5 := g5.symm
        replace g6 := g6.symm
        replace g7 := g7.symm
        obtain ⟨hmk, har, hl0, hl9⟩ := qA_2 _ hm
        have hark : arok 2 (g_i h (A 7) 3) := fun _ => har
        have n1 : ¬ A 12 = A 13 := fun z => absurd ((hAe 12 13 (by decide) (by decide)).mp z) (by decide)
        by_cases e0 : g_i h (A 13) 5 - g_i h (A 13) 4 = 0
        · skip
          simp only [o296_0, o296_1, o296_2, o296_3, o296_4, o296_7, o296_8, o296_11, o296_14, o296_16, o296_17, o296_18, o296_19, o65_0, o65_1, o65_2, o65_5, o65_6, o65_7, o65_10, o65_11, o65_14, o65_17, o65_18, o65_21, o65_22, o65_25, o65_26, o65_27, o65_28, o65_29, o188_0, o188_1, o188_2, o188_5, o188_8, o188_9, o188_12, o188_15, o188_16, o188_19, o188_20, o188_23, o188_26, o188_27, o188_28, o188_29, o188_32, o188_33, o188_34, o188_37, o188_40, o188_41, o188_42, o188_45, o188_46, o188_47, o188_48, o188_49, o188_50, hx_296_1, c_X5_checkSlot, c_X8_isSlot, c_X8_isThrown__, c_X8_isQueue, c_queueOf_2, c_X1_hasNone (w := A 12) (r := A 13), c_ref_2 (cs := A 18), c_X7_rests, c_X8_no (cs := A 30), mc_pi, mc_pl, mc_pT, mn_pi, mn_pl, mn_pT, mi_pi, mi_pl, mi_pT, ml_pi, ml_pl, ml_pT, mr_pi, mr_pl, mr_pT, mz_pi, mz_pl, mz_pT, mcs_0, mcs_i, mcs_r, Kn_v, Kn_0, Kn_x, mrf_some, true_and, and_true, and_false, or_false, not_true_eq_false, not_false_eq_true, false_implies, implies_true, forall_const, if_true, if_false, and_self, Nat.reduceEqDiff, Nat.reduceLeDiff, Nat.reduceSub, Nat.reduceAdd, Nat.zero_le, Nat.le_refl, i10, i01, Int32.reduceLT, Int32.reduceSub, cl2, Kc_v, Sum.inl.injEq, Option.some.injEq, Value.int.injEq, exists_eq_left', Nat.reduceLT, hAe, kc0, kc7, kc12, kc13, kc17, kc18, kc22, kc26, kc30, kc36, kc39, kn18, kn26, kn30, kr0_4, kr0_9, kr7_0, kr7_1, kr17_0, kr22_3, kr22_8, kr26_2, kz, vq3, g4, g5, Int32.reduceLT, cl2, s1, s2, i64_inj, e0, v18]
          first | refine ⟨⟨?_, ?_, ?_, ?_, ?_, ?_, ?_, ?_, ?_, ?_, ?_, ?_⟩, rfl⟩ | refine ⟨?_, ?_, ?_, ?_, ?_, ?_, ?_, ?_, ?_, ?_, ?_, ?_⟩
          · (try simp only [K_pi, K_pl])
            exact vk
          · (try simp only [Cn_pi_j18 hA, Cn_pi_j22 hA, Cn_pi_j30 hA, Cn_pl])
            exact vcn
          · (try simp only [Vq0_pi_j18 hA, Vq0_pi_j22 hA, Vq0_pi_j30 hA, Vq0_pl])
            exact v0
          · (try simp only [Vq1_pi_j18 hA, Vq1_pi_j22 hA, Vq1_pi_j30 hA, Vq1_pl])
            exact v1
          · (try simp only [Vq2_pi_j18 hA, Vq2_pi_j22 hA, Vq2_pi_j30 hA, Vq2_pl])
            exact v2
          · (try simp only [Vp_pi_j18 hA, Vp_pi_j30 hA, Vp_thr hA, Vp_pl])
            exact vp
          · (try simp only [Vl0_pi_j18 hA, Vl0_pi_j22 hA, Vl0_pi_j30 hA, Vl0_pl])
            exact vl0
          · (try simp only [Vl1_pi_j18 hA, Vl1_pi_j22 hA, Vl1_pi_j30 hA, Vl1_pl])
            exact vl1
          · (try simp only [Vlr_pi_j18 hA, Vlr_pi_j22 hA, Vlr_pi_j30 hA, Vlr_pl_j39 hA])
            exact vlr
          · (try simp only [Vsr_pi_j18 hA, Vsr_pi_j22 hA, Vsr_pi_j30 hA, Vsr_pl_j39 hA])
            exact vsr
          · refine Vc_of (c := 2) vc (by decide) (fun k => ?_) (fun k => ?_) <;> simp only [mi_pi, mi_pl, hAe, Nat.reduceLT, Nat.reduceEqDiff, false_and, true_and, if_false]
          · (try simp only [Tx_pi_j18 hA, Tx_pi_j22 hA, Tx_pi_j30 hA, Tx_pl])
            exact tx
        · obtain ⟨i1, i2, hj, hq9⟩ := (qO_2 _ hm).resolve_left e0
          simp only [cT] at i1 i2 hj
          have hj2 := hj.2.2
          have vlk := (vlr _ (rdy_lt hj)).symm
          simp only [o296_0, o296_1, o296_2, o296_3, o296_4, o296_7, o296_8, o296_11, o296_14, o296_16, o296_17, o296_18, o296_19, o65_0, o65_1, o65_2, o65_5, o65_6, o65_7, o65_10, o65_11, o65_14, o65_17, o65_18, o65_21, o65_22, o65_26, o65_27, o65_28, o65_29, o65_32, o65_35, o65_36, o65_37, o65_40, o65_41, o65_44, o65_47, o188_0, o188_1, o188_2, o188_5, o188_8, o188_9, o188_12, o188_15, o188_16, o188_19, o188_20, o188_23, o188_26, o188_27, o188_28, o188_29, o188_32, o188_33, o188_34, o188_37, o188_40, o188_41, o188_42, o188_46, o188_47, o188_48, o188_49, o188_50, o188_53, o188_56, o188_57, o188_58, o188_59, o188_60, o188_63, o188_66, hx_296_1, c_X5_checkSlot, c_X8_isSlot, c_X8_isThrown__, c_X8_isQueue, c_queueOf_2, c_X1_hasNone (w := A 12) (r := A 13), c_X7_rests, c_X1_goOut (w := A 12) (r := A 13) (rw := A 1) (cs := A 3) (n := 16) (sz := 6) (ring := 0), c_X1_lying (w := A 12) (r := A 13), c_X8_goOut (x2 := A 25) (x3 := A 26) (a := A 27) (w := A 33) (r := A 36) (lr := A 23) (sz := 6), c_X8_liesOf (x2 := A 25) (x3 := A 26) (a := A 27) (w := A 33) (r := A 36), c_X5_layNumber (rw := A 2) (cs := A 4), c_X8_laid (sr := A 24), c_X0_done (cs := A 18), c_X8_done (cs := A 30), mc_pi, mc_pl, mc_pT, mn_pi, mn_pl, mn_pT, mi_pi, mi_pl, mi_pT, ml_pi, ml_pl, ml_pT, mr_pi, mr_pl, mr_pT, mz_pi, mz_pl, mz_pT, mcs_0, mcs_i, mcs_r, Kn_v, Kn_0, Kn_x, mrf_some, true_and, and_true, false_and, and_false, or_false, not_true_eq_false, not_false_eq_true, false_implies, implies_true, forall_const, if_true, if_false, and_self, Nat.reduceEqDiff, Nat.reduceLeDiff, Nat.reduceSub, Nat.reduceAdd, Nat.zero_le, Nat.le_refl, i10, i01, Int32.reduceLT, cl2, Kc_v, Sum.inl.injEq, Option.some.injEq, Value.int.injEq, exists_eq_left', Nat.reduceLT, hAe, kc0, kc1, kc2, kc3, kc4, kc7, kc12, kc13, kc17, kc18, kc22, kc23, kc24, kc25, kc26, kc27, kc30, kc33, kc36, kc39, kn3, kn4, kn18, kn23, kn24, kn25, kn26, kn27, kn30, kr0_1, kr0_4, kr0_9, kr1_0, kr2_0, kr7_0, kr7_1, kr13_0, kr17_0, kr22_0, kr22_1, kr22_2, kr22_3, kr22_4, kr22_8, kr25_2, kr26_2, kz, ki7_2, ki12_2, ki13_1, ki13_2, ki33_1, ki36_0, ki36_1, vq3, hT, g4, g5, g7, hark, Int32.reduceLT, cl2, s1, s2, hs, vs0, vs1, vs2, vs3, i64_inj, fo0, fo1, fo2, fo3, c_cW, n_cW, r_cW, z_cW, l_cW, c_mW, n_mW, r_mW, z_mW, l_mW, icw2_j18 hA, icw2_j22 hA, imw2_j22 hA, icw2_j24 hA, imw2_j24 hA, icw2_j30 hA, imw2_j30 hA, icw2_j27 hA, icw2_j33 hA, icw2_j36 hA, mT2_pi_j18 hA, mT2_pi_j22 hA, mT2_pi_j24 hA, cT2_pl, mT2_pl, mT2_pT, cT2_cW hA, mT2_cW hA, mT2_mW hA, e0, i1, i2, hj, hj2, vlk]
          first | refine ⟨⟨?_, ?_, ?_, ?_, ?_, ?_, ?_, ?_, ?_, ?_, ?_, ?_⟩, rfl⟩ | refine ⟨?_, ?_, ?_, ?_, ?_, ?_, ?_, ?_, ?_, ?_, ?_, ?_⟩
          · (try simp only [K_pi, K_pl, K_cW, K_mW])
            exact vk
          · (try simp only [Cn_pi_j18 hA, Cn_pi_j22 hA, Cn_pi_j30 hA, Cn_pi_j24 hA, Cn_pl, Cn_cW2 hA, Cn_mW2 hA])
            exact vcn
          · (try simp only [Vq0_pi_j18 hA, Vq0_pi_j22 hA, Vq0_pi_j30 hA, Vq0_pi_j24 hA, Vq0_pl, Vq0_cW2 hA, Vq0_mW2 hA])
            exact v0
          · (try simp only [Vq1_pi_j18 hA, Vq1_pi_j22 hA, Vq1_pi_j30 hA, Vq1_pi_j24 hA, Vq1_pl, Vq1_cW2 hA, Vq1_mW2 hA])
            exact v1
          · simp only [Vq2_pi_j30 hA, Vq2_pi_j24 hA, Vq2_mW hA, cT2_pi_j18 hA, cT2_pi_j22 hA, cT2_pl, cT2_cW hA]
            exact ⟨trivial, hq9⟩
          · (try simp only [Vp_pi_j18 hA, Vp_pi_j30 hA, Vp_pi_j24 hA, Vp_thr hA, Vp_pl, Vp_cW2 hA, Vp_mW2 hA])
            exact vp
          · (try simp only [Vl0_pi_j18 hA, Vl0_pi_j22 hA, Vl0_pi_j30 hA, Vl0_pi_j24 hA, Vl0_pl, Vl0_cW2 hA, Vl0_mW2 hA])
            exact vl0
          · (try simp only [Vl1_pi_j18 hA, Vl1_pi_j22 hA, Vl1_pi_j30 hA, Vl1_pi_j24 hA, Vl1_pl, Vl1_cW2 hA, Vl1_mW2 hA])
            exact vl1
          · (try simp only [Vlr_pi_j18 hA, Vlr_pi_j22 hA, Vlr_pi_j30 hA, Vlr_pi_j24 hA, Vlr_pl_j39 hA, Vlr_pl_j4 hA, Vlr_cW2 hA, Vlr_mW2 hA])
            exact vlr
          · simp only [Vsr_pi_j30 hA]
            refine Vsr_nest vsr (fun k => ?_) (fun k => ?_) <;> simp only [l_cW, l_mW, mi_pi, mi_pl, ml_pi, ml_pl, hAe, Nat.reduceLT, Nat.reduceEqDiff, false_and, true_and, if_false, icw2_j24 hA, imw2_j24 hA]
          · refine Vc_of (c := 0) vc (by decide) (fun k => ?_) (fun k => ?_) <;> simp only [mi_pi, mi_pl, hAe, Nat.reduceLT, Nat.reduceEqDiff, false_and, true_and, if_false, icw2_j18 hA, imw2_j18 hA, icw2_j30 hA, imw2_j30 hA]
          · (try simp only [Tx_pi_j18 hA, Tx_pi_j22 hA, Tx_pi_j30 hA, Tx_pi_j24 hA, Tx_pl, Tx_cW2 hA, Tx_mW2 hA])
            exact tx

theorem hx_297_1 {l rest : List Value} {bc bs : Nat} {Q : MR → MH → Prop} {h : MH} : Kc Ok 297 6 9 l rest bc bs Q (.inr 1) h ↔ ∀ q : Nat, Ok 297 16 l [.ref q] h bc bs Q := Kc_x (by decide +kernel) (by decide +kernel)
theorem hx_297_2 {l rest : List Value} {bc bs : Nat} {Q : MR → MH → Prop} {h : MH} : Kc Ok 297 6 9 l rest bc bs Q (.inr 2) h ↔ ∀ q : Nat, Ok 297 20 l [.ref q] h bc bs Q := Kc_x (by decide +kernel) (by decide +kernel)
theorem op_look {A : Nat → Nat} {h : MH} (R : Rl A h) {q x s : Int32} : Ok 297 0 [.ref (A 0), .int q, .int x, .int s, .ref (A 39), mk0] [] h 3 18 (fun r h1 => ∃ k : Int32, r = .inl (some (.int k)) ∧ g_c h1 (A 22) = 9 ∧ Ok 189 0 [.ref (A 22), .int q, .int x, .int s] [] h1 0 0 (fun r2 h2 => ∃ b : Int32, r2 = .inl (some (.int b)) ∧ Rl A h2 ∧ g_i h2 (A 22) 9 = k ∧ (k = 0 → g_l h2 (A 39) 0 = b.toInt64))) := by
  obtain ⟨vk, vcn, v0, v1, v2, vp, vl0, vl1, vlr, vsr, vc, tx⟩ := R
  have vk0 := vk
  have vcn0 := vcn
  (refine K_el vk0 ?_; intros hA kc0 kc1 kc2 kc3 kc4 kc5 kc6 kc7 kc8 kc9 kc10 kc11 kc12 kc13 kc14 kc15 kc16 kc17 kc18 kc19 kc20 kc21 kc22 kc23 kc24 kc25 kc26 kc27 kc28 kc29 kc30 kc31 kc32 kc33 kc34 kc35 kc36 kc37 kc38 kc39 kz kt kn3 kn4 kn18 kn21 kn23 kn24 kn25 kn26 kn27 kn29 kn30 kr0_0 kr0_1 kr0_2 kr0_3 kr0_4 kr0_5 kr0_7 kr0_8 kr0_9 kr0_10 kr1_0 kr2_0 kr5_0 kr5_1 kr6_0 kr6_1 kr7_0 kr7_1 kr8_0 kr9_0 kr10_0 kr11_0 kr12_0 kr13_0 kr14_0 kr15_0 kr16_0 kr17_0 kr19_0 kr19_1 kr22_0 kr22_1 kr22_2 kr22_3 kr22_4 kr22_5 kr22_7 kr22_8 kr25_0 kr25_1 kr25_2 kr26_0 kr26_1 kr26_2 kr29_0 kr29_1)
  (refine Cn_el vcn0 ?_; intros ki5_2 ki6_2 ki7_2 ki8_1 ki8_2 ki8_3 ki9_1 ki9_2 ki9_3 ki10_1 ki10_2 ki10_3 ki11_1 ki11_2 ki11_3 ki12_1 ki12_2 ki12_3 ki13_1 ki13_2 ki13_3 ki14_1 ki14_2 ki14_3 ki28_0 ki28_1 ki31_0 ki31_1 ki32_0 ki32_1 ki33_0 ki33_1 ki34_0 ki34_1 ki35_0 ki35_1 ki36_0 ki36_1)
  have hAe : ∀ i j, i < 40 → j < 40 → (A i = A j ↔ i = j) := hA
  by_cases bx0 : x < 0 <;> by_cases bx9 : 9 < x
  · exact absurd (Int32.lt_trans bx9 bx0) (by decide)
  · by_cases bq : q < 0 ∨ ¬ q < 3
    · have bq2 : (¬ q < 0 ∧ q < 3) = False := nrng bq
      by_cases bs : (¬ s < 0 ∧ s < 6)
      all_goals
        simp only [o297_0, o297_2, o297_3, o297_4, o297_5, o297_6, o297_16, o297_18, o297_19, o66_0, o66_1, o66_2, o189_0, o189_1, o189_2, o189_5, o189_8, o189_9, o189_12, o189_15, o189_16, o189_19, o189_20, o189_21, o189_24, o189_25, o189_27, o189_30, o189_31, o189_34, o189_35, o189_38, o189_41, o189_42, o189_43, o189_44, o189_45, o189_46, hx_297_1, c_X8_isSlot, c_X8_isThrown_, c_X8_isQueue, c_queueOf_bad, mc_pi, mc_pT, mi_pi, mi_pT, ml_pi, ml_pT, mz_pT, mcs_0, mcs_i, mcs_r, Kn_v, Kn_x, true_and, and_true, not_true_eq_false, not_false_eq_true, false_implies, forall_const, if_true, if_false, and_self, Nat.reduceLeDiff, Nat.reduceSub, Nat.reduceAdd, Nat.zero_le, Nat.le_refl, i10, lt_le, Sum.inl.injEq, Option.some.injEq, Value.int.injEq, exists_eq_left', Nat.reduceLT, kc0, kc22, kz, bq, bq2, bs, bx0, bx9]
        intro t ht
        first | refine ⟨⟨?_, ?_, ?_, ?_, ?_, ?_, ?_, ?_, ?_, ?_, ?_, ?_⟩, rfl⟩ | refine ⟨?_, ?_, ?_, ?_, ?_, ?_, ?_, ?_, ?_, ?_, ?_, ?_⟩
        · (try simp only [K_pi])
          exact K_pT ht vk
        · (try simp only [Cn_pi_j22 hA, Cn_pT])
          exact vcn
        · (try simp only [Vq0_pi_j22 hA, Vq0_pT])
          exact v0
        · (try simp only [Vq1_pi_j22 hA, Vq1_pT])
          exact v1
        · (try simp only [Vq2_pi_j22 hA, Vq2_pT])
          exact v2
        · (try simp only [Vp_thr hA, Vp_pT])
          exact vp
        · (try simp only [Vl0_pi_j22 hA, Vl0_pT])
          exact vl0
        · (try simp only [Vl1_pi_j22 hA, Vl1_pT])
          exact vl1
        · (try simp only [Vlr_pi_j22 hA, Vlr_pT])
          exact vlr
        · (try simp only [Vsr_pi_j22 hA, Vsr_pT])
          exact vsr
        · (try simp only [Vc_pi_j22 hA, Vc_pT])
          exact vc
        · (try simp only [Tx_pi_j22 hA])
          exact Tx_pT ht tx
    · have y1 : ¬ q < 0 := fun z => bq (Or.inl z)
      have y2 : q < 3 := Classical.byContradiction fun z => bq (Or.inr z)
      have bq2 : (¬ q < 0 ∧ q < 3) = True := eq_true ⟨y1, y2⟩
      by_cases bs : s < 0 ∨ ¬ s < 6
      · have bs2 : (¬ s < 0 ∧ s < 6) = False := nrng bs
        rcases q_cases y1 y2 with rfl | rfl | rfl
        · skip
          simp only [o297_0, o297_2, o297_3, o297_4, o297_5, o297_6, o297_16, o297_18, o297_19, o297_20, o297_22, o297_23, o66_0, o66_1, o66_2, o66_5, o66_7, o66_8, o66_11, o66_12, o66_15, o66_16, o66_18, o189_0, o189_1, o189_2, o189_5, o189_8, o189_9, o189_12, o189_15, o189_16, o189_19, o189_20, o189_21, o189_24, o189_25, o189_27, o189_30, o189_31, o189_34, o189_35, o189_38, o189_41, o189_42, o189_43, o189_44, o189_45, o189_46, hx_297_1, hx_297_2, c_X5_checkSlot, c_X8_isSlot, c_X8_isThrown_, c_X8_isQueue, c_X5_checkAhead, c_queueOf_0, mc_pi, mc_pT, mi_pi, mi_pT, ml_pi, ml_pT, mz_pT, mcs_0, mcs_i, mcs_r, Kn_v, Kn_0, Kn_x, true_and, and_true, or_false, not_true_eq_false, not_false_eq_true, false_implies, forall_const, if_true, if_false, and_self, Nat.reduceLeDiff, Nat.reduceSub, Nat.reduceAdd, Nat.zero_le, Nat.le_refl, i10, lt_le, Int32.reduceLT, Sum.inl.injEq, Option.some.injEq, Value.int.injEq, exists_eq_left', Nat.reduceLT, i20, kc0, kc5, kc22, kr0_2, kz, bs, bs2, bx0, bx9]
          intro t ht
          first | refine ⟨⟨?_, ?_, ?_, ?_, ?_, ?_, ?_, ?_, ?_, ?_, ?_, ?_⟩, rfl⟩ | refine ⟨?_, ?_, ?_, ?_, ?_, ?_, ?_, ?_, ?_, ?_, ?_, ?_⟩
          · (try simp only [K_pi])
            exact K_pT ht vk
          · (try simp only [Cn_pi_j22 hA, Cn_pT])
            exact vcn
          · (try simp only [Vq0_pi_j22 hA, Vq0_pT])
            exact v0
          · (try simp only [Vq1_pi_j22 hA, Vq1_pT])
            exact v1
          · (try simp only [Vq2_pi_j22 hA, Vq2_pT])
            exact v2
          · (try simp only [Vp_thr hA, Vp_pT])
            exact vp
          · (try simp only [Vl0_pi_j22 hA, Vl0_pT])
            exact vl0
          · (try simp only [Vl1_pi_j22 hA, Vl1_pT])
            exact vl1
          · (try simp only [Vlr_pi_j22 hA, Vlr_pT])
            exact vlr
          · (try simp only [Vsr_pi_j22 hA, Vsr_pT])
            exact vsr
          · (try simp only [Vc_pi_j22 hA, Vc_pT])
            exact vc
          · (try simp only [Tx_pi_j22 hA])
            exact Tx_pT ht tx
        · skip
          simp only [o297_0, o297_2, o297_3, o297_4, o297_5, o297_6, o297_16, o297_18, o297_19, o297_20, o297_22, o297_23, o66_0, o66_1, o66_2, o66_5, o66_7, o66_8, o66_11, o66_12, o66_15, o66_16, o66_18, o189_0, o189_1, o189_2, o189_5, o189_8, o189_9, o189_12, o189_15, o189_16, o189_19, o189_20, o189_21, o189_24, o189_25, o189_27, o189_30, o189_31, o189_34, o189_35, o189_38, o189_41, o189_42, o189_43, o189_44, o189_45, o189_46, hx_297_1, hx_297_2, c_X5_checkSlot, c_X8_isSlot, c_X8_isThrown_, c_X8_isQueue, c_X5_checkAhead, c_queueOf_1, mc_pi, mc_pT, mi_pi, mi_pT, ml_pi, ml_pT, mz_pT, mcs_0, mcs_i, mcs_r, Kn_v, Kn_0, Kn_x, true_and, and_true, or_false, not_true_eq_false, not_false_eq_true, false_implies, forall_const, if_true, if_false, and_self, Nat.reduceLeDiff, Nat.reduceSub, Nat.reduceAdd, Nat.zero_le, Nat.le_refl, i10, lt_le, Int32.reduceLT, Sum.inl.injEq, Option.some.injEq, Value.int.injEq, exists_eq_left', Nat.reduceLT, i20, kc0, kc6, kc22, kr0_3, kz, bs, bs2, bx0, bx9]
          intro t ht
          first | refine ⟨⟨?_, ?_, ?_, ?_, ?_, ?_, ?_, ?_, ?_, ?_, ?_, ?_⟩, rfl⟩ | refine ⟨?_, ?_, ?_, ?_, ?_, ?_, ?_, ?_, ?_, ?_, ?_, ?_⟩
          · (try simp only [K_pi])
            exact K_pT ht vk
          · (try simp only [Cn_pi_j22 hA, Cn_pT])
            exact vcn
          · (try simp only [Vq0_pi_j22 hA, Vq0_pT])
            exact v0
          · (try simp only [Vq1_pi_j22 hA, Vq1_pT])
            exact v1
          · (try simp only [Vq2_pi_j22 hA, Vq2_pT])
            exact v2
          · (try simp only [Vp_thr hA, Vp_pT])
            exact vp
          · (try simp only [Vl0_pi_j22 hA, Vl0_pT])
            exact vl0
          · (try simp only [Vl1_pi_j22 hA, Vl1_pT])
            exact vl1
          · (try simp only [Vlr_pi_j22 hA, Vlr_pT])
            exact vlr
          · (try simp only [Vsr_pi_j22 hA, Vsr_pT])
            exact vsr
          · (try simp only [Vc_pi_j22 hA, Vc_pT])
            exact vc
          · (try simp only [Tx_pi_j22 hA])
            exact Tx_pT ht tx
        · skip
          simp only [o297_0, o297_2, o297_3, o297_4, o297_5, o297_6, o297_16, o297_18, o297_19, o297_20, o297_22, o297_23, o66_0, o66_1, o66_2, o66_5, o66_7, o66_8, o66_11, o66_12, o66_15, o66_16, o66_18, o189_0, o189_1, o189_2, o189_5, o189_8, o189_9, o189_12, o189_15, o189_16, o189_19, o189_20, o189_21, o189_24, o189_25, o189_27, o189_30, o189_31, o189_34, o189_35, o189_38, o189_41, o189_42, o189_43, o189_44, o189_45, o189_46, hx_297_1, hx_297_2, c_X5_checkSlot, c_X8_isSlot, c_X8_isThrown_, c_X8_isQueue, c_X5_checkAhead, c_queueOf_2, mc_pi, mc_pT, mi_pi, mi_pT, ml_pi, ml_pT, mz_pT, mcs_0, mcs_i, mcs_r, Kn_v, Kn_0, Kn_x, true_and, and_true, or_false, not_true_eq_false, not_false_eq_true, false_implies, forall_const, if_true, if_false, and_self, Nat.reduceLeDiff, Nat.reduceSub, Nat.reduceAdd, Nat.zero_le, Nat.le_refl, i10, lt_le, Int32.reduceLT, Sum.inl.injEq, Option.some.injEq, Value.int.injEq, exists_eq_left', Nat.reduceLT, i20, kc0, kc7, kc22, kr0_4, kz, bs, bs2, bx0, bx9]
          intro t ht
          first | refine ⟨⟨?_, ?_, ?_, ?_, ?_, ?_, ?_, ?_, ?_, ?_, ?_, ?_⟩, rfl⟩ | refine ⟨?_, ?_, ?_, ?_, ?_, ?_, ?_, ?_, ?_, ?_, ?_, ?_⟩
          · (try simp only [K_pi])
            exact K_pT ht vk
          · (try simp only [Cn_pi_j22 hA, Cn_pT])
            exact vcn
          · (try simp only [Vq0_pi_j22 hA, Vq0_pT])
            exact v0
          · (try simp only [Vq1_pi_j22 hA, Vq1_pT])
            exact v1
          · (try simp only [Vq2_pi_j22 hA, Vq2_pT])
            exact v2
          · (try simp only [Vp_thr hA, Vp_pT])
            exact vp
          · (try simp only [Vl0_pi_j22 hA, Vl0_pT])
            exact vl0
          · (try simp only [Vl1_pi_j22 hA, Vl1_pT])
            exact vl1
          · (try simp only [Vlr_pi_j22 hA, Vlr_pT])
            exact vlr
          · (try simp only [Vsr_pi_j22 hA, Vsr_pT])
            exact vsr
          · (try simp only [Vc_pi_j22 hA, Vc_pT])
            exact vc
          · (try simp only [Tx_pi_j22 hA])
            exact Tx_pT ht tx
      · have s1 : ¬ s < 0 := fun z => bs (Or.inl z)
        have s2 : s < 6 := Classical.byContradiction fun z => bs (Or.inr z)
        have hs := ix_ok s1 s2
        have hs2 := hs
        obtain ⟨⟨j0, j1, j2, j3⟩, d01, d02, d03, d10, d12, d13, d20, d21, d23, d30, d31, d32⟩ := hs2
        obtain ⟨l0, l1, l2, l3⟩ := ix_lt hs
        have vs0 := (vsr _ l0).1
        have vs1 := (vsr _ l1).1
        have vs2 := (vsr _ l2).1
        have vs3 := (vsr _ l3).1
        have bs2 : (¬ s < 0 ∧ s < 6) = True := eq_true ⟨s1, s2⟩
        rcases q_cases y1 y2 with rfl | rfl | rfl
        · skip
          simp only [o297_0, o297_2, o297_3, o297_4, o297_5, o297_6, o297_16, o297_18, o297_19, o297_20, o297_22, o297_23, o66_0, o66_1, o66_2, o66_5, o66_7, o66_8, o66_11, o66_12, o66_15, o66_16, o66_18, o189_0, o189_1, o189_2, o189_5, o189_8, o189_9, o189_12, o189_15, o189_16, o189_19, o189_20, o189_21, o189_24, o189_25, o189_27, o189_30, o189_31, o189_34, o189_35, o189_38, o189_41, o189_42, o189_43, o189_44, o189_45, o189_46, hx_297_1, hx_297_2, c_X5_checkSlot, c_X8_isSlot, c_X8_isThrown_, c_X8_isQueue, c_X5_checkAhead, c_queueOf_0, mc_pi, mc_pT, mi_pi, mi_pT, ml_pi, ml_pT, mz_pT, mcs_0, mcs_i, mcs_r, Kn_v, Kn_0, Kn_x, true_and, and_true, and_false, or_false, not_true_eq_false, not_false_eq_true, false_implies, forall_const, if_true, if_false, and_self, Nat.reduceLeDiff, Nat.reduceSub, Nat.reduceAdd, Nat.zero_le, Nat.le_refl, i10, lt_le, Int32.reduceLT, Sum.inl.injEq, Option.some.injEq, Value.int.injEq, exists_eq_left', Nat.reduceLT, i20, kc0, kc5, kc22, kr0_2, kz, s1, s2, bx0, bx9]
          intro t ht
          first | refine ⟨⟨?_, ?_, ?_, ?_, ?_, ?_, ?_, ?_, ?_, ?_, ?_, ?_⟩, rfl⟩ | refine ⟨?_, ?_, ?_, ?_, ?_, ?_, ?_, ?_, ?_, ?_, ?_, ?_⟩
          · (try simp only [K_pi])
            exact K_pT ht vk
          · (try simp only [Cn_pi_j22 hA, Cn_pT])
            exact vcn
          · (try simp only [Vq0_pi_j22 hA, Vq0_pT])
            exact v0
          · (try simp only [Vq1_pi_j22 hA, Vq1_pT])
            exact v1
          · (try simp only [Vq2_pi_j22 hA, Vq2_pT])
            exact v2
          · (try simp only [Vp_thr hA, Vp_pT])
            exact vp
          · (try simp only [Vl0_pi_j22 hA, Vl0_pT])
            exact vl0
          · (try simp only [Vl1_pi_j22 hA, Vl1_pT])
            exact vl1
          · (try simp only [Vlr_pi_j22 hA, Vlr_pT])
            exact vlr
          · (try simp only [Vsr_pi_j22 hA, Vsr_pT])
            exact vsr
          · (try simp only [Vc_pi_j22 hA, Vc_pT])
            exact vc
          · (try simp only [Tx_pi_j22 hA])
            exact Tx_pT ht tx
        · skip
          simp only [o297_0, o297_2, o297_3, o297_4, o297_5, o297_6, o297_16, o297_18, o297_19, o297_20, o297_22, o297_23, o66_0, o66_1, o66_2, o66_5, o66_7, o66_8, o66_11, o66_12, o66_15, o66_16, o66_18, o189_0, o189_1, o189_2, o189_5, o189_8, o189_9, o189_12, o189_15, o189_16, o189_19, o189_20, o189_21, o189_24, o189_25, o189_27, o189_30, o189_31, o189_34, o189_35, o189_38, o189_41, o189_42, o189_43, o189_44, o189_45, o189_46, hx_297_1, hx_297_2, c_X5_checkSlot, c_X8_isSlot, c_X8_isThrown_, c_X8_isQueue, c_X5_checkAhead, c_queueOf_1, mc_pi, mc_pT, mi_pi, mi_pT, ml_pi, ml_pT, mz_pT, mcs_0, mcs_i, mcs_r, Kn_v, Kn_0, Kn_x, true_and, and_true, and_false, or_false, not_true_eq_false, not_false_eq_true, false_implies, forall_const, if_true, if_false, and_self, Nat.reduceLeDiff, Nat.reduceSub, Nat.reduceAdd, Nat.zero_le, Nat.le_refl, i10, lt_le, Int32.reduceLT, Sum.inl.injEq, Option.some.injEq, Value.int.injEq, exists_eq_left', Nat.reduceLT, i20, kc0, kc6, kc22, kr0_3, kz, s1, s2, bx0, bx9]
          intro t ht
          first | refine ⟨⟨?_, ?_, ?_, ?_, ?_, ?_, ?_, ?_, ?_, ?_, ?_, ?_⟩, rfl⟩ | refine ⟨?_, ?_, ?_, ?_, ?_, ?_, ?_, ?_, ?_, ?_, ?_, ?_⟩
          · (try simp only [K_pi])
            exact K_pT ht vk
          · (try simp only [Cn_pi_j22 hA, Cn_pT])
            exact vcn
          · (try simp only [Vq0_pi_j22 hA, Vq0_pT])
            exact v0
          · (try simp only [Vq1_pi_j22 hA, Vq1_pT])
            exact v1
          · (try simp only [Vq2_pi_j22 hA, Vq2_pT])
            exact v2
          · (try simp only [Vp_thr hA, Vp_pT])
            exact vp
          · (try simp only [Vl0_pi_j22 hA, Vl0_pT])
            exact vl0
          · (try simp only [Vl1_pi_j22 hA, Vl1_pT])
            exact vl1
          · (try simp only [Vlr_pi_j22 hA, Vlr_pT])
            exact vlr
          · (try simp only [Vsr_pi_j22 hA, Vsr_pT])
            exact vsr
          · (try simp only [Vc_pi_j22 hA, Vc_pT])
            exact vc
          · (try simp only [Tx_pi_j22 hA])
            exact Tx_pT ht tx
        · skip
          simp only [o297_0, o297_2, o297_3, o297_4, o297_5, o297_6, o297_16, o297_18, o297_19, o297_20, o297_22, o297_23, o66_0, o66_1, o66_2, o66_5, o66_7, o66_8, o66_11, o66_12, o66_15, o66_16, o66_18, o189_0, o189_1, o189_2, o189_5, o189_8, o189_9, o189_12, o189_15, o189_16, o189_19, o189_20, o189_21, o189_24, o189_25, o189_27, o189_30, o189_31, o189_34, o189_35, o189_38, o189_41, o189_42, o189_43, o189_44, o189_45, o189_46, hx_297_1, hx_297_2, c_X5_checkSlot, c_X8_isSlot, c_X8_isThrown_, c_X8_isQueue, c_X5_checkAhead, c_queueOf_2, mc_pi, mc_pT, mi_pi, mi_pT, ml_pi, ml_pT, mz_pT, mcs_0, mcs_i, mcs_r, Kn_v, Kn_0, Kn_x, true_and, and_true, and_false, or_false, not_true_eq_false, not_false_eq_true, false_implies, forall_const, if_true, if_false, and_self, Nat.reduceLeDiff, Nat.reduceSub, Nat.reduceAdd, Nat.zero_le, Nat.le_refl, i10, lt_le, Int32.reduceLT, Sum.inl.injEq, Option.some.injEq, Value.int.injEq, exists_eq_left', Nat.reduceLT, i20, kc0, kc7, kc22, kr0_4, kz, s1, s2, bx0, bx9]
          intro t ht
          first | refine ⟨⟨?_, ?_, ?_, ?_, ?_, ?_, ?_, ?_, ?_, ?_, ?_, ?_⟩, rfl⟩ | refine ⟨?_, ?_, ?_, ?_, ?_, ?_, ?_, ?_, ?_, ?_, ?_, ?_⟩
          · (try simp only [K_pi])
            exact K_pT ht vk
          · (try simp only [Cn_pi_j22 hA, Cn_pT])
            exact vcn
          · (try simp only [Vq0_pi_j22 hA, Vq0_pT])
            exact v0
          · (try simp only [Vq1_pi_j22 hA, Vq1_pT])
            exact v1
          · (try simp only [Vq2_pi_j22 hA, Vq2_pT])
            exact v2
          · (try simp only [Vp_thr hA, Vp_pT])
            exact vp
          · (try simp only [Vl0_pi_j22 hA, Vl0_pT])
            exact vl0
          · (try simp only [Vl1_pi_j22 hA, Vl1_pT])
            exact vl1
          · (try simp only [Vlr_pi_j22 hA, Vlr_pT])
            exact vlr
          · (try simp only [Vsr_pi_j22 hA, Vsr_pT])
            exact vsr
          · (try simp only [Vc_pi_j22 hA, Vc_pT])
            exact vc
          · (try simp only [Tx_pi_j22 hA])
            exact Tx_pT ht tx
  · by_cases bq : q < 0 ∨ ¬ q < 3
    · have bq2 : (¬ q < 0 ∧ q < 3) = False := nrng bq
      by_cases bs : (¬ s < 0 ∧ s < 6)
      all_goals
        simp only [o297_0, o297_2, o297_3, o297_4, o297_5, o297_6, o297_16, o297_18, o297_19, o66_0, o66_1, o66_2, o189_0, o189_1, o189_2, o189_5, o189_8, o189_9, o189_12, o189_15, o189_16, o189_19, o189_20, o189_21, o189_24, o189_25, o189_27, o189_30, o189_31, o189_34, o189_35, o189_38, o189_41, o189_42, o189_43, o189_44, o189_45, o189_46, hx_297_1, c_X8_isSlot, c_X8_isThrown_, c_X8_isQueue, c_queueOf_bad, mc_pi, mc_pT, mi_pi, mi_pT, ml_pi, ml_pT, mz_pT, mcs_0, mcs_i, mcs_r, Kn_v, Kn_x, true_and, and_true, not_true_eq_false, not_false_eq_true, false_implies, forall_const, if_true, if_false, and_self, Nat.reduceLeDiff, Nat.reduceSub, Nat.reduceAdd, Nat.zero_le, Nat.le_refl, i10, lt_le, Sum.inl.injEq, Option.some.injEq, Value.int.injEq, exists_eq_left', Nat.reduceLT, kc0, kc22, kz, bq, bq2, bs, bx0, bx9]
        intro t ht
        first | refine ⟨⟨?_, ?_, ?_, ?_, ?_, ?_, ?_, ?_, ?_, ?_, ?_, ?_⟩, rfl⟩ | refine ⟨?_, ?_, ?_, ?_, ?_, ?_, ?_, ?_, ?_, ?_, ?_, ?_⟩
        · (try simp only [K_pi])
          exact K_pT ht vk
        · (try simp only [Cn_pi_j22 hA, Cn_pT])
          exact vcn
        · (try simp only [Vq0_pi_j22 hA, Vq0_pT])
          exact v0
        · (try simp only [Vq1_pi_j22 hA, Vq1_pT])
          exact v1
        · (try simp only [Vq2_pi_j22 hA, Vq2_pT])
          exact v2
        · (try simp only [Vp_thr hA, Vp_pT])
          exact vp
        · (try simp only [Vl0_pi_j22 hA, Vl0_pT])
          exact vl0
        · (try simp only [Vl1_pi_j22 hA, Vl1_pT])
          exact vl1
        · (try simp only [Vlr_pi_j22 hA, Vlr_pT])
          exact vlr
        · (try simp only [Vsr_pi_j22 hA, Vsr_pT])
          exact vsr
        · (try simp only [Vc_pi_j22 hA, Vc_pT])
          exact vc
        · (try simp only [Tx_pi_j22 hA])
          exact Tx_pT ht tx
    · have y1 : ¬ q < 0 := fun z => bq (Or.inl z)
      have y2 : q < 3 := Classical.byContradiction fun z => bq (Or.inr z)
      have bq2 : (¬ q < 0 ∧ q < 3) = True := eq_true ⟨y1, y2⟩
      by_cases bs : s < 0 ∨ ¬ s < 6
      · have bs2 : (¬ s < 0 ∧ s < 6) = False := nrng bs
        rcases q_cases y1 y2 with rfl | rfl | rfl
        · skip
          simp only [o297_0, o297_2, o297_3, o297_4, o297_5, o297_6, o297_16, o297_18, o297_19, o297_20, o297_22, o297_23, o66_0, o66_1, o66_2, o66_5, o66_7, o66_8, o66_11, o66_12, o66_15, o66_16, o66_18, o189_0, o189_1, o189_2, o189_5, o189_8, o189_9, o189_12, o189_15, o189_16, o189_19, o189_20, o189_21, o189_24, o189_25, o189_27, o189_30, o189_31, o189_34, o189_35, o189_38, o189_41, o189_42, o189_43, o189_44, o189_45, o189_46, hx_297_1, hx_297_2, c_X5_checkSlot, c_X8_isSlot, c_X8_isThrown_, c_X8_isQueue, c_X5_checkAhead, c_queueOf_0, mc_pi, mc_pT, mi_pi, mi_pT, ml_pi, ml_pT, mz_pT, mcs_0, mcs_i, mcs_r, Kn_v, Kn_0, Kn_x, true_and, and_true, or_true, not_true_eq_false, not_false_eq_true, false_implies, forall_const, if_true, if_false, and_self, Nat.reduceLeDiff, Nat.reduceSub, Nat.reduceAdd, Nat.zero_le, Nat.le_refl, i10, lt_le, Int32.reduceLT, Sum.inl.injEq, Option.some.injEq, Value.int.injEq, exists_eq_left', Nat.reduceLT, i20, kc0, kc5, kc22, kr0_2, kz, bs, bs2, bx0, bx9]
          intro t ht
          first | refine ⟨⟨?_, ?_, ?_, ?_, ?_, ?_, ?_, ?_, ?_, ?_, ?_, ?_⟩, rfl⟩ | refine ⟨?_, ?_, ?_, ?_, ?_, ?_, ?_, ?_, ?_, ?_, ?_, ?_⟩
          · (try simp only [K_pi])
            exact K_pT ht vk
          · (try simp only [Cn_pi_j22 hA, Cn_pT])
            exact vcn
          · (try simp only [Vq0_pi_j22 hA, Vq0_pT])
            exact v0
          · (try simp only [Vq1_pi_j22 hA, Vq1_pT])
            exact v1
          · (try simp only [Vq2_pi_j22 hA, Vq2_pT])
            exact v2
          · (try simp only [Vp_thr hA, Vp_pT])
            exact vp
          · (try simp only [Vl0_pi_j22 hA, Vl0_pT])
            exact vl0
          · (try simp only [Vl1_pi_j22 hA, Vl1_pT])
            exact vl1
          · (try simp only [Vlr_pi_j22 hA, Vlr_pT])
            exact vlr
          · (try simp only [Vsr_pi_j22 hA, Vsr_pT])
            exact vsr
          · (try simp only [Vc_pi_j22 hA, Vc_pT])
            exact vc
          · (try simp only [Tx_pi_j22 hA])
            exact Tx_pT ht tx
        · skip
          simp only [o297_0, o297_2, o297_3, o297_4, o297_5, o297_6, o297_16, o297_18, o297_19, o297_20, o297_22, o297_23, o66_0, o66_1, o66_2, o66_5, o66_7, o66_8, o66_11, o66_12, o66_15, o66_16, o66_18, o189_0, o189_1, o189_2, o189_5, o189_8, o189_9, o189_12, o189_15, o189_16, o189_19, o189_20, o189_21, o189_24, o189_25, o189_27, o189_30, o189_31, o189_34, o189_35, o189_38, o189_41, o189_42, o189_43, o189_44, o189_45, o189_46, hx_297_1, hx_297_2, c_X5_checkSlot, c_X8_isSlot, c_X8_isThrown_, c_X8_isQueue, c_X5_checkAhead, c_queueOf_1, mc_pi, mc_pT, mi_pi, mi_pT, ml_pi, ml_pT, mz_pT, mcs_0, mcs_i, mcs_r, Kn_v, Kn_0, Kn_x, true_and, and_true, or_true, not_true_eq_false, not_false_eq_true, false_implies, forall_const, if_true, if_false, and_self, Nat.reduceLeDiff, Nat.reduceSub, Nat.reduceAdd, Nat.zero_le, Nat.le_refl, i10, lt_le, Int32.reduceLT, Sum.inl.injEq, Option.some.injEq, Value.int.injEq, exists_eq_left', Nat.reduceLT, i20, kc0, kc6, kc22, kr0_3, kz, bs, bs2, bx0, bx9]
          intro t ht
          first | refine ⟨⟨?_, ?_, ?_, ?_, ?_, ?_, ?_, ?_, ?_, ?_, ?_, ?_⟩, rfl⟩ | refine ⟨?_, ?_, ?_, ?_, ?_, ?_, ?_, ?_, ?_, ?_, ?_, ?_⟩
          · (try simp only [K_pi])
            exact K_pT ht vk
          · (try simp only [Cn_pi_j22 hA, Cn_pT])
            exact vcn
          · (try simp only [Vq0_pi_j22 hA, Vq0_pT])
            exact v0
          · (try simp only [Vq1_pi_j22 hA, Vq1_pT])
            exact v1
          · (try simp only [Vq2_pi_j22 hA, Vq2_pT])
            exact v2
          · (try simp only [Vp_thr hA, Vp_pT])
            exact vp
          · (try simp only [Vl0_pi_j22 hA, Vl0_pT])
            exact vl0
          · (try simp only [Vl1_pi_j22 hA, Vl1_pT])
            exact vl1
          · (try simp only [Vlr_pi_j22 hA, Vlr_pT])
            exact vlr
          · (try simp only [Vsr_pi_j22 hA, Vsr_pT])
            exact vsr
          · (try simp only [Vc_pi_j22 hA, Vc_pT])
            exact vc
          · (try simp only [Tx_pi_j22 hA])
            exact Tx_pT ht tx
        · skip
          simp only [o297_0, o297_2, o297_3, o297_4, o297_5, o297_6, o297_16, o297_18, o297_19, o297_20, o297_22, o297_23, o66_0, o66_1, o66_2, o66_5, o66_7, o66_8, o66_11, o66_12, o66_15, o66_16, o66_18, o189_0, o189_1, o189_2, o189_5, o189_8, o189_9, o189_12, o189_15, o189_16, o189_19, o189_20, o189_21, o189_24, o189_25, o189_27, o189_30, o189_31, o189_34, o189_35, o189_38, o189_41, o189_42, o189_43, o189_44, o189_45, o189_46, hx_297_1, hx_297_2, c_X5_checkSlot, c_X8_isSlot, c_X8_isThrown_, c_X8_isQueue, c_X5_checkAhead, c_queueOf_2, mc_pi, mc_pT, mi_pi, mi_pT, ml_pi, ml_pT, mz_pT, mcs_0, mcs_i, mcs_r, Kn_v, Kn_0, Kn_x, true_and, and_true, or_true, not_true_eq_false, not_false_eq_true, false_implies, forall_const, if_true, if_false, and_self, Nat.reduceLeDiff, Nat.reduceSub, Nat.reduceAdd, Nat.zero_le, Nat.le_refl, i10, lt_le, Int32.reduceLT, Sum.inl.injEq, Option.some.injEq, Value.int.injEq, exists_eq_left', Nat.reduceLT, i20, kc0, kc7, kc22, kr0_4, kz, bs, bs2, bx0, bx9]
          intro t ht
          first | refine ⟨⟨?_, ?_, ?_, ?_, ?_, ?_, ?_, ?_, ?_, ?_, ?_, ?_⟩, rfl⟩ | refine ⟨?_, ?_, ?_, ?_, ?_, ?_, ?_, ?_, ?_, ?_, ?_, ?_⟩
          · (try simp only [K_pi])
            exact K_pT ht vk
          · (try simp only [Cn_pi_j22 hA, Cn_pT])
            exact vcn
          · (try simp only [Vq0_pi_j22 hA, Vq0_pT])
            exact v0
          · (try simp only [Vq1_pi_j22 hA, Vq1_pT])
            exact v1
          · (try simp only [Vq2_pi_j22 hA, Vq2_pT])
            exact v2
          · (try simp only [Vp_thr hA, Vp_pT])
            exact vp
          · (try simp only [Vl0_pi_j22 hA, Vl0_pT])
            exact vl0
          · (try simp only [Vl1_pi_j22 hA, Vl1_pT])
            exact vl1
          · (try simp only [Vlr_pi_j22 hA, Vlr_pT])
            exact vlr
          · (try simp only [Vsr_pi_j22 hA, Vsr_pT])
            exact vsr
          · (try simp only [Vc_pi_j22 hA, Vc_pT])
            exact vc
          · (try simp only [Tx_pi_j22 hA])
            exact Tx_pT ht tx
      · have s1 : ¬ s < 0 := fun z => bs (Or.inl z)
        have s2 : s < 6 := Classical.byContradiction fun z => bs (Or.inr z)
        have hs := ix_ok s1 s2
        have hs2 := hs
        obtain ⟨⟨j0, j1, j2, j3⟩, d01, d02, d03, d10, d12, d13, d20, d21, d23, d30, d31, d32⟩ := hs2
        obtain ⟨l0, l1, l2, l3⟩ := ix_lt hs
        have vs0 := (vsr _ l0).1
        have vs1 := (vsr _ l1).1
        have vs2 := (vsr _ l2).1
        have vs3 := (vsr _ l3).1
        have bs2 : (¬ s < 0 ∧ s < 6) = True := eq_true ⟨s1, s2⟩
        rcases q_cases y1 y2 with rfl | rfl | rfl
        · skip
          simp only [o297_0, o297_2, o297_3, o297_4, o297_5, o297_6, o297_16, o297_18, o297_19, o297_20, o297_22, o297_23, o66_0, o66_1, o66_2, o66_5, o66_7, o66_8, o66_11, o66_12, o66_15, o66_16, o66_18, o189_0, o189_1, o189_2, o189_5, o189_8, o189_9, o189_12, o189_15, o189_16, o189_19, o189_20, o189_21, o189_24, o189_25, o189_27, o189_30, o189_31, o189_34, o189_35, o189_38, o189_41, o189_42, o189_43, o189_44, o189_45, o189_46, hx_297_1, hx_297_2, c_X5_checkSlot, c_X8_isSlot, c_X8_isThrown_, c_X8_isQueue, c_X5_checkAhead, c_queueOf_0, mc_pi, mc_pT, mi_pi, mi_pT, ml_pi, ml_pT, mz_pT, mcs_0, mcs_i, mcs_r, Kn_v, Kn_0, Kn_x, true_and, and_true, and_false, or_true, or_false, not_true_eq_false, not_false_eq_true, false_implies, forall_const, if_true, if_false, and_self, Nat.reduceLeDiff, Nat.reduceSub, Nat.reduceAdd, Nat.zero_le, Nat.le_refl, i10, lt_le, Int32.reduceLT, Sum.inl.injEq, Option.some.injEq, Value.int.injEq, exists_eq_left', Nat.reduceLT, i20, kc0, kc5, kc22, kr0_2, kz, s1, s2, bx0, bx9]
          intro t ht
          first | refine ⟨⟨?_, ?_, ?_, ?_, ?_, ?_, ?_, ?_, ?_, ?_, ?_, ?_⟩, rfl⟩ | refine ⟨?_, ?_, ?_, ?_, ?_, ?_, ?_, ?_, ?_, ?_, ?_, ?_⟩
          · (try simp only [K_pi])
            exact K_pT ht vk
          · (try simp only [Cn_pi_j22 hA, Cn_pT])
            exact vcn
          · (try simp only [Vq0_pi_j22 hA, Vq0_pT])
            exact v0
          · (try simp only [Vq1_pi_j22 hA, Vq1_pT])
            exact v1
          · (try simp only [Vq2_pi_j22 hA, Vq2_pT])
            exact v2
          · (try simp only [Vp_thr hA, Vp_pT])
            exact vp
          · (try simp only [Vl0_pi_j22 hA, Vl0_pT])
            exact vl0
          · (try simp only [Vl1_pi_j22 hA, Vl1_pT])
            exact vl1
          · (try simp only [Vlr_pi_j22 hA, Vlr_pT])
            exact vlr
          · (try simp only [Vsr_pi_j22 hA, Vsr_pT])
            exact vsr
          · (try simp only [Vc_pi_j22 hA, Vc_pT])
            exact vc
          · (try simp only [Tx_pi_j22 hA])
            exact Tx_pT ht tx
        · skip
          simp only [o297_0, o297_2, o297_3, o297_4, o297_5, o297_6, o297_16, o297_18, o297_19, o297_20, o297_22, o297_23, o66_0, o66_1, o66_2, o66_5, o66_7, o66_8, o66_11, o66_12, o66_15, o66_16, o66_18, o189_0, o189_1, o189_2, o189_5, o189_8, o189_9, o189_12, o189_15, o189_16, o189_19, o189_20, o189_21, o189_24, o189_25, o189_27, o189_30, o189_31, o189_34, o189_35, o189_38, o189_41, o189_42, o189_43, o189_44, o189_45, o189_46, hx_297_1, hx_297_2, c_X5_checkSlot, c_X8_isSlot, c_X8_isThrown_, c_X8_isQueue, c_X5_checkAhead, c_queueOf_1, mc_pi, mc_pT, mi_pi, mi_pT, ml_pi, ml_pT, mz_pT, mcs_0, mcs_i, mcs_r, Kn_v, Kn_0, Kn_x, true_and, and_true, and_false, or_true, or_false, not_true_eq_false, not_false_eq_true, false_implies, forall_const, if_true, if_false, and_self, Nat.reduceLeDiff, Nat.reduceSub, Nat.reduceAdd, Nat.zero_le, Nat.le_refl, i10, lt_le, Int32.reduceLT, Sum.inl.injEq, Option.some.injEq, Value.int.injEq, exists_eq_left', Nat.reduceLT, i20, kc0, kc6, kc22, kr0_3, kz, s1, s2, bx0, bx9]
          intro t ht
          first | refine ⟨⟨?_, ?_, ?_, ?_, ?_, ?_, ?_, ?_, ?_, ?_, ?_, ?_⟩, rfl⟩ | refine ⟨?_, ?_, ?_, ?_, ?_, ?_, ?_, ?_, ?_, ?_, ?_, ?_⟩
          · (try simp only [K_pi])
            exact K_pT ht vk
          · (try simp only [Cn_pi_j22 hA, Cn_pT])
            exact vcn
          · (try simp only [Vq0_pi_j22 hA, Vq0_pT])
            exact v0
          · (try simp only [Vq1_pi_j22 hA, Vq1_pT])
            exact v1
          · (try simp only [Vq2_pi_j22 hA, Vq2_pT])
            exact v2
          · (try simp only [Vp_thr hA, Vp_pT])
            exact vp
          · (try simp only [Vl0_pi_j22 hA, Vl0_pT])
            exact vl0
          · (try simp only [Vl1_pi_j22 hA, Vl1_pT])
            exact vl1
          · (try simp only [Vlr_pi_j22 hA, Vlr_pT])
            exact vlr
          · (try simp only [Vsr_pi_j22 hA, Vsr_pT])
            exact vsr
          · (try simp only [Vc_pi_j22 hA, Vc_pT])
            exact vc
          · (try simp only [Tx_pi_j22 hA])
            exact Tx_pT ht tx
        · skip
          simp only [o297_0, o297_2, o297_3, o297_4, o297_5, o297_6, o297_16, o297_18, o297_19, o297_20, o297_22, o297_23, o66_0, o66_1, o66_2, o66_5, o66_7, o66_8, o66_11, o66_12, o66_15, o66_16, o66_18, o189_0, o189_1, o189_2, o189_5, o189_8, o189_9, o189_12, o189_15, o189_16, o189_19, o189_20, o189_21, o189_24, o189_25, o189_27, o189_30, o189_31, o189_34, o189_35, o189_38, o189_41, o189_42, o189_43, o189_44, o189_45, o189_46, hx_297_1, hx_297_2, c_X5_checkSlot, c_X8_isSlot, c_X8_isThrown_, c_X8_isQueue, c_X5_checkAhead, c_queueOf_2, mc_pi, mc_pT, mi_pi, mi_pT, ml_pi, ml_pT, mz_pT, mcs_0, mcs_i, mcs_r, Kn_v, Kn_0, Kn_x, true_and, and_true, and_false, or_true, or_false, not_true_eq_false, not_false_eq_true, false_implies, forall_const, if_true, if_false, and_self, Nat.reduceLeDiff, Nat.reduceSub, Nat.reduceAdd, Nat.zero_le, Nat.le_refl, i10, lt_le, Int32.reduceLT, Sum.inl.injEq, Option.some.injEq, Value.int.injEq, exists_eq_left', Nat.reduceLT, i20, kc0, kc7, kc22, kr0_4, kz, s1, s2, bx0, bx9]
          intro t ht
          first | refine ⟨⟨?_, ?_, ?_, ?_, ?_, ?_, ?_, ?_, ?_, ?_, ?_, ?_⟩, rfl⟩ | refine ⟨?_, ?_, ?_, ?_, ?_, ?_, ?_, ?_, ?_, ?_, ?_, ?_⟩
          · (try simp only [K_pi])
            exact K_pT ht vk
          · (try simp only [Cn_pi_j22 hA, Cn_pT])
            exact vcn
          · (try simp only [Vq0_pi_j22 hA, Vq0_pT])
            exact v0
          · (try simp only [Vq1_pi_j22 hA, Vq1_pT])
            exact v1
          · (try simp only [Vq2_pi_j22 hA, Vq2_pT])
            exact v2
          · (try simp only [Vp_thr hA, Vp_pT])
            exact vp
          · (try simp only [Vl0_pi_j22 hA, Vl0_pT])
            exact vl0
          · (try simp only [Vl1_pi_j22 hA, Vl1_pT])
            exact vl1
          · (try simp only [Vlr_pi_j22 hA, Vlr_pT])
            exact vlr
          · (try simp only [Vsr_pi_j22 hA, Vsr_pT])
            exact vsr
          · (try simp only [Vc_pi_j22 hA, Vc_pT])
            exact vc
          · (try simp only [Tx_pi_j22 hA])
            exact Tx_pT ht tx
  · by_cases bq : q < 0 ∨ ¬ q < 3
    · have bq2 : (¬ q < 0 ∧ q < 3) = False := nrng bq
      by_cases bs : (¬ s < 0 ∧ s < 6)
      all_goals
        simp only [o297_0, o297_2, o297_3, o297_4, o297_5, o297_6, o297_16, o297_18, o297_19, o66_0, o66_1, o66_2, o189_0, o189_1, o189_2, o189_5, o189_8, o189_9, o189_12, o189_15, o189_16, o189_19, o189_20, o189_21, o189_24, o189_25, o189_27, o189_30, o189_31, o189_34, o189_35, o189_38, o189_41, o189_42, o189_43, o189_44, o189_45, o189_46, hx_297_1, c_X8_isSlot, c_X8_isThrown_, c_X8_isQueue, c_queueOf_bad, mc_pi, mc_pT, mi_pi, mi_pT, ml_pi, ml_pT, mz_pT, mcs_0, mcs_i, mcs_r, Kn_v, Kn_x, true_and, and_true, not_true_eq_false, not_false_eq_true, false_implies, forall_const, if_true, if_false, and_self, Nat.reduceLeDiff, Nat.reduceSub, Nat.reduceAdd, Nat.zero_le, Nat.le_refl, i10, lt_le, Sum.inl.injEq, Option.some.injEq, Value.int.injEq, exists_eq_left', Nat.reduceLT, kc0, kc22, kz, bq, bq2, bs, bx0, bx9]
        intro t ht
        first | refine ⟨⟨?_, ?_, ?_, ?_, ?_, ?_, ?_, ?_, ?_, ?_, ?_, ?_⟩, rfl⟩ | refine ⟨?_, ?_, ?_, ?_, ?_, ?_, ?_, ?_, ?_, ?_, ?_, ?_⟩
        · (try simp only [K_pi])
          exact K_pT ht vk
        · (try simp only [Cn_pi_j22 hA, Cn_pT])
          exact vcn
        · (try simp only [Vq0_pi_j22 hA, Vq0_pT])
          exact v0
        · (try simp only [Vq1_pi_j22 hA, Vq1_pT])
          exact v1
        · (try simp only [Vq2_pi_j22 hA, Vq2_pT])
          exact v2
        · (try simp only [Vp_thr hA, Vp_pT])
          exact vp
        · (try simp only [Vl0_pi_j22 hA, Vl0_pT])
          exact vl0
        · (try simp only [Vl1_pi_j22 hA, Vl1_pT])
          exact vl1
        · (try simp only [Vlr_pi_j22 hA, Vlr_pT])
          exact vlr
        · (try simp only [Vsr_pi_j22 hA, Vsr_pT])
          exact vsr
        · (try simp only [Vc_pi_j22 hA, Vc_pT])
          exact vc
        · (try simp only [Tx_pi_j22 hA])
          exact Tx_pT ht tx
    · have y1 : ¬ q < 0 := fun z => bq (Or.inl z)
      have y2 : q < 3 := Classical.byContradiction fun z => bq (Or.inr z)
      have bq2 : (¬ q < 0 ∧ q < 3) = True := eq_true ⟨y1, y2⟩
      by_cases bs : s < 0 ∨ ¬ s < 6
      · have bs2 : (¬ s < 0 ∧ s < 6) = False := nrng bs
        rcases q_cases y1 y2 with rfl | rfl | rfl
        · skip
          simp only [o297_0, o297_2, o297_3, o297_4, o297_5, o297_6, o297_16, o297_18, o297_19, o297_20, o297_22, o297_23, o66_0, o66_1, o66_2, o66_5, o66_7, o66_8, o66_11, o66_12, o66_15, o66_16, o66_18, o189_0, o189_1, o189_2, o189_5, o189_8, o189_9, o189_12, o189_15, o189_16, o189_19, o189_20, o189_21, o189_24, o189_25, o189_27, o189_30, o189_31, o189_34, o189_35, o189_38, o189_41, o189_42, o189_43, o189_44, o189_45, o189_46, hx_297_1, hx_297_2, c_X5_checkSlot, c_X8_isSlot, c_X8_isThrown_, c_X8_isQueue, c_X5_checkAhead, c_queueOf_0, mc_pi, mc_pT, mi_pi, mi_pT, ml_pi, ml_pT, mz_pT, mcs_0, mcs_i, mcs_r, Kn_v, Kn_0, Kn_x, true_and, and_true, or_false, not_true_eq_false, not_false_eq_true, false_implies, forall_const, if_true, if_false, and_self, Nat.reduceLeDiff, Nat.reduceSub, Nat.reduceAdd, Nat.zero_le, Nat.le_refl, i10, lt_le, Int32.reduceLT, Sum.inl.injEq, Option.some.injEq, Value.int.injEq, exists_eq_left', Nat.reduceLT, i20, kc0, kc5, kc22, kr0_2, kz, bs, bs2, bx0, bx9]
          intro t ht
          first | refine ⟨⟨?_, ?_, ?_, ?_, ?_, ?_, ?_, ?_, ?_, ?_, ?_, ?_⟩, rfl⟩ | refine ⟨?_, ?_, ?_, ?_, ?_, ?_, ?_, ?_, ?_, ?_, ?_, ?_⟩
          · (try simp only [K_pi])
            exact K_pT ht vk
          · (try simp only [Cn_pi_j22 hA, Cn_pT])
            exact vcn
          · (try simp only [Vq0_pi_j22 hA, Vq0_pT])
            exact v0
          · (try simp only [Vq1_pi_j22 hA, Vq1_pT])
            exact v1
          · (try simp only [Vq2_pi_j22 hA, Vq2_pT])
            exact v2
          · (try simp only [Vp_thr hA, Vp_pT])
            exact vp
          · (try simp only [Vl0_pi_j22 hA, Vl0_pT])
            exact vl0
          · (try simp only [Vl1_pi_j22 hA, Vl1_pT])
            exact vl1
          · (try simp only [Vlr_pi_j22 hA, Vlr_pT])
            exact vlr
          · (try simp only [Vsr_pi_j22 hA, Vsr_pT])
            exact vsr
          · (try simp only [Vc_pi_j22 hA, Vc_pT])
            exact vc
          · (try simp only [Tx_pi_j22 hA])
            exact Tx_pT ht tx
        · skip
          simp only [o297_0, o297_2, o297_3, o297_4, o297_5, o297_6, o297_16, o297_18, o297_19, o297_20, o297_22, o297_23, o66_0, o66_1, o66_2, o66_5, o66_7, o66_8, o66_11, o66_12, o66_15, o66_16, o66_18, o189_0, o189_1, o189_2, o189_5, o189_8, o189_9, o189_12, o189_15, o189_16, o189_19, o189_20, o189_21, o189_24, o189_25, o189_27, o189_30, o189_31, o189_34, o189_35, o189_38, o189_41, o189_42, o189_43, o189_44, o189_45, o189_46, hx_297_1, hx_297_2, c_X5_checkSlot, c_X8_isSlot, c_X8_isThrown_, c_X8_isQueue, c_X5_checkAhead, c_queueOf_1, mc_pi, mc_pT, mi_pi, mi_pT, ml_pi, ml_pT, mz_pT, mcs_0, mcs_i, mcs_r, Kn_v, Kn_0, Kn_x, true_and, and_true, or_false, not_true_eq_false, not_false_eq_true, false_implies, forall_const, if_true, if_false, and_self, Nat.reduceLeDiff, Nat.reduceSub, Nat.reduceAdd, Nat.zero_le, Nat.le_refl, i10, lt_le, Int32.reduceLT, Sum.inl.injEq, Option.some.injEq, Value.int.injEq, exists_eq_left', Nat.reduceLT, i20, kc0, kc6, kc22, kr0_3, kz, bs, bs2, bx0, bx9]
          intro t ht
          first | refine ⟨⟨?_, ?_, ?_, ?_, ?_, ?_, ?_, ?_, ?_, ?_, ?_, ?_⟩, rfl⟩ | refine ⟨?_, ?_, ?_, ?_, ?_, ?_, ?_, ?_, ?_, ?_, ?_, ?_⟩
          · (try simp only [K_pi])
            exact K_pT ht vk
          · (try simp only [Cn_pi_j22 hA, Cn_pT])
            exact vcn
          · (try simp only [Vq0_pi_j22 hA, Vq0_pT])
            exact v0
          · (try simp only [Vq1_pi_j22 hA, Vq1_pT])
            exact v1
          · (try simp only [Vq2_pi_j22 hA, Vq2_pT])
            exact v2
          · (try simp only [Vp_thr hA, Vp_pT])
            exact vp
          · (try simp only [Vl0_pi_j22 hA, Vl0_pT])
            exact vl0
          · (try simp only [Vl1_pi_j22 hA, Vl1_pT])
            exact vl1
          · (try simp only [Vlr_pi_j22 hA, Vlr_pT])
            exact vlr
          · (try simp only [Vsr_pi_j22 hA, Vsr_pT])
            exact vsr
          · (try simp only [Vc_pi_j22 hA, Vc_pT])
            exact vc
          · (try simp only [Tx_pi_j22 hA])
            exact Tx_pT ht tx
        · skip
          simp only [o297_0, o297_2, o297_3, o297_4, o297_5, o297_6, o297_16, o297_18, o297_19, o297_20, o297_22, o297_23, o66_0, o66_1, o66_2, o66_5, o66_7, o66_8, o66_11, o66_12, o66_15, o66_16, o66_18, o189_0, o189_1, o189_2, o189_5, o189_8, o189_9, o189_12, o189_15, o189_16, o189_19, o189_20, o189_21, o189_24, o189_25, o189_27, o189_30, o189_31, o189_34, o189_35, o189_38, o189_41, o189_42, o189_43, o189_44, o189_45, o189_46, hx_297_1, hx_297_2, c_X5_checkSlot, c_X8_isSlot, c_X8_isThrown_, c_X8_isQueue, c_X5_checkAhead, c_queueOf_2, mc_pi, mc_pT, mi_pi, mi_pT, ml_pi, ml_pT, mz_pT, mcs_0, mcs_i, mcs_r, Kn_v, Kn_0, Kn_x, true_and, and_true, or_false, not_true_eq_false, not_false_eq_true, false_implies, forall_const, if_true, if_false, and_self, Nat.reduceLeDiff, Nat.reduceSub, Nat.reduceAdd, Nat.zero_le, Nat.le_refl, i10, lt_le, Int32.reduceLT, Sum.inl.injEq, Option.some.injEq, Value.int.injEq, exists_eq_left', Nat.reduceLT, i20, kc0, kc7, kc22, kr0_4, kz, bs, bs2, bx0, bx9]
          intro t ht
          first | refine ⟨⟨?_, ?_, ?_, ?_, ?_, ?_, ?_, ?_, ?_, ?_, ?_, ?_⟩, rfl⟩ | refine ⟨?_, ?_, ?_, ?_, ?_, ?_, ?_, ?_, ?_, ?_, ?_, ?_⟩
          · (try simp only [K_pi])
            exact K_pT ht vk
          · (try simp only [Cn_pi_j22 hA, Cn_pT])
            exact vcn
          · (try simp only [Vq0_pi_j22 hA, Vq0_pT])
            exact v0
          · (try simp only [Vq1_pi_j22 hA, Vq1_pT])
            exact v1
          · (try simp only [Vq2_pi_j22 hA, Vq2_pT])
            exact v2
          · (try simp only [Vp_thr hA, Vp_pT])
            exact vp
          · (try simp only [Vl0_pi_j22 hA, Vl0_pT])
            exact vl0
          · (try simp only [Vl1_pi_j22 hA, Vl1_pT])
            exact vl1
          · (try simp only [Vlr_pi_j22 hA, Vlr_pT])
            exact vlr
          · (try simp only [Vsr_pi_j22 hA, Vsr_pT])
            exact vsr
          · (try simp only [Vc_pi_j22 hA, Vc_pT])
            exact vc
          · (try simp only [Tx_pi_j22 hA])
            exact Tx_pT ht tx
      · have s1 : ¬ s < 0 := fun z => bs (Or.inl z)
        have s2 : s < 6 := Classical.byContradiction fun z => bs (Or.inr z)
        have hs := ix_ok s1 s2
        have hs2 := hs
        obtain ⟨⟨j0, j1, j2, j3⟩, d01, d02, d03, d10, d12, d13, d20, d21, d23, d30, d31, d32⟩ := hs2
        obtain ⟨l0, l1, l2, l3⟩ := ix_lt hs
        have vs0 := (vsr _ l0).1
        have vs1 := (vsr _ l1).1
        have vs2 := (vsr _ l2).1
        have vs3 := (vsr _ l3).1
        have bs2 : (¬ s < 0 ∧ s < 6) = True := eq_true ⟨s1, s2⟩
        rcases q_cases y1 y2 with rfl | rfl | rfl
        · have he := v0.1
          have hm := v0.2
          have hT : mT h (A 27) 0 (A 31) (A 34) = cT h (A 5) (A 8) (A 9) := he.symm
          have he2 := he
          simp only [cT, mT, Prod.mk.injEq] at he2
          obtain ⟨g1, g2, g3, g4, g5, g6, g7⟩ := he2
          replace g1 := g1.symm
          replace g2 := g2.symm
          replace g3 := g3.symm
          replace g4 := g4.symm
          replace g5 := g5.symm
          replace g6 := g6.symm
          replace g7 := g7.symm
          obtain ⟨hmk, har, hl0, hl9⟩ := qA_0 _ hm
          have hark : arok 0 (g_i h (A 5) 3) := fun z => absurd (by decide) z
          have n1 : ¬ A 8 = A 9 := fun z => absurd ((hAe 8 9 (by decide) (by decide)).mp z) (by decide)
          by_cases bl : x < lyF (cT h (A 5) (A 8) (A 9))
          · obtain ⟨i1, i2, hj⟩ := (qX_0 _ hm x (x_mem bx0 bx9)).resolve_left (fun z => z bl)
            have hj2 := hj.2.2
            have vlk := (vlr _ (rdy_lt hj)).symm
            simp only [o297_0, o297_2, o297_3, o297_4, o297_5, o297_6, o297_9, o297_10, o297_13, o297_16, o297_18, o297_19, o297_20, o297_22, o297_23, o297_24, o297_25, o66_0, o66_1, o66_2, o66_5, o66_7, o66_8, o66_11, o66_12, o66_15, o66_16, o66_18, o66_21, o66_24, o66_25, o66_28, o66_29, o66_33, o66_34, o66_37, o66_38, o66_39, o66_41, o66_42, o66_45, o66_48, o66_51, o189_0, o189_1, o189_2, o189_5, o189_8, o189_9, o189_12, o189_15, o189_16, o189_19, o189_20, o189_21, o189_24, o189_25, o189_27, o189_30, o189_31, o189_34, o189_35, o189_38, o189_41, o189_42, o189_43, o189_44, o189_45, o189_46, o189_49, o189_52, o189_53, o189_54, o189_60, o189_61, o189_62, o189_63, o189_64, o189_67, o189_68, o189_69, o189_70, o189_73, o189_74, o189_77, o189_80, hx_297_1, hx_297_2, c_X5_checkSlot, c_X8_isSlot, c_X8_isThrown_, c_X8_isQueue, c_X5_checkAhead, c_queueOf_0, c_X1_lying (w := A 8) (r := A 9), c_X1_lyingAt (w := A 8) (r := A 9) (rw := A 1) (cs := A 3) (n := 16), c_X8_liesOf (x2 := A 25) (x3 := A 26) (a := A 27) (w := A 31) (r := A 34), c_X8_cellOf (x2 := A 25) (x3 := A 26) (a := A 27) (w := A 31) (r := A 34), c_X5_layNumber (rw := A 2) (cs := A 4), c_X8_laid (sr := A 24), c_X0_done (cs := A 18), c_X8_done (cs := A 30), mc_pi, mc_pl, mc_pT, mn_pi, mn_pl, mn_pT, mi_pi, mi_pl, mi_pT, ml_pi, ml_pl, ml_pT, mr_pi, mr_pl, mr_pT, mz_pi, mz_pl, mz_pT, mcs_0, mcs_i, mcs_r, Kn_v, Kn_0, Kn_x, mrf_some, true_and, and_true, false_and, and_false, or_false, not_true_eq_false, not_false_eq_true, false_implies, implies_true, forall_const, if_true, if_false, and_self, Nat.reduceEqDiff, Nat.reduceLeDiff, Nat.reduceSub, Nat.reduceAdd, Nat.zero_le, Nat.le_refl, i10, i01, lt_le, Int32.reduceLT, cl0, Kc_v, Sum.inl.injEq, Option.some.injEq, Value.int.injEq, exists_eq_left', Nat.reduceLT, hAe, i20, kc0, kc1, kc2, kc3, kc4, kc5, kc8, kc9, kc17, kc18, kc22, kc23, kc24, kc25, kc26, kc27, kc30, kc31, kc34, kc39, kn3, kn4, kn18, kn23, kn24, kn25, kn26, kn27, kn30, kr0_1, kr0_2, kr0_9, kr1_0, kr2_0, kr5_0, kr5_1, kr9_0, kr17_0, kr22_0, kr22_1, kr22_2, kr22_3, kr22_4, kr22_8, kr25_0, kr26_0, kz, ki9_1, ki9_2, ki34_0, vq3, hT, Int32.reduceLT, cl0, s1, s2, hs, vs0, vs1, vs2, vs3, i64_inj, fo0, fo1, fo2, fo3, mT0_pi_j18 hA, mT0_pi_j22 hA, mT0_pl, mT0_pT, i1, i2, hj, hj2, vlk, bl, bx0, bx9]
            first | refine ⟨⟨?_, ?_, ?_, ?_, ?_, ?_, ?_, ?_, ?_, ?_, ?_, ?_⟩, rfl⟩ | refine ⟨?_, ?_, ?_, ?_, ?_, ?_, ?_, ?_, ?_, ?_, ?_, ?_⟩
            · (try simp only [K_pi, K_pl])
              exact vk
            · (try simp only [Cn_pi_j18 hA, Cn_pi_j22 hA, Cn_pi_j30 hA, Cn_pi_j24 hA, Cn_pl])
              exact vcn
            · (try simp only [Vq0_pi_j18 hA, Vq0_pi_j22 hA, Vq0_pi_j30 hA, Vq0_pi_j24 hA, Vq0_pl])
              exact v0
            · (try simp only [Vq1_pi_j18 hA, Vq1_pi_j22 hA, Vq1_pi_j30 hA, Vq1_pi_j24 hA, Vq1_pl])
              exact v1
            · (try simp only [Vq2_pi_j18 hA, Vq2_pi_j22 hA, Vq2_pi_j30 hA, Vq2_pi_j24 hA, Vq2_pl])
              exact v2
            · (try simp only [Vp_pi_j18 hA, Vp_pi_j30 hA, Vp_pi_j24 hA, Vp_thr hA, Vp_pl])
              exact vp
            · (try simp only [Vl0_pi_j18 hA, Vl0_pi_j22 hA, Vl0_pi_j30 hA, Vl0_pi_j24 hA, Vl0_pl])
              exact vl0
            · (try simp only [Vl1_pi_j18 hA, Vl1_pi_j22 hA, Vl1_pi_j30 hA, Vl1_pi_j24 hA, Vl1_pl])
              exact vl1
            · (try simp only [Vlr_pi_j18 hA, Vlr_pi_j22 hA, Vlr_pi_j30 hA, Vlr_pi_j24 hA, Vlr_pl_j39 hA, Vlr_pl_j4 hA])
              exact vlr
            · simp only [Vsr_pi_j30 hA]
              refine Vsr_nest vsr (fun k => ?_) (fun k => ?_) <;> simp only [mi_pi, mi_pl, ml_pi, ml_pl, hAe, Nat.reduceLT, Nat.reduceEqDiff, false_and, true_and, if_false]
            · refine Vc_of (c := 0) vc (by decide) (fun k => ?_) (fun k => ?_) <;> simp only [mi_pi, mi_pl, hAe, Nat.reduceLT, Nat.reduceEqDiff, false_and, true_and, if_false]
            · (try simp only [Tx_pi_j18 hA, Tx_pi_j22 hA, Tx_pi_j30 hA, Tx_pi_j24 hA, Tx_pl])
              exact tx
          · skip
            simp only [o297_0, o297_2, o297_3, o297_4, o297_5, o297_6, o297_9, o297_10, o297_13, o297_16, o297_18, o297_19, o297_20, o297_22, o297_23, o297_24, o297_25, o66_0, o66_1, o66_2, o66_5, o66_7, o66_8, o66_11, o66_12, o66_15, o66_16, o66_18, o66_21, o66_24, o66_25, o66_28, o66_29, o66_32, o66_33, o66_34, o66_37, o66_38, o66_39, o66_41, o66_42, o189_0, o189_1, o189_2, o189_5, o189_8, o189_9, o189_12, o189_15, o189_16, o189_19, o189_20, o189_21, o189_24, o189_25, o189_27, o189_30, o189_31, o189_34, o189_35, o189_38, o189_41, o189_42, o189_43, o189_44, o189_45, o189_46, o189_49, o189_52, o189_53, o189_54, o189_57, o189_60, o189_61, o189_62, o189_63, o189_64, o189_67, o189_68, o189_69, o189_70, o189_80, hx_297_1, hx_297_2, c_X5_checkSlot, c_X8_isSlot, c_X8_isThrown_, c_X8_isQueue, c_X5_checkAhead, c_queueOf_0, c_X1_lying (w := A 8) (r := A 9), c_ref_5 (cs := A 18), c_X8_liesOf (x2 := A 25) (x3 := A 26) (a := A 27) (w := A 31) (r := A 34), c_X8_no (cs := A 30), mc_pi, mc_pl, mc_pT, mn_pi, mn_pl, mn_pT, mi_pi, mi_pl, mi_pT, ml_pi, ml_pl, ml_pT, mr_pi, mr_pl, mr_pT, mz_pi, mz_pl, mz_pT, mcs_0, mcs_i, mcs_r, Kn_v, Kn_0, Kn_x, mrf_some, true_and, and_true, and_false, or_false, not_true_eq_false, not_false_eq_true, false_implies, implies_true, forall_const, if_true, if_false, and_self, Nat.reduceEqDiff, Nat.reduceLeDiff, Nat.reduceSub, Nat.reduceAdd, Nat.zero_le, Nat.le_refl, i10, i01, lt_le, Int32.reduceLT, Int32.reduceSub, cl0, cl5, Kc_v, Sum.inl.injEq, Option.some.injEq, Value.int.injEq, exists_eq_left', Nat.reduceLT, hAe, i20, kc0, kc5, kc8, kc9, kc17, kc18, kc22, kc25, kc26, kc27, kc30, kc31, kc34, kc39, kn18, kn25, kn26, kn27, kn30, kr0_2, kr0_9, kr5_0, kr5_1, kr17_0, kr22_0, kr22_2, kr22_3, kr22_4, kr22_8, kr25_0, kr26_0, kz, vq3, hT, Int32.reduceLT, cl0, s1, s2, i64_inj, mT0_pi_j18 hA, mT0_pi_j22 hA, mT0_pl, mT0_pT, bl, bx0, bx9, v18, cl5]
            first | refine ⟨⟨?_, ?_, ?_, ?_, ?_, ?_, ?_, ?_, ?_, ?_, ?_, ?_⟩, rfl⟩ | refine ⟨?_, ?_, ?_, ?_, ?_, ?_, ?_, ?_, ?_, ?_, ?_, ?_⟩
            · (try simp only [K_pi, K_pl])
              exact vk
            · (try simp only [Cn_pi_j18 hA, Cn_pi_j22 hA, Cn_pi_j30 hA, Cn_pl])
              exact vcn
            · (try simp only [Vq0_pi_j18 hA, Vq0_pi_j22 hA, Vq0_pi_j30 hA, Vq0_pl])
              exact v0
            · (try simp only [Vq1_pi_j18 hA, Vq1_pi_j22 hA, Vq1_pi_j30 hA, Vq1_pl])
              exact v1
            · (try simp only [Vq2_pi_j18 hA, Vq2_pi_j22 hA, Vq2_pi_j30 hA, Vq2_pl])
              exact v2
            · (try simp only [Vp_pi_j18 hA, Vp_pi_j30 hA, Vp_thr hA, Vp_pl])
              exact vp
            · (try simp only [Vl0_pi_j18 hA, Vl0_pi_j22 hA, Vl0_pi_j30 hA, Vl0_pl])
              exact vl0
            · (try simp only [Vl1_pi_j18 hA, Vl1_pi_j22 hA, Vl1_pi_j30 hA, Vl1_pl])
              exact vl1
            · (try simp only [Vlr_pi_j18 hA, Vlr_pi_j22 hA, Vlr_pi_j30 hA, Vlr_pl_j39 hA])
              exact vlr
            · (try simp only [Vsr_pi_j18 hA, Vsr_pi_j22 hA, Vsr_pi_j30 hA, Vsr_pl_j39 hA])
              exact vsr
            · refine Vc_of (c := 5) vc (by decide) (fun k => ?_) (fun k => ?_) <;> simp only [mi_pi, mi_pl, hAe, Nat.reduceLT, Nat.reduceEqDiff, false_and, true_and, if_false]
            · (try simp only [Tx_pi_j18 hA, Tx_pi_j22 hA, Tx_pi_j30 hA, Tx_pl])
              exact tx
        · have he := v1.1
          have hm := v1.2
          have hT : mT h (A 27) 1 (A 32) (A 35) = cT h (A 6) (A 10) (A 11) := he.symm
          have he2 := he
          simp only [cT, mT, Prod.mk.injEq] at he2
          obtain ⟨g1, g2, g3, g4, g5, g6, g7⟩ := he2
          replace g1 := g1.symm
          replace g2 := g2.symm
          replace g3 := g3.symm
          replace g4 := g4.symm
          replace g5 := g5.symm
          replace g6 := g6.symm
          replace g7 := g7.symm
          obtain ⟨hmk, har, hl0, hl9⟩ := qA_1 _ hm
          have hark : arok 1 (g_i h (A 6) 3) := fun z => absurd (by decide) z
          have n1 : ¬ A 10 = A 11 := fun z => absurd ((hAe 10 11 (by decide) (by decide)).mp z) (by decide)
          by_cases bl : x < lyF (cT h (A 6) (A 10) (A 11))
          · obtain ⟨i1, i2, hj⟩ := (qX_1 _ hm x (x_mem bx0 bx9)).resolve_left (fun z => z bl)
            have hj2 := hj.2.2
            have vlk := (vlr _ (rdy_lt hj)).symm
            simp only [o297_0, o297_2, o297_3, o297_4, o297_5, o297_6, o297_9, o297_10, o297_13, o297_16, o297_18, o297_19, o297_20, o297_22, o297_23, o297_24, o297_25, o66_0, o66_1, o66_2, o66_5, o66_7, o66_8, o66_11, o66_12, o66_15, o66_16, o66_18, o66_21, o66_24, o66_25, o66_28, o66_29, o66_33, o66_34, o66_37, o66_38, o66_39, o66_41, o66_42, o66_45, o66_48, o66_51, o189_0, o189_1, o189_2, o189_5, o189_8, o189_9, o189_12, o189_15, o189_16, o189_19, o189_20, o189_21, o189_24, o189_25, o189_27, o189_30, o189_31, o189_34, o189_35, o189_38, o189_41, o189_42, o189_43, o189_44, o189_45, o189_46, o189_49, o189_52, o189_53, o189_54, o189_60, o189_61, o189_62, o189_63, o189_64, o189_67, o189_68, o189_69, o189_70, o189_73, o189_74, o189_77, o189_80, hx_297_1, hx_297_2, c_X5_checkSlot, c_X8_isSlot, c_X8_isThrown_, c_X8_isQueue, c_X5_checkAhead, c_queueOf_1, c_X1_lying (w := A 10) (r := A 11), c_X1_lyingAt (w := A 10) (r := A 11) (rw := A 1) (cs := A 3) (n := 16), c_X8_liesOf (x2 := A 25) (x3 := A 26) (a := A 27) (w := A 32) (r := A 35), c_X8_cellOf (x2 := A 25) (x3 := A 26) (a := A 27) (w := A 32) (r := A 35), c_X5_layNumber (rw := A 2) (cs := A 4), c_X8_laid (sr := A 24), c_X0_done (cs := A 18), c_X8_done (cs := A 30), mc_pi, mc_pl, mc_pT, mn_pi, mn_pl, mn_pT, mi_pi, mi_pl, mi_pT, ml_pi, ml_pl, ml_pT, mr_pi, mr_pl, mr_pT, mz_pi, mz_pl, mz_pT, mcs_0, mcs_i, mcs_r, Kn_v, Kn_0, Kn_x, mrf_some, true_and, and_true, false_and, and_false, or_false, not_true_eq_false, not_false_eq_true, false_implies, implies_true, forall_const, if_true, if_false, and_self, Nat.reduceEqDiff, Nat.reduceLeDiff, Nat.reduceSub, Nat.reduceAdd, Nat.zero_le, Nat.le_refl, i10, i01, lt_le, Int32.reduceLT, cl1, Kc_v, Sum.inl.injEq, Option.some.injEq, Value.int.injEq, exists_eq_left', Nat.reduceLT, hAe, i20, kc0, kc1, kc2, kc3, kc4, kc6, kc10, kc11, kc17, kc18, kc22, kc23, kc24, kc25, kc26, kc27, kc30, kc32, kc35, kc39, kn3, kn4, kn18, kn23, kn24, kn25, kn26, kn27, kn30, kr0_1, kr0_3, kr0_9, kr1_0, kr2_0, kr6_0, kr6_1, kr11_0, kr17_0, kr22_0, kr22_1, kr22_2, kr22_3, kr22_4, kr22_8, kr25_1, kr26_1, kz, ki11_1, ki11_2, ki35_0, vq3, hT, Int32.reduceLT, cl1, s1, s2, hs, vs0, vs1, vs2, vs3, i64_inj, fo0, fo1, fo2, fo3, mT1_pi_j18 hA, mT1_pi_j22 hA, mT1_pl, mT1_pT, i1, i2, hj, hj2, vlk, bl, bx0, bx9]
            first | refine ⟨⟨?_, ?_, ?_, ?_, ?_, ?_, ?_, ?_, ?_, ?_, ?_, ?_⟩, rfl⟩ | refine ⟨?_, ?_, ?_, ?_, ?_, ?_, ?_, ?_, ?_, ?_, ?_, ?_⟩
            · (try simp only [K_pi, K_pl])
              exact vk
            · (try simp only [Cn_pi_j18 hA, Cn_pi_j22 hA, Cn_pi_j30 hA, Cn_pi_j24 hA, Cn_pl])
              exact vcn
            · (try simp only [Vq0_pi_j18 hA, Vq0_pi_j22 hA, Vq0_pi_j30 hA, Vq0_pi_j24 hA, Vq0_pl])
              exact v0
            · (try simp only [Vq1_pi_j18 hA, Vq1_pi_j22 hA, Vq1_pi_j30 hA, Vq1_pi_j24 hA, Vq1_pl])
              exact v1
            · (try simp only [Vq2_pi_j18 hA, Vq2_pi_j22 hA, Vq2_pi_j30 hA, Vq2_pi_j24 hA, Vq2_pl])
              exact v2
            · (try simp only [Vp_pi_j18 hA, Vp_pi_j30 hA, Vp_pi_j24 hA, Vp_thr hA, Vp_pl])
              exact vp
            · (try simp only [Vl0_pi_j18 hA, Vl0_pi_j22 hA, Vl0_pi_j30 hA, Vl0_pi_j24 hA, Vl0_pl])
              exact vl0
            · (try simp only [Vl1_pi_j18 hA, Vl1_pi_j22 hA, Vl1_pi_j30 hA, Vl1_pi_j24 hA, Vl1_pl])
              exact vl1
            · (try simp only [Vlr_pi_j18 hA, Vlr_pi_j22 hA, Vlr_pi_j30 hA, Vlr_pi_j24 hA, Vlr_pl_j39 hA, Vlr_pl_j4 hA])
              exact vlr
            · simp only [Vsr_pi_j30 hA]
              refine Vsr_nest vsr (fun k => ?_) (fun k => ?_) <;> simp only [mi_pi, mi_pl, ml_pi, ml_pl, hAe, Nat.reduceLT, Nat.reduceEqDiff, false_and, true_and, if_false]
            · refine Vc_of (c := 0) vc (by decide) (fun k => ?_) (fun k => ?_) <;> simp only [mi_pi, mi_pl, hAe, Nat.reduceLT, Nat.reduceEqDiff, false_and, true_and, if_false]
            · (try simp only [Tx_pi_j18 hA, Tx_pi_j22 hA, Tx_pi_j30 hA, Tx_pi_j24 hA, Tx_pl])
              exact tx
          · skip
            simp only [o297_0, o297_2, o297_3, o297_4, o297_5, o297_6, o297_9, o297_10, o297_13, o297_16, o297_18, o297_19, o297_20, o297_22, o297_23, o297_24, o297_25, o66_0, o66_1, o66_2, o66_5, o66_7, o66_8, o66_11, o66_12, o66_15, o66_16, o66_18, o66_21, o66_24, o66_25, o66_28, o66_29, o66_32, o66_33, o66_34, o66_37, o66_38, o66_39, o66_41, o66_42, o189_0, o189_1, o189_2, o189_5, o189_8, o189_9, o189_12, o189_15, o189_16, o189_19, o189_20, o189_21, o189_24, o189_25, o189_27, o189_30, o189_31, o189_34, o189_35, o189_38, o189_41, o189_42, o189_43, o189_44, o189_45, o189_46, o189_49, o189_52, o189_53, o189_54, o189_57, o189_60, o189_61, o189_62, o189_63, o189_64, o189_67, o189_68, o189_69, o189_70, o189_80, hx_297_1, hx_297_2, c_X5_checkSlot, c_X8_isSlot, c_X8_isThrown_, c_X8_isQueue, c_X5_checkAhead, c_queueOf_1, c_X1_lying (w := A 10) (r := A 11), c_ref_5 (cs := A 18), c_X8_liesOf (x2 := A 25) (x3 := A 26) (a := A 27) (w := A 32) (r := A 35), c_X8_no (cs := A 30), mc_pi, mc_pl, mc_pT, mn_pi, mn_pl, mn_pT, mi_pi, mi_pl, mi_pT, ml_pi, ml_pl, ml_pT, mr_pi, mr_pl, mr_pT, mz_pi, mz_pl, mz_pT, mcs_0, mcs_i, mcs_r, Kn_v, Kn_0, Kn_x, mrf_some, true_and, and_true, and_false, or_false, not_true_eq_false, not_false_eq_true, false_implies, implies_true, forall_const, if_true, if_false, and_self, Nat.reduceEqDiff, Nat.reduceLeDiff, Nat.reduceSub, Nat.reduceAdd, Nat.zero_le, Nat.le_refl, i10, i01, lt_le, Int32.reduceLT, Int32.reduceSub, cl1, cl5, Kc_v, Sum.inl.injEq, Option.some.injEq, Value.int.injEq, exists_eq_left', Nat.reduceLT, hAe, i20, kc0, kc6, kc10, kc11, kc17, kc18, kc22, kc25, kc26, kc27, kc30, kc32, kc35, kc39, kn18, kn25, kn26, kn27, kn30, kr0_3, kr0_9, kr6_0, kr6_1, kr17_0, kr22_0, kr22_2, kr22_3, kr22_4, kr22_8, kr25_1, kr26_1, kz, vq3, hT, Int32.reduceLT, cl1, s1, s2, i64_inj, mT1_pi_j18 hA, mT1_pi_j22 hA, mT1_pl, mT1_pT, bl, bx0, bx9, v18, cl5]
            first | refine ⟨⟨?_, ?_, ?_, ?_, ?_, ?_, ?_, ?_, ?_, ?_, ?_, ?_⟩, rfl⟩ | refine ⟨?_, ?_, ?_, ?_, ?_, ?_, ?_, ?_, ?_, ?_, ?_, ?_⟩
            · (try simp only [K_pi, K_pl])
              exact vk
            · (try simp only [Cn_pi_j18 hA, Cn_pi_j22 hA, Cn_pi_j30 hA, Cn_pl])
              exact vcn
            · (try simp only [Vq0_pi_j18 hA, Vq0_pi_j22 hA, Vq0_pi_j30 hA, Vq0_pl])
              exact v0
            · (try simp only [Vq1_pi_j18 hA, Vq1_pi_j22 hA, Vq1_pi_j30 hA, Vq1_pl])
              exact v1
            · (try simp only [Vq2_pi_j18 hA, Vq2_pi_j22 hA, Vq2_pi_j30 hA, Vq2_pl])
              exact v2
            · (try simp only [Vp_pi_j18 hA, Vp_pi_j30 hA, Vp_thr hA, Vp_pl])
              exact vp
            · (try simp only [Vl0_pi_j18 hA, Vl0_pi_j22 hA, Vl0_pi_j30 hA, Vl0_pl])
              exact vl0
            · (try simp only [Vl1_pi_j18 hA, Vl1_pi_j22 hA, Vl1_pi_j30 hA, Vl1_pl])
              exact vl1
            · (try simp only [Vlr_pi_j18 hA, Vlr_pi_j22 hA, Vlr_pi_j30 hA, Vlr_pl_j39 hA])
              exact vlr
            · (try simp only [Vsr_pi_j18 hA, Vsr_pi_j22 hA, Vsr_pi_j30 hA, Vsr_pl_j39 hA])
              exact vsr
            · refine Vc_of (c := 5) vc (by decide) (fun k => ?_) (fun k => ?_) <;> simp only [mi_pi, mi_pl, hAe, Nat.reduceLT, Nat.reduceEqDiff, false_and, true_and, if_false]
            · (try simp only [Tx_pi_j18 hA, Tx_pi_j22 hA, Tx_pi_j30 hA, Tx_pl])
              exact tx
        · have he := v2.1
          have hm := v2.2
          have hT : mT h (A 27) 2 (A 33) (A 36) = cT h (A 7) (A 12) (A 13) := he.symm
          have he2 := he
          simp only [cT, mT, Prod.mk.injEq] at he2
          obtain ⟨g1, g2, g3, g4, g5, g6, g7⟩ := he2
          replace g1 := g1.symm
          replace g2 := g2.symm
          replace g3 := g3.symm
          replace g4 := g4.symm
          replace g5 := g5.symm
          replace g6 := g6.symm
          replace g7 := g7.symm
          obtain ⟨hmk, har, hl0, hl9⟩ := qA_2 _ hm
          have hark : arok 2 (g_i h (A 7) 3) := fun _ => har
          have n1 : ¬ A 12 = A 13 := fun z => absurd ((hAe 12 13 (by decide) (by decide)).mp z) (by decide)
          by_cases bl : x < lyF (cT h (A 7) (A 12) (A 13))
          · obtain ⟨i1, i2, hj⟩ := (qX_2 _ hm x (x_mem bx0 bx9)).resolve_left (fun z => z bl)
            have hj2 := hj.2.2
            have vlk := (vlr _ (rdy_lt hj)).symm
            simp only [o297_0, o297_2, o297_3, o297_4, o297_5, o297_6, o297_9, o297_10, o297_13, o297_16, o297_18, o297_19, o297_20, o297_22, o297_23, o297_24, o297_25, o66_0, o66_1, o66_2, o66_5, o66_7, o66_8, o66_11, o66_12, o66_15, o66_16, o66_18, o66_21, o66_24, o66_25, o66_28, o66_29, o66_33, o66_34, o66_37, o66_38, o66_39, o66_41, o66_42, o66_45, o66_48, o66_51, o189_0, o189_1, o189_2, o189_5, o189_8, o189_9, o189_12, o189_15, o189_16, o189_19, o189_20, o189_21, o189_24, o189_25, o189_27, o189_30, o189_31, o189_34, o189_35, o189_38, o189_41, o189_42, o189_43, o189_44, o189_45, o189_46, o189_49, o189_52, o189_53, o189_54, o189_60, o189_61, o189_62, o189_63, o189_64, o189_67, o189_68, o189_69, o189_70, o189_73, o189_74, o189_77, o189_80, hx_297_1, hx_297_2, c_X5_checkSlot, c_X8_isSlot, c_X8_isThrown_, c_X8_isQueue, c_X5_checkAhead, c_queueOf_2, c_X1_lying (w := A 12) (r := A 13), c_X1_lyingAt (w := A 12) (r := A 13) (rw := A 1) (cs := A 3) (n := 16), c_X8_liesOf (x2 := A 25) (x3 := A 26) (a := A 27) (w := A 33) (r := A 36), c_X8_cellOf (x2 := A 25) (x3 := A 26) (a := A 27) (w := A 33) (r := A 36), c_X5_layNumber (rw := A 2) (cs := A 4), c_X8_laid (sr := A 24), c_X0_done (cs := A 18), c_X8_done (cs := A 30), mc_pi, mc_pl, mc_pT, mn_pi, mn_pl, mn_pT, mi_pi, mi_pl, mi_pT, ml_pi, ml_pl, ml_pT, mr_pi, mr_pl, mr_pT, mz_pi, mz_pl, mz_pT, mcs_0, mcs_i, mcs_r, Kn_v, Kn_0, Kn_x, mrf_some, true_and, and_true, false_and, and_false, or_false, not_true_eq_false, not_false_eq_true, false_implies, implies_true, forall_const, if_true, if_false, and_self, Nat.reduceEqDiff, Nat.reduceLeDiff, Nat.reduceSub, Nat.reduceAdd, Nat.zero_le, Nat.le_refl, i10, i01, lt_le, Int32.reduceLT, cl2, Kc_v, Sum.inl.injEq, Option.some.injEq, Value.int.injEq, exists_eq_left', Nat.reduceLT, hAe, i20, kc0, kc1, kc2, kc3, kc4, kc7, kc12, kc13, kc17, kc18, kc22, kc23, kc24, kc25, kc26, kc27, kc30, kc33, kc36, kc39, kn3, kn4, kn18, kn23, kn24, kn25, kn26, kn27, kn30, kr0_1, kr0_4, kr0_9, kr1_0, kr2_0, kr7_0, kr7_1, kr13_0, kr17_0, kr22_0, kr22_1, kr22_2, kr22_3, kr22_4, kr22_8, kr25_2, kr26_2, kz, ki13_1, ki13_2, ki36_0, vq3, hT, Int32.reduceLT, cl2, s1, s2, hs, vs0, vs1, vs2, vs3, i64_inj, fo0, fo1, fo2, fo3, mT2_pi_j18 hA, mT2_pi_j22 hA, mT2_pl, mT2_pT, i1, i2, hj, hj2, vlk, bl, bx0, bx9]
            first | refine ⟨⟨?_, ?_, ?_, ?_, ?_, ?_, ?_, ?_, ?_, ?_, ?_, ?_⟩, rfl⟩ | refine ⟨?_, ?_, ?_, ?_, ?_, ?_, ?_, ?_, ?_, ?_, ?_, ?_⟩
            · (try simp only [K_pi, K_pl])
              exact vk
            · (try simp only [Cn_pi_j18 hA, Cn_pi_j22 hA, Cn_pi_j30 hA, Cn_pi_j24 hA, Cn_pl])
              exact vcn
            · (try simp only [Vq0_pi_j18 hA, Vq0_pi_j22 hA, Vq0_pi_j30 hA, Vq0_pi_j24 hA, Vq0_pl])
              exact v0
            · (try simp only [Vq1_pi_j18 hA, Vq1_pi_j22 hA, Vq1_pi_j30 hA, Vq1_pi_j24 hA, Vq1_pl])
              exact v1
            · (try simp only [Vq2_pi_j18 hA, Vq2_pi_j22 hA, Vq2_pi_j30 hA, Vq2_pi_j24 hA, Vq2_pl])
              exact v2
            · (try simp only [Vp_pi_j18 hA, Vp_pi_j30 hA, Vp_pi_j24 hA, Vp_thr hA, Vp_pl])
              exact vp
            · (try simp only [Vl0_pi_j18 hA, Vl0_pi_j22 hA, Vl0_pi_j30 hA, Vl0_pi_j24 hA, Vl0_pl])
              exact vl0
            · (try simp only [Vl1_pi_j18 hA, Vl1_pi_j22 hA, Vl1_pi_j30 hA, Vl1_pi_j24 hA, Vl1_pl])
              exact vl1
            · (try simp only [Vlr_pi_j18 hA, Vlr_pi_j22 hA, Vlr_pi_j30 hA, Vlr_pi_j24 hA, Vlr_pl_j39 hA, Vlr_pl_j4 hA])
              exact vlr
            · simp only [Vsr_pi_j30 hA]
              refine Vsr_nest vsr (fun k => ?_) (fun k => ?_) <;> simp only [mi_pi, mi_pl, ml_pi, ml_pl, hAe, Nat.reduceLT, Nat.reduceEqDiff, false_and, true_and, if_false]
            · refine Vc_of (c := 0) vc (by decide) (fun k => ?_) (fun k => ?_) <;> simp only [mi_pi, mi_pl, hAe, Nat.reduceLT, Nat.reduceEqDiff, false_and, true_and, if_false]
            · (try simp only [Tx_pi_j18 hA, Tx_pi_j22 hA, Tx_pi_j30 hA, Tx_pi_j24 hA, Tx_pl])
              exact tx
          · skip
            simp only [o297_0, o297_2, o297_3, o297_4, o297_5, o297_6, o297_9, o297_10, o297_13, o297_16, o297_18, o297_19, o297_20, o297_22, o297_23, o297_24, o297_25, o66_0, o66_1, o66_2, o66_5, o66_7, o66_8, o66_11, o66_12, o66_15, o66_16, o66_18, o66_21, o66_24, o66_25, o66_28, o66_29, o66_32, o66_33, o66_34, o66_37, o66_38, o66_39, o66_41, o66_42, o189_0, o189_1, o189_2, o189_5, o189_8, o189_9, o189_12, o189_15, o189_16, o189_19, o189_20, o189_21, o189_24, o189_25, o189_27, o189_30, o189_31, o189_34, o189_35, o189_38, o189_41, o189_42, o189_43, o189_44, o189_45, o189_46, o189_49, o189_52, o189_53, o189_54, o189_57, o189_60, o189_61, o189_62, o189_63, o189_64, o189_67, o189_68, o189_69, o189_70, o189_80, hx_297_1, hx_297_2, c_X5_checkSlot, c_X8_isSlot, c_X8_isThrown_, c_X8_isQueue, c_X5_checkAhead, c_queueOf_2, c_X1_lying (w := A 12) (r := A 13), c_ref_5 (cs := A 18), c_X8_liesOf (x2 := A 25) (x3 := A 26) (a := A 27) (w := A 33) (r := A 36), c_X8_no (cs := A 30), mc_pi, mc_pl, mc_pT, mn_pi, mn_pl, mn_pT, mi_pi, mi_pl, mi_pT, ml_pi, ml_pl, ml_pT, mr_pi, mr_pl, mr_pT, mz_pi, mz_pl, mz_pT, mcs_0, mcs_i, mcs_r, Kn_v, Kn_0, Kn_x, mrf_some, true_and, and_true, and_false, or_false, not_true_eq_false, not_false_eq_true, false_implies, implies_true, forall_const, if_true, if_false, and_self, Nat.reduceEqDiff, Nat.reduceLeDiff, Nat.reduceSub, Nat.reduceAdd, Nat.zero_le, Nat.le_refl, i10, i01, lt_le, Int32.reduceLT, Int32.reduceSub, cl2, cl5, Kc_v, Sum.inl.injEq, Option.some.injEq, Value.int.injEq, exists_eq_left', Nat.reduceLT, hAe, i20, kc0, kc7, kc12, kc13, kc17, kc18, kc22, kc25, kc26, kc27, kc30, kc33, kc36, kc39, kn18, kn25, kn26, kn27, kn30, kr0_4, kr0_9, kr7_0, kr7_1, kr17_0, kr22_0, kr22_2, kr22_3, kr22_4, kr22_8, kr25_2, kr26_2, kz, vq3, hT, Int32.reduceLT, cl2, s1, s2, i64_inj, mT2_pi_j18 hA, mT2_pi_j22 hA, mT2_pl, mT2_pT, bl, bx0, bx9, v18, cl5]
            first | refine ⟨⟨?_, ?_, ?_, ?_, ?_, ?_, ?_, ?_, ?_, ?_, ?_, ?_⟩, rfl⟩ | refine ⟨?_, ?_, ?_, ?_, ?_, ?_, ?_, ?_, ?_, ?_, ?_, ?_⟩
            · (try simp only [K_pi, K_pl])
              exact vk
            · (try simp only [Cn_pi_j18 hA, Cn_pi_j22 hA, Cn_pi_j30 hA, Cn_pl])
              exact vcn
            · (try simp only [Vq0_pi_j18 hA, Vq0_pi_j22 hA, Vq0_pi_j30 hA, Vq0_pl])
              exact v0
            · (try simp only [Vq1_pi_j18 hA, Vq1_pi_j22 hA, Vq1_pi_j30 hA, Vq1_pl])
              exact v1
            · (try simp only [Vq2_pi_j18 hA, Vq2_pi_j22 hA, Vq2_pi_j30 hA, Vq2_pl])
              exact v2
            · (try simp only [Vp_pi_j18 hA, Vp_pi_j30 hA, Vp_thr hA, Vp_pl])
              exact vp
            · (try simp only [Vl0_pi_j18 hA, Vl0_pi_j22 hA, Vl0_pi_j30 hA, Vl0_pl])
              exact vl0
            · (try simp only [Vl1_pi_j18 hA, Vl1_pi_j22 hA, Vl1_pi_j30 hA, Vl1_pl])
              exact vl1
            · (try simp only [Vlr_pi_j18 hA, Vlr_pi_j22 hA, Vlr_pi_j30 hA, Vlr_pl_j39 hA])
              exact vlr
            · (try simp only [Vsr_pi_j18 hA, Vsr_pi_j22 hA, Vsr_pi_j30 hA, Vsr_pl_j39 hA])
              exact vsr
            · refine Vc_of (c := 5) vc (by decide) (fun k => ?_) (fun k => ?_) <;> simp only [mi_pi, mi_pl, hAe, Nat.reduceLT, Nat.reduceEqDiff, false_and, true_and, if_false]
            · (try simp only [Tx_pi_j18 hA, Tx_pi_j22 hA, Tx_pi_j30 hA, Tx_pl])
              exact tx

theorem hx_298_1 {l rest : List Value} {bc bs : Nat} {Q : MR → MH → Prop} {h : MH} : Kc Ok 298 6 9 l rest bc bs Q (.inr 1) h ↔ ∀ q : Nat, Ok 298 16 l [.ref q] h bc bs Q := Kc_x (by decide +kernel) (by decide +kernel)
theorem hx_298_2 {l rest : List Value} {bc bs : Nat} {Q : MR → MH → Prop} {h : MH} : Kc Ok 298 6 9 l rest bc bs Q (.inr 2) h ↔ ∀ q : Nat, Ok 298 20 l [.ref q] h bc bs Q := Kc_x (by decide +kernel) (by decide +kernel)
theorem op_mend {A : Nat → Nat} {h : MH} (R : Rl A h) {q x s : Int32} : Ok 298 0 [.ref (A 0), .int q, .int x, .int s, .ref (A 39), mk0] [] h 3 18 (fun r h1 => ∃ k : Int32, r = .inl (some (.int k)) ∧ g_c h1 (A 22) = 9 ∧ Ok 190 0 [.ref (A 22), .int q, .int x, .int s, mk0, mk0] [] h1 0 0 (fun r2 h2 => ∃ b : Int32, r2 = .inl (some (.int b)) ∧ Rl A h2 ∧ g_i h2 (A 22) 9 = k ∧ (k = 0 → g_l h2 (A 39) 0 = b.toInt64))) := by
  obtain ⟨vk, vcn, v0, v1, v2, vp, vl0, vl1, vlr, vsr, vc, tx⟩ := R
  have vk0 := vk
  have vcn0 := vcn
  (refine K_el vk0 ?_; intros hA kc0 kc1 kc2 kc3 kc4 kc5 kc6 kc7 kc8 kc9 kc10 kc11 kc12 kc13 kc14 kc15 kc16 kc17 kc18 kc19 kc20 kc21 kc22 kc23 kc24 kc25 kc26 kc27 kc28 kc29 kc30 kc31 kc32 kc33 kc34 kc35 kc36 kc37 kc38 kc39 kz kt kn3 kn4 kn18 kn21 kn23 kn24 kn25 kn26 kn27 kn29 kn30 kr0_0 kr0_1 kr0_2 kr0_3 kr0_4 kr0_5 kr0_7 kr0_8 kr0_9 kr0_10 kr1_0 kr2_0 kr5_0 kr5_1 kr6_0 kr6_1 kr7_0 kr7_1 kr8_0 kr9_0 kr10_0 kr11_0 kr12_0 kr13_0 kr14_0 kr15_0 kr16_0 kr17_0 kr19_0 kr19_1 kr22_0 kr22_1 kr22_2 kr22_3 kr22_4 kr22_5 kr22_7 kr22_8 kr25_0 kr25_1 kr25_2 kr26_0 kr26_1 kr26_2 kr29_0 kr29_1)
  (refine Cn_el vcn0 ?_; intros ki5_2 ki6_2 ki7_2 ki8_1 ki8_2 ki8_3 ki9_1 ki9_2 ki9_3 ki10_1 ki10_2 ki10_3 ki11_1 ki11_2 ki11_3 ki12_1 ki12_2 ki12_3 ki13_1 ki13_2 ki13_3 ki14_1 ki14_2 ki14_3 ki28_0 ki28_1 ki31_0 ki31_1 ki32_0 ki32_1 ki33_0 ki33_1 ki34_0 ki34_1 ki35_0 ki35_1 ki36_0 ki36_1)
  have hAe : ∀ i j, i < 40 → j < 40 → (A i = A j ↔ i = j) := hA
  by_cases bx0 : x < 0 <;> by_cases bx9 : 9 < x
  · exact absurd (Int32.lt_trans bx9 bx0) (by decide)
  · by_cases bq : q < 0 ∨ ¬ q < 3
    · have bq2 : (¬ q < 0 ∧ q < 3) = False := nrng bq
      by_cases bs : (¬ s < 0 ∧ s < 6)
      all_goals
        simp only [o298_0, o298_2, o298_3, o298_4, o298_5, o298_6, o298_16, o298_18, o298_19, o67_0, o67_1, o67_2, o190_0, o190_1, o190_2, o190_5, o190_8, o190_9, o190_12, o190_15, o190_16, o190_19, o190_20, o190_21, o190_24, o190_25, o190_27, o190_30, o190_31, o190_34, o190_35, o190_38, o190_41, o190_42, o190_43, o190_44, o190_45, o190_46, hx_298_1, c_X8_isSlot, c_X8_isThrown_, c_X8_isQueue, c_queueOf_bad, mc_pi, mc_pT, mi_pi, mi_pT, ml_pi, ml_pT, mz_pT, mcs_0, mcs_i, mcs_r, Kn_v, Kn_x, true_and, and_true, not_true_eq_false, not_false_eq_true, false_implies, forall_const, if_true, if_false, and_self, Nat.reduceLeDiff, Nat.reduceSub, Nat.reduceAdd, Nat.zero_le, Nat.le_refl, i10, lt_le, Sum.inl.injEq, Option.some.injEq, Value.int.injEq, exists_eq_left', Nat.reduceLT, kc0, kc22, kz, bq, bq2, bs, bx0, bx9]
        intro t ht
        first | refine ⟨⟨?_, ?_, ?_, ?_, ?_, ?_, ?_, ?_, ?_, ?_, ?_, ?_⟩, rfl⟩ | refine ⟨?_, ?_, ?_, ?_, ?_, ?_, ?_, ?_, ?_, ?_, ?_, ?_⟩
        · (try simp only [K_pi])
          exact K_pT ht vk
        · (try simp only [Cn_pi_j22 hA, Cn_pT])
          exact vcn
        · (try simp only [Vq0_pi_j22 hA, Vq0_pT])
          exact v0
        · (try simp only [Vq1_pi_j22 hA, Vq1_pT])
          exact v1
        · (try simp only [Vq2_pi_j22 hA, Vq2_pT])
          exact v2
        · (try simp only [Vp_thr hA, Vp_pT])
          exact vp
        · (try simp only [Vl0_pi_j22 hA, Vl0_pT])
          exact vl0
        · (try simp only [Vl1_pi_j22 hA, Vl1_pT])
          exact vl1
        · (try simp only [Vlr_pi_j22 hA, Vlr_pT])
          exact vlr
        · (try simp only [Vsr_pi_j22 hA, Vsr_pT])
          exact vsr
        · (try simp only [Vc_pi_j22 hA, Vc_pT])
          exact vc
        · (try simp only [Tx_pi_j22 hA])
          exact Tx_pT ht tx
    · have y1 : ¬ q < 0 := fun z => bq (Or.inl z)
      have y2 : q < 3 := Classical.byContradiction fun z => bq (Or.inr z)
      have bq2 : (¬ q < 0 ∧ q < 3) = True := eq_true ⟨y1, y2⟩
      by_cases bs : s < 0 ∨ ¬ s < 6
      · have bs2 : (¬ s < 0 ∧ s < 6) = False := nrng bs
        rcases q_cases y1 y2 with rfl | rfl | rfl
        · skip
          simp only [o298_0, o298_2, o298_3, o298_4, o298_5, o298_6, o298_16, o298_18, o298_19, o298_20, o298_22, o298_23, o67_0, o67_1, o67_2, o67_5, o67_7, o67_8, o67_11, o67_12, o67_15, o67_16, o67_18, o190_0, o190_1, o190_2, o190_5, o190_8, o190_9, o190_12, o190_15, o190_16, o190_19, o190_20, o190_21, o190_24, o190_25, o190_27, o190_30, o190_31, o190_34, o190_35, o190_38, o190_41, o190_42, o190_43, o190_44, o190_45, o190_46, hx_298_1, hx_298_2, c_X5_checkSlot, c_X8_isSlot, c_X8_isThrown_, c_X8_isQueue, c_X5_checkAhead, c_queueOf_0, mc_pi, mc_pT, mi_pi, mi_pT, ml_pi, ml_pT, mz_pT, mcs_0, mcs_i, mcs_r, Kn_v, Kn_0, Kn_x, true_and, and_true, or_false, not_true_eq_false, not_false_eq_true, false_implies, forall_const, if_true, if_false, and_self, Nat.reduceLeDiff, Nat.reduceSub, Nat.reduceAdd, Nat.zero_le, Nat.le_refl, i10, lt_le, Int32.reduceLT, Sum.inl.injEq, Option.some.injEq, Value.int.injEq, exists_eq_left', Nat.reduceLT, i20, kc0, kc5, kc22, kr0_2, kz, bs, bs2, bx0, bx9]
          intro t ht
          first | refine ⟨⟨?_, ?_, ?_, ?_, ?_, ?_, ?_, ?_, ?_, ?_, ?_, ?_⟩, rfl⟩ | refine ⟨?_, ?_, ?_, ?_, ?_, ?_, ?_, ?_, ?_, ?_, ?_, ?_⟩
          · (try simp only [K_pi])
            exact K_pT ht vk
          · (try simp only [Cn_pi_j22 hA, Cn_pT])
            exact vcn
          · (try simp only [Vq0_pi_j22 hA, Vq0_pT])
            exact v0
          · (try simp only [Vq1_pi_j22 hA, Vq1_pT])
            exact v1
          · (try simp only [Vq2_pi_j22 hA, Vq2_pT])
            exact v2
          · (try simp only [Vp_thr hA, Vp_pT])
            exact vp
          · (try simp only [Vl0_pi_j22 hA, Vl0_pT])
            exact vl0
          · (try simp only [Vl1_pi_j22 hA, Vl1_pT])
            exact vl1
          · (try simp only [Vlr_pi_j22 hA, Vlr_pT])
            exact vlr
          · (try simp only [Vsr_pi_j22 hA, Vsr_pT])
            exact vsr
          · (try simp only [Vc_pi_j22 hA, Vc_pT])
            exact vc
          · (try simp only [Tx_pi_j22 hA])
            exact Tx_pT ht tx
        · skip
          simp only [o298_0, o298_2, o298_3, o298_4, o298_5, o298_6, o298_16, o298_18, o298_19, o298_20, o298_22, o298_23, o67_0, o67_1, o67_2, o67_5, o67_7, o67_8, o67_11, o67_12, o67_15, o67_16, o67_18, o190_0, o190_1, o190_2, o190_5, o190_8, o190_9, o190_12, o190_15, o190_16, o190_19, o190_20, o190_21, o190_24, o190_25, o190_27, o190_30, o190_31, o190_34, o190_35, o190_38, o190_41, o190_42, o190_43, o190_44, o190_45, o190_46, hx_298_1, hx_298_2, c_X5_checkSlot, c_X8_isSlot, c_X8_isThrown_, c_X8_isQueue, c_X5_checkAhead, c_queueOf_1, mc_pi, mc_pT, mi_pi, mi_pT, ml_pi, ml_pT, mz_pT, mcs_0, mcs_i, mcs_r, Kn_v, Kn_0, Kn_x, true_and, and_true, or_false, not_true_eq_false, not_false_eq_true, false_implies, forall_const, if_true, if_false, and_self, Nat.reduceLeDiff, Nat.reduceSub, Nat.reduceAdd, Nat.zero_le, Nat.le_refl, i10, lt_le, Int32.reduceLT, Sum.inl.injEq, Option.some.injEq, Value.int.injEq, exists_eq_left', Nat.reduceLT, i20, kc0, kc6, kc22, kr0_3, kz, bs, bs2, bx0, bx9]
          intro t ht
          first | refine ⟨⟨?_, ?_, ?_, ?_, ?_, ?_, ?_, ?_, ?_, ?_, ?_, ?_⟩, rfl⟩ | refine ⟨?_, ?_, ?_, ?_, ?_, ?_, ?_, ?_, ?_, ?_, ?_, ?_⟩
          · (try simp only [K_pi])
            exact K_pT ht vk
          · (try simp only [Cn_pi_j22 hA, Cn_pT])
            exact vcn
          · (try simp only [Vq0_pi_j22 hA, Vq0_pT])
            exact v0
          · (try simp only [Vq1_pi_j22 hA, Vq1_pT])
            exact v1
          · (try simp only [Vq2_pi_j22 hA, Vq2_pT])
            exact v2
          · (try simp only [Vp_thr hA, Vp_pT])
            exact vp
          · (try simp only [Vl0_pi_j22 hA, Vl0_pT])
            exact vl0
          · (try simp only [Vl1_pi_j22 hA, Vl1_pT])
            exact vl1
          · (try simp only [Vlr_pi_j22 hA, Vlr_pT])
            exact vlr
          · (try simp only [Vsr_pi_j22 hA, Vsr_pT])
            exact vsr
          · (try simp only [Vc_pi_j22 hA, Vc_pT])
            exact vc
          · (try simp only [Tx_pi_j22 hA])
            exact Tx_pT ht tx
        · skip
          simp only [o298_0, o298_2, o298_3, o298_4, o298_5, o298_6, o298_16, o298_18, o298_19, o298_20, o298_22, o298_23, o67_0, o67_1, o67_2, o67_5, o67_7, o67_8, o67_11, o67_12, o67_15, o67_16, o67_18, o190_0, o190_1, o190_2, o190_5, o190_8, o190_9, o190_12, o190_15, o190_16, o190_19, o190_20, o190_21, o190_24, o190_25, o190_27, o190_30, o190_31, o190_34, o190_35, o190_38, o190_41, o190_42, o190_43, o190_44, o190_45, o190_46, hx_298_1, hx_298_2, c_X5_checkSlot, c_X8_isSlot, c_X8_isThrown_, c_X8_isQueue, c_X5_checkAhead, c_queueOf_2, mc_pi, mc_pT, mi_pi, mi_pT, ml_pi, ml_pT, mz_pT, mcs_0, mcs_i, mcs_r, Kn_v, Kn_0, Kn_x, true_and, and_true, or_false, not_true_eq_false, not_false_eq_true, false_implies, forall_const, if_true, if_false, and_self, Nat.reduceLeDiff, Nat.reduceSub, Nat.reduceAdd, Nat.zero_le, Nat.le_refl, i10, lt_le, Int32.reduceLT, Sum.inl.injEq, Option.some.injEq, Value.int.injEq, exists_eq_left', Nat.reduceLT, i20, kc0, kc7, kc22, kr0_4, kz, bs, bs2, bx0, bx9]
          intro t ht
          first | refine ⟨⟨?_, ?_, ?_, ?_, ?_, ?_, ?_, ?_, ?_, ?_, ?_, ?_⟩, rfl⟩ | refine ⟨?_, ?_, ?_, ?_, ?_, ?_, ?_, ?_, ?_, ?_, ?_, ?_⟩
          · (try simp only [K_pi])
            exact K_pT ht vk
          · (try simp only [Cn_pi_j22 hA, Cn_pT])
            exact vcn
          · (try simp only [Vq0_pi_j22 hA, Vq0_pT])
            exact v0
          · (try simp only [Vq1_pi_j22 hA, Vq1_pT])
            exact v1
          · (try simp only [Vq2_pi_j22 hA, Vq2_pT])
            exact v2
          · (try simp only [Vp_thr hA, Vp_pT])
            exact vp
          · (try simp only [Vl0_pi_j22 hA, Vl0_pT])
            exact vl0
          · (try simp only [Vl1_pi_j22 hA, Vl1_pT])
            exact vl1
          · (try simp only [Vlr_pi_j22 hA, Vlr_pT])
            exact vlr
          · (try simp only [Vsr_pi_j22 hA, Vsr_pT])
            exact vsr
          · (try simp only [Vc_pi_j22 hA, Vc_pT])
            exact vc
          · (try simp only [Tx_pi_j22 hA])
            exact Tx_pT ht tx
      · have s1 : ¬ s < 0 := fun z => bs (Or.inl z)
        have s2 : s < 6 := Classical.byContradiction fun z => bs (Or.inr z)
        have hs := ix_ok s1 s2
        have hs2 := hs
        obtain ⟨⟨j0, j1, j2, j3⟩, d01, d02, d03, d10, d12, d13, d20, d21, d23, d30, d31, d32⟩ := hs2
        obtain ⟨l0, l1, l2, l3⟩ := ix_lt hs
        have vs0 := (vsr _ l0).1
        have vs1 := (vsr _ l1).1
        have vs2 := (vsr _ l2).1
        have vs3 := (vsr _ l3).1
        have bs2 : (¬ s < 0 ∧ s < 6) = True := eq_true ⟨s1, s2⟩
        rcases q_cases y1 y2 with rfl | rfl | rfl
        · skip
          simp only [o298_0, o298_2, o298_3, o298_4, o298_5, o298_6, o298_16, o298_18, o298_19, o298_20, o298_22, o298_23, o67_0, o67_1, o67_2, o67_5, o67_7, o67_8, o67_11, o67_12, o67_15, o67_16, o67_18, o190_0, o190_1, o190_2, o190_5, o190_8, o190_9, o190_12, o190_15, o190_16, o190_19, o190_20, o190_21, o190_24, o190_25, o190_27, o190_30, o190_31, o190_34, o190_35, o190_38, o190_41, o190_42, o190_43, o190_44, o190_45, o190_46, hx_298_1, hx_298_2, c_X5_checkSlot, c_X8_isSlot, c_X8_isThrown_, c_X8_isQueue, c_X5_checkAhead, c_queueOf_0, mc_pi, mc_pT, mi_pi, mi_pT, ml_pi, ml_pT, mz_pT, mcs_0, mcs_i, mcs_r, Kn_v, Kn_0, Kn_x, true_and, and_true, and_false, or_false, not_true_eq_false, not_false_eq_true, false_implies, forall_const, if_true, if_false, and_self, Nat.reduceLeDiff, Nat.reduceSub, Nat.reduceAdd, Nat.zero_le, Nat.le_refl, i10, lt_le, Int32.reduceLT, Sum.inl.injEq, Option.some.injEq, Value.int.injEq, exists_eq_left', Nat.reduceLT, i20, kc0, kc5, kc22, kr0_2, kz, s1, s2, bx0, bx9]
          intro t ht
          first | refine ⟨⟨?_, ?_, ?_, ?_, ?_, ?_, ?_, ?_, ?_, ?_, ?_, ?_⟩, rfl⟩ | refine ⟨?_, ?_, ?_, ?_, ?_, ?_, ?_, ?_, ?_, ?_, ?_, ?_⟩
          · (try simp only [K_pi])
            exact K_pT ht vk
          · (try simp only [Cn_pi_j22 hA, Cn_pT])
            exact vcn
          · (try simp only [Vq0_pi_j22 hA, Vq0_pT])
            exact v0
          · (try simp only [Vq1_pi_j22 hA, Vq1_pT])
            exact v1
          · (try simp only [Vq2_pi_j22 hA, Vq2_pT])
            exact v2
          · (try simp only [Vp_thr hA, Vp_pT])
            exact vp
          · (try simp only [Vl0_pi_j22 hA, Vl0_pT])
            exact vl0
          · (try simp only [Vl1_pi_j22 hA, Vl1_pT])
            exact vl1
          · (try simp only [Vlr_pi_j22 hA, Vlr_pT])
            exact vlr
          · (try simp only [Vsr_pi_j22 hA, Vsr_pT])
            exact vsr
          · (try simp only [Vc_pi_j22 hA, Vc_pT])
            exact vc
          · (try simp only [Tx_pi_j22 hA])
            exact Tx_pT ht tx
        · skip
          simp only [o298_0, o298_2, o298_3, o298_4, o298_5, o298_6, o298_16, o298_18, o298_19, o298_20, o298_22, o298_23, o67_0, o67_1, o67_2, o67_5, o67_7, o67_8, o67_11, o67_12, o67_15, o67_16, o67_18, o190_0, o190_1, o190_2, o190_5, o190_8, o190_9, o190_12, o190_15, o190_16, o190_19, o190_20, o190_21, o190_24, o190_25, o190_27, o190_30, o190_31, o190_34, o190_35, o190_38, o190_41, o190_42, o190_43, o190_44, o190_45, o190_46, hx_298_1, hx_298_2, c_X5_checkSlot, c_X8_isSlot, c_X8_isThrown_, c_X8_isQueue, c_X5_checkAhead, c_queueOf_1, mc_pi, mc_pT, mi_pi, mi_pT, ml_pi, ml_pT, mz_pT, mcs_0, mcs_i, mcs_r, Kn_v, Kn_0, Kn_x, true_and, and_true, and_false, or_false, not_true_eq_false, not_false_eq_true, false_implies, forall_const, if_true, if_false, and_self, Nat.reduceLeDiff, Nat.reduceSub, Nat.reduceAdd, Nat.zero_le, Nat.le_refl, i10, lt_le, Int32.reduceLT, Sum.inl.injEq, Option.some.injEq, Value.int.injEq, exists_eq_left', Nat.reduceLT, i20, kc0, kc6, kc22, kr0_3, kz, s1, s2, bx0, bx9]
          intro t ht
          first | refine ⟨⟨?_, ?_, ?_, ?_, ?_, ?_, ?_, ?_, ?_, ?_, ?_, ?_⟩, rfl⟩ | refine ⟨?_, ?_, ?_, ?_, ?_, ?_, ?_, ?_, ?_, ?_, ?_, ?_⟩
          · (try simp only [K_pi])
            exact K_pT ht vk
          · (try simp only [Cn_pi_j22 hA, Cn_pT])
            exact vcn
          · (try simp only [Vq0_pi_j22 hA, Vq0_pT])
            exact v0
          · (try simp only [Vq1_pi_j22 hA, Vq1_pT])
            exact v1
          · (try simp only [Vq2_pi_j22 hA, Vq2_pT])
            exact v2
          · (try simp only [Vp_thr hA, Vp_pT])
            exact vp
          · (try simp only [Vl0_pi_j22 hA, Vl0_pT])
            exact vl0
          · (try simp only [Vl1_pi_j22 hA, Vl1_pT])
            exact vl1
          · (try simp only [Vlr_pi_j22 hA, Vlr_pT])
            exact vlr
          · (try simp only [Vsr_pi_j22 hA, Vsr_pT])
            exact vsr
          · (try simp only [Vc_pi_j22 hA, Vc_pT])
            exact vc
          · (try simp only [Tx_pi_j22 hA])
            exact Tx_pT ht tx
        · skip
          simp only [o298_0, o298_2, o298_3, o298_4, o298_5, o298_6, o298_16, o298_18, o298_19, o298_20, o298_22, o298_23, o67_0, o67_1, o67_2, o67_5, o67_7, o67_8, o67_11, o67_12, o67_15, o67_16, o67_18, o190_0, o190_1, o190_2, o190_5, o190_8, o190_9, o190_12, o190_15, o190_16, o190_19, o190_20, o190_21, o190_24, o190_25, o190_27, o190_30, o190_31, o190_34, o190_35, o190_38, o190_41, o190_42, o190_43, o190_44, o190_45, o190_46, hx_298_1, hx_298_2, c_X5_checkSlot, c_X8_isSlot, c_X8_isThrown_, c_X8_isQueue, c_X5_checkAhead, c_queueOf_2, mc_pi, mc_pT, mi_pi, mi_pT, ml_pi, ml_pT, mz_pT, mcs_0, mcs_i, mcs_r, Kn_v, Kn_0, Kn_x, true_and, and_true, and_false, or_false, not_true_eq_false, not_false_eq_true, false_implies, forall_const, if_true, if_false, and_self, Nat.reduceLeDiff, Nat.reduceSub, Nat.reduceAdd, Nat.zero_le, Nat.le_refl, i10, lt_le, Int32.reduceLT, Sum.inl.injEq, Option.some.injEq, Value.int.injEq, exists_eq_left', Nat.reduceLT, i20, kc0, kc7, kc22, kr0_4, kz, s1, s2, bx0, bx9]
          intro t ht
          first | refine ⟨⟨?_, ?_, ?_, ?_, ?_, ?_, ?_, ?_, ?_, ?_, ?_, ?_⟩, rfl⟩ | refine ⟨?_, ?_, ?_, ?_, ?_, ?_, ?_, ?_, ?_, ?_, ?_, ?_⟩
          · (try simp only [K_pi])
            exact K_pT ht vk
          · (try simp only [Cn_pi_j22 hA, Cn_pT])
            exact vcn
          · (try simp only [Vq0_pi_j22 hA, Vq0_pT])
            exact v0
          · (try simp only [Vq1_pi_j22 hA, Vq1_pT])
            exact v1
          · (try simp only [Vq2_pi_j22 hA, Vq2_pT])
            exact v2
          · (try simp only [Vp_thr hA, Vp_pT])
            exact vp
          · (try simp only [Vl0_pi_j22 hA, Vl0_pT])
            exact vl0
          · (try simp only [Vl1_pi_j22 hA, Vl1_pT])
            exact vl1
          · (try simp only [Vlr_pi_j22 hA, Vlr_pT])
            exact vlr
          · (try simp only [Vsr_pi_j22 hA, Vsr_pT])
            exact vsr
          · (try simp only [Vc_pi_j22 hA, Vc_pT])
            exact vc
          · (try simp only [Tx_pi_j22 hA])
            exact Tx_pT ht tx
  · by_cases bq : q < 0 ∨ ¬ q < 3
    · have bq2 : (¬ q < 0 ∧ q < 3) = False := nrng bq
      by_cases bs : (¬ s < 0 ∧ s < 6)
      all_goals
        simp only [o298_0, o298_2, o298_3, o298_4, o298_5, o298_6, o298_16, o298_18, o298_19, o67_0, o67_1, o67_2, o190_0, o190_1, o190_2, o190_5, o190_8, o190_9, o190_12, o190_15, o190_16, o190_19, o190_20, o190_21, o190_24, o190_25, o190_27, o190_30, o190_31, o190_34, o190_35, o190_38, o190_41, o190_42, o190_43, o190_44, o190_45, o190_46, hx_298_1, c_X8_isSlot, c_X8_isThrown_, c_X8_isQueue, c_queueOf_bad, mc_pi, mc_pT, mi_pi, mi_pT, ml_pi, ml_pT, mz_pT, mcs_0, mcs_i, mcs_r, Kn_v, Kn_x, true_and, and_true, not_true_eq_false, not_false_eq_true, false_implies, forall_const, if_true, if_false, and_self, Nat.reduceLeDiff, Nat.reduceSub, Nat.reduceAdd, Nat.zero_le, Nat.le_refl, i10, lt_le, Sum.inl.injEq, Option.some.injEq, Value.int.injEq, exists_eq_left', Nat.reduceLT, kc0, kc22, kz, bq, bq2, bs, bx0, bx9]
        intro t ht
        first | refine ⟨⟨?_, ?_, ?_, ?_, ?_, ?_, ?_, ?_, ?_, ?_, ?_, ?_⟩, rfl⟩ | refine ⟨?_, ?_, ?_, ?_, ?_, ?_, ?_, ?_, ?_, ?_, ?_, ?_⟩
        · (try simp only [K_pi])
          exact K_pT ht vk
        · (try simp only [Cn_pi_j22 hA, Cn_pT])
          exact vcn
        · (try simp only [Vq0_pi_j22 hA, Vq0_pT])
          exact v0
        · (try simp only [Vq1_pi_j22 hA, Vq1_pT])
          exact v1
        · (try simp only [Vq2_pi_j22 hA, Vq2_pT])
          exact v2
        · (try simp only [Vp_thr hA, Vp_pT])
          exact vp
        · (try simp only [Vl0_pi_j22 hA, Vl0_pT])
          exact vl0
        · (try simp only [Vl1_pi_j22 hA, Vl1_pT])
          exact vl1
        · (try simp only [Vlr_pi_j22 hA, Vlr_pT])
          exact vlr
        · (try simp only [Vsr_pi_j22 hA, Vsr_pT])
          exact vsr
        · (try simp only [Vc_pi_j22 hA, Vc_pT])
          exact vc
        · (try simp only [Tx_pi_j22 hA])
          exact Tx_pT ht tx
    · have y1 : ¬ q < 0 := fun z => bq (Or.inl z)
      have y2 : q < 3 := Classical.byContradiction fun z => bq (Or.inr z)
      have bq2 : (¬ q < 0 ∧ q < 3) = True := eq_true ⟨y1, y2⟩
      by_cases bs : s < 0 ∨ ¬ s < 6
      · have bs2 : (¬ s < 0 ∧ s < 6) = False := nrng bs
        rcases q_cases y1 y2 with rfl | rfl | rfl
        · skip
          simp only [o298_0, o298_2, o298_3, o298_4, o298_5, o298_6, o298_16, o298_18, o298_19, o298_20, o298_22, o298_23, o67_0, o67_1, o67_2, o67_5, o67_7, o67_8, o67_11, o67_12, o67_15, o67_16, o67_18, o190_0, o190_1, o190_2, o190_5, o190_8, o190_9, o190_12, o190_15, o190_16, o190_19, o190_20, o190_21, o190_24, o190_25, o190_27, o190_30, o190_31, o190_34, o190_35, o190_38, o190_41, o190_42, o190_43, o190_44, o190_45, o190_46, hx_298_1, hx_298_2, c_X5_checkSlot, c_X8_isSlot, c_X8_isThrown_, c_X8_isQueue, c_X5_checkAhead, c_queueOf_0, mc_pi, mc_pT, mi_pi, mi_pT, ml_pi, ml_pT, mz_pT, mcs_0, mcs_i, mcs_r, Kn_v, Kn_0, Kn_x, true_and, and_true, or_true, not_true_eq_false, not_false_eq_true, false_implies, forall_const, if_true, if_false, and_self, Nat.reduceLeDiff, Nat.reduceSub, Nat.reduceAdd, Nat.zero_le, Nat.le_refl, i10, lt_le, Int32.reduceLT, Sum.inl.injEq, Option.some.injEq, Value.int.injEq, exists_eq_left', Nat.reduceLT, i20, kc0, kc5, kc22, kr0_2, kz, bs, bs2, bx0, bx9]
          intro t ht
          first | refine ⟨⟨?_, ?_, ?_, ?_, ?_, ?_, ?_, ?_, ?_, ?_, ?_, ?_⟩, rfl⟩ | refine ⟨?_, ?_, ?_, ?_, ?_, ?_, ?_, ?_, ?_, ?_, ?_, ?_⟩
          · (try simp only [K_pi])
            exact K_pT ht vk
          · (try simp only [Cn_pi_j22 hA, Cn_pT])
            exact vcn
          · (try simp only [Vq0_pi_j22 hA, Vq0_pT])
            exact v0
          · (try simp only [Vq1_pi_j22 hA, Vq1_pT])
            exact v1
          · (try simp only [Vq2_pi_j22 hA, Vq2_pT])
            exact v2
          · (try simp only [Vp_thr hA, Vp_pT])
            exact vp
          · (try simp only [Vl0_pi_j22 hA, Vl0_pT])
            exact vl0
          · (try simp only [Vl1_pi_j22 hA, Vl1_pT])
            exact vl1
          · (try simp only [Vlr_pi_j22 hA, Vlr_pT])
            exact vlr
          · (try simp only [Vsr_pi_j22 hA, Vsr_pT])
            exact vsr
          · (try simp only [Vc_pi_j22 hA, Vc_pT])
            exact vc
          · (try simp only [Tx_pi_j22 hA])
            exact Tx_pT ht tx
        · skip
          simp only [o298_0, o298_2, o298_3, o298_4, o298_5, o298_6, o298_16, o298_18, o298_19, o298_20, o298_22, o298_23, o67_0, o67_1, o67_2, o67_5, o67_7, o67_8, o67_11, o67_12, o67_15, o67_16, o67_18, o190_0, o190_1, o190_2, o190_5, o190_8, o190_9, o190_12, o190_15, o190_16, o190_19, o190_20, o190_21, o190_24, o190_25, o190_27, o190_30, o190_31, o190_34, o190_35, o190_38, o190_41, o190_42, o190_43, o190_44, o190_45, o190_46, hx_298_1, hx_298_2, c_X5_checkSlot, c_X8_isSlot, c_X8_isThrown_, c_X8_isQueue, c_X5_checkAhead, c_queueOf_1, mc_pi, mc_pT, mi_pi, mi_pT, ml_pi, ml_pT, mz_pT, mcs_0, mcs_i, mcs_r, Kn_v, Kn_0, Kn_x, true_and, and_true, or_true, not_true_eq_false, not_false_eq_true, false_implies, forall_const, if_true, if_false, and_self, Nat.reduceLeDiff, Nat.reduceSub, Nat.reduceAdd, Nat.zero_le, Nat.le_refl, i10, lt_le, Int32.reduceLT, Sum.inl.injEq, Option.some.injEq, Value.int.injEq, exists_eq_left', Nat.reduceLT, i20, kc0, kc6, kc22, kr0_3, kz, bs, bs2, bx0, bx9]
          intro t ht
          first | refine ⟨⟨?_, ?_, ?_, ?_, ?_, ?_, ?_, ?_, ?_, ?_, ?_, ?_⟩, rfl⟩ | refine ⟨?_, ?_, ?_, ?_, ?_, ?_, ?_, ?_, ?_, ?_, ?_, ?_⟩
          · (try simp only [K_pi])
            exact K_pT ht vk
          · (try simp only [Cn_pi_j22 hA, Cn_pT])
            exact vcn
          · (try simp only [Vq0_pi_j22 hA, Vq0_pT])
            exact v0
          · (try simp only [Vq1_pi_j22 hA, Vq1_pT])
            exact v1
          · (try simp only [Vq2_pi_j22 hA, Vq2_pT])
            exact v2
          · (try simp only [Vp_thr hA, Vp_pT])
            exact vp
          · (try simp only [Vl0_pi_j22 hA, Vl0_pT])
            exact vl0
          · (try simp only [Vl1_pi_j22 hA, Vl1_pT])
            exact vl1
          · (try simp only [Vlr_pi_j22 hA, Vlr_pT])
            exact vlr
          · (try simp only [Vsr_pi_j22 hA, Vsr_pT])
            exact vsr
          · (try simp only [Vc_pi_j22 hA, Vc_pT])
            exact vc
          · (try simp only [Tx_pi_j22 hA])
            exact Tx_pT ht tx
        · skip
          simp only [o298_0, o298_2, o298_3, o298_4, o298_5, o298_6, o298_16, o298_18, o298_19, o298_20, o298_22, o298_23, o67_0, o67_1, o67_2, o67_5, o67_7, o67_8, o67_11, o67_12, o67_15, o67_16, o67_18, o190_0, o190_1, o190_2, o190_5, o190_8, o190_9, o190_12, o190_15, o190_16, o190_19, o190_20, o190_21, o190_24, o190_25, o190_27, o190_30, o190_31, o190_34, o190_35, o190_38, o190_41, o190_42, o190_43, o190_44, o190_45, o190_46, hx_298_1, hx_298_2, c_X5_checkSlot, c_X8_isSlot, c_X8_isThrown_, c_X8_isQueue, c_X5_checkAhead, c_queueOf_2, mc_pi, mc_pT, mi_pi, mi_pT, ml_pi, ml_pT, mz_pT, mcs_0, mcs_i, mcs_r, Kn_v, Kn_0, Kn_x, true_and, and_true, or_true, not_true_eq_false, not_false_eq_true, false_implies, forall_const, if_true, if_false, and_self, Nat.reduceLeDiff, Nat.reduceSub, Nat.reduceAdd, Nat.zero_le, Nat.le_refl, i10, lt_le, Int32.reduceLT, Sum.inl.injEq, Option.some.injEq, Value.int.injEq, exists_eq_left', Nat.reduceLT, i20, kc0, kc7, kc22, kr0_4, kz, bs, bs2, bx0, bx9]
          intro t ht
          first | refine ⟨⟨?_, ?_, ?_, ?_, ?_, ?_, ?_, ?_, ?_, ?_, ?_, ?_⟩, rfl⟩ | refine ⟨?_, ?_, ?_, ?_, ?_, ?_, ?_, ?_, ?_, ?_, ?_, ?_⟩
          · (try simp only [K_pi])
            exact K_pT ht vk
          · (try simp only [Cn_pi_j22 hA, Cn_pT])
            exact vcn
          · (try simp only [Vq0_pi_j22 hA, Vq0_pT])
            exact v0
          · (try simp only [Vq1_pi_j22 hA, Vq1_pT])
            exact v1
          · (try simp only [Vq2_pi_j22 hA, Vq2_pT])
            exact v2
          · (try simp only [Vp_thr hA, Vp_pT])
            exact vp
          · (try simp only [Vl0_pi_j22 hA, Vl0_pT])
            exact vl0
          · (try simp only [Vl1_pi_j22 hA, Vl1_pT])
            exact vl1
          · (try simp only [Vlr_pi_j22 hA, Vlr_pT])
            exact vlr
          · (try simp only [Vsr_pi_j22 hA, Vsr_pT])
            exact vsr
          · (try simp only [Vc_pi_j22 hA, Vc_pT])
            exact vc
          · (try simp only [Tx_pi_j22 hA])
            exact Tx_pT ht tx
      · have s1 : ¬ s < 0 := fun z => bs (Or.inl z)
        have s2 : s < 6 := Classical.byContradiction fun z => bs (Or.inr z)
        have hs := ix_ok s1 s2
        have hs2 := hs
        obtain ⟨⟨j0, j1, j2, j3⟩, d01, d02, d03, d10, d12, d13, d20, d21, d23, d30, d31, d32⟩ := hs2
        obtain ⟨l0, l1, l2, l3⟩ := ix_lt hs
        have vs0 := (vsr _ l0).1
        have vs1 := (vsr _ l1).1
        have vs2 := (vsr _ l2).1
        have vs3 := (vsr _ l3).1
        have bs2 : (¬ s < 0 ∧ s < 6) = True := eq_true ⟨s1, s2⟩
        rcases q_cases y1 y2 with rfl | rfl | rfl
        · skip
          simp only [o298_0, o298_2, o298_3, o298_4, o298_5, o298_6, o298_16, o298_18, o298_19, o298_20, o298_22, o298_23, o67_0, o67_1, o67_2, o67_5, o67_7, o67_8, o67_11, o67_12, o67_15, o67_16, o67_18, o190_0, o190_1, o190_2, o190_5, o190_8, o190_9, o190_12, o190_15, o190_16, o190_19, o190_20, o190_21, o190_24, o190_25, o190_27, o190_30, o190_31, o190_34, o190_35, o190_38, o190_41, o190_42, o190_43, o190_44, o190_45, o190_46, hx_298_1, hx_298_2, c_X5_checkSlot, c_X8_isSlot, c_X8_isThrown_, c_X8_isQueue, c_X5_checkAhead, c_queueOf_0, mc_pi, mc_pT, mi_pi, mi_pT, ml_pi, ml_pT, mz_pT, mcs_0, mcs_i, mcs_r, Kn_v, Kn_0, Kn_x, true_and, and_true, and_false, or_true, or_false, not_true_eq_false, not_false_eq_true, false_implies, forall_const, if_true, if_false, and_self, Nat.reduceLeDiff, Nat.reduceSub, Nat.reduceAdd, Nat.zero_le, Nat.le_refl, i10, lt_le, Int32.reduceLT, Sum.inl.injEq, Option.some.injEq, Value.int.injEq, exists_eq_left', Nat.reduceLT, i20, kc0, kc5, kc22, kr0_2, kz, s1, s2, bx0, bx9]
          intro t ht
          first | refine ⟨⟨?_, ?_, ?_, ?_, ?_, ?_, ?_, ?_, ?_, ?_, ?_, ?_⟩, rfl⟩ | refine ⟨?_, ?_, ?_, ?_, ?_, ?_, ?_, ?_, ?_, ?_, ?_, ?_⟩
          · (try simp only [K_pi])
            exact K_pT ht vk
          · (try simp only [Cn_pi_j22 hA, Cn_pT])
            exact vcn
          · (try simp only [Vq0_pi_j22 hA, Vq0_pT])
            exact v0
          · (try simp only [Vq1_pi_j22 hA, Vq1_pT])
            exact v1
          · (try simp only [Vq2_pi_j22 hA, Vq2_pT])
            exact v2
          · (try simp only [Vp_thr hA, Vp_pT])
            exact vp
          · (try simp only [Vl0_pi_j22 hA, Vl0_pT])
            exact vl0
          · (try simp only [Vl1_pi_j22 hA, Vl1_pT])
            exact vl1
          · (try simp only [Vlr_pi_j22 hA, Vlr_pT])
            exact vlr
          · (try simp only [Vsr_pi_j22 hA, Vsr_pT])
            exact vsr
          · (try simp only [Vc_pi_j22 hA, Vc_pT])
            exact vc
          · (try simp only [Tx_pi_j22 hA])
            exact Tx_pT ht tx
        · skip
          simp only [o298_0, o298_2, o298_3, o298_4, o298_5, o298_6, o298_16, o298_18, o298_19, o298_20, o298_22, o298_23, o67_0, o67_1, o67_2, o67_5, o67_7, o67_8, o67_11, o67_12, o67_15, o67_16, o67_18, o190_0, o190_1, o190_2, o190_5, o190_8, o190_9, o190_12, o190_15, o190_16, o190_19, o190_20, o190_21, o190_24, o190_25, o190_27, o190_30, o190_31, o190_34, o190_35, o190_38, o190_41, o190_42, o190_43, o190_44, o190_45, o190_46, hx_298_1, hx_298_2, c_X5_checkSlot, c_X8_isSlot, c_X8_isThrown_, c_X8_isQueue, c_X5_checkAhead, c_queueOf_1, mc_pi, mc_pT, mi_pi, mi_pT, ml_pi, ml_pT, mz_pT, mcs_0, mcs_i, mcs_r, Kn_v, Kn_0, Kn_x, true_and, and_true, and_false, or_true, or_false, not_true_eq_false, not_false_eq_true, false_implies, forall_const, if_true, if_false, and_self, Nat.reduceLeDiff, Nat.reduceSub, Nat.reduceAdd, Nat.zero_le, Nat.le_refl, i10, lt_le, Int32.reduceLT, Sum.inl.injEq, Option.some.injEq, Value.int.injEq, exists_eq_left', Nat.reduceLT, i20, kc0, kc6, kc22, kr0_3, kz, s1, s2, bx0, bx9]
          intro t ht
          first | refine ⟨⟨?_, ?_, ?_, ?_, ?_, ?_, ?_, ?_, ?_, ?_, ?_, ?_⟩, rfl⟩ | refine ⟨?_, ?_, ?_, ?_, ?_, ?_, ?_, ?_, ?_, ?_, ?_, ?_⟩
          · (try simp only [K_pi])
            exact K_pT ht vk
          · (try simp only [Cn_pi_j22 hA, Cn_pT])
            exact vcn
          · (try simp only [Vq0_pi_j22 hA, Vq0_pT])
            exact v0
          · (try simp only [Vq1_pi_j22 hA, Vq1_pT])
            exact v1
          · (try simp only [Vq2_pi_j22 hA, Vq2_pT])
            exact v2
          · (try simp only [Vp_thr hA, Vp_pT])
            exact vp
          · (try simp only [Vl0_pi_j22 hA, Vl0_pT])
            exact vl0
          · (try simp only [Vl1_pi_j22 hA, Vl1_pT])
            exact vl1
          · (try simp only [Vlr_pi_j22 hA, Vlr_pT])
            exact vlr
          · (try simp only [Vsr_pi_j22 hA, Vsr_pT])
            exact vsr
          · (try simp only [Vc_pi_j22 hA, Vc_pT])
            exact vc
          · (try simp only [Tx_pi_j22 hA])
            exact Tx_pT ht tx
        · skip
          simp only [o298_0, o298_2, o298_3, o298_4, o298_5, o298_6, o298_16, o298_18, o298_19, o298_20, o298_22, o298_23, o67_0, o67_1, o67_2, o67_5, o67_7, o67_8, o67_11, o67_12, o67_15, o67_16, o67_18, o190_0, o190_1, o190_2, o190_5, o190_8, o190_9, o190_12, o190_15, o190_16, o190_19, o190_20, o190_21, o190_24, o190_25, o190_27, o190_30, o190_31, o190_34, o190_35, o190_38, o190_41, o190_42, o190_43, o190_44, o190_45, o190_46, hx_298_1, hx_298_2, c_X5_checkSlot, c_X8_isSlot, c_X8_isThrown_, c_X8_isQueue, c_X5_checkAhead, c_queueOf_2, mc_pi, mc_pT, mi_pi, mi_pT, ml_pi, ml_pT, mz_pT, mcs_0, mcs_i, mcs_r, Kn_v, Kn_0, Kn_x, true_and, and_true, and_false, or_true, or_false, not_true_eq_false, not_false_eq_true, false_implies, forall_const, if_true, if_false, and_self, Nat.reduceLeDiff, Nat.reduceSub, Nat.reduceAdd, Nat.zero_le, Nat.le_refl, i10, lt_le, Int32.reduceLT, Sum.inl.injEq, Option.some.injEq, Value.int.injEq, exists_eq_left', Nat.reduceLT, i20, kc0, kc7, kc22, kr0_4, kz, s1, s2, bx0, bx9]
          intro t ht
          first | refine ⟨⟨?_, ?_, ?_, ?_, ?_, ?_, ?_, ?_, ?_, ?_, ?_, ?_⟩, rfl⟩ | refine ⟨?_, ?_, ?_, ?_, ?_, ?_, ?_, ?_, ?_, ?_, ?_, ?_⟩
          · (try simp only [K_pi])
            exact K_pT ht vk
          · (try simp only [Cn_pi_j22 hA, Cn_pT])
            exact vcn
          · (try simp only [Vq0_pi_j22 hA, Vq0_pT])
            exact v0
          · (try simp only [Vq1_pi_j22 hA, Vq1_pT])
            exact v1
          · (try simp only [Vq2_pi_j22 hA, Vq2_pT])
            exact v2
          · (try simp only [Vp_thr hA, Vp_pT])
            exact vp
          · (try simp only [Vl0_pi_j22 hA, Vl0_pT])
            exact vl0
          · (try simp only [Vl1_pi_j22 hA, Vl1_pT])
            exact vl1
          · (try simp only [Vlr_pi_j22 hA, Vlr_pT])
            exact vlr
          · (try simp only [Vsr_pi_j22 hA, Vsr_pT])
            exact vsr
          · (try simp only [Vc_pi_j22 hA, Vc_pT])
            exact vc
          · (try simp only [Tx_pi_j22 hA])
            exact Tx_pT ht tx
  · by_cases bq : q < 0 ∨ ¬ q < 3
    · have bq2 : (¬ q < 0 ∧ q < 3) = False := nrng bq
      by_cases bs : (¬ s < 0 ∧ s < 6)
      all_goals
        simp only [o298_0, o298_2, o298_3, o298_4, o298_5, o298_6, o298_16, o298_18, o298_19, o67_0, o67_1, o67_2, o190_0, o190_1, o190_2, o190_5, o190_8, o190_9, o190_12, o190_15, o190_16, o190_19, o190_20, o190_21, o190_24, o190_25, o190_27, o190_30, o190_31, o190_34, o190_35, o190_38, o190_41, o190_42, o190_43, o190_44, o190_45, o190_46, hx_298_1, c_X8_isSlot, c_X8_isThrown_, c_X8_isQueue, c_queueOf_bad, mc_pi, mc_pT, mi_pi, mi_pT, ml_pi, ml_pT, mz_pT, mcs_0, mcs_i, mcs_r, Kn_v, Kn_x, true_and, and_true, not_true_eq_false, not_false_eq_true, false_implies, forall_const, if_true, if_false, and_self, Nat.reduceLeDiff, Nat.reduceSub, Nat.reduceAdd, Nat.zero_le, Nat.le_refl, i10, lt_le, Sum.inl.injEq, Option.some.injEq, Value.int.injEq, exists_eq_left', Nat.reduceLT, kc0, kc22, kz, bq, bq2, bs, bx0, bx9]
        intro t ht
        first | refine ⟨⟨?_, ?_, ?_, ?_, ?_, ?_, ?_, ?_, ?_, ?_, ?_, ?_⟩, rfl⟩ | refine ⟨?_, ?_, ?_, ?_, ?_, ?_, ?_, ?_, ?_, ?_, ?_, ?_⟩
        · (try simp only [K_pi])
          exact K_pT ht vk
        · (try simp only [Cn_pi_j22 hA, Cn_pT])
          exact vcn
        · (try simp only [Vq0_pi_j22 hA, Vq0_pT])
          exact v0
        · (try simp only [Vq1_pi_j22 hA, Vq1_pT])
          exact v1
        · (try simp only [Vq2_pi_j22 hA, Vq2_pT])
          exact v2
        · (try simp only [Vp_thr hA, Vp_pT])
          exact vp
        · (try simp only [Vl0_pi_j22 hA, Vl0_pT])
          exact vl0
        · (try simp only [Vl1_pi_j22 hA, Vl1_pT])
          exact vl1
        · (try simp only [Vlr_pi_j22 hA, Vlr_pT])
          exact vlr
        · (try simp only [Vsr_pi_j22 hA, Vsr_pT])
          exact vsr
        · (try simp only [Vc_pi_j22 hA, Vc_pT])
          exact vc
        · (try simp only [Tx_pi_j22 hA])
          exact Tx_pT ht tx
    · have y1 : ¬ q < 0 := fun z => bq (Or.inl z)
      have y2 : q < 3 := Classical.byContradiction fun z => bq (Or.inr z)
      have bq2 : (¬ q < 0 ∧ q < 3) = True := eq_true ⟨y1, y2⟩
      by_cases bs : s < 0 ∨ ¬ s < 6
      · have bs2 : (¬ s < 0 ∧ s < 6) = False := nrng bs
        rcases q_cases y1 y2 with rfl | rfl | rfl
        · skip
          simp only [o298_0, o298_2, o298_3, o298_4, o298_5, o298_6, o298_16, o298_18, o298_19, o298_20, o298_22, o298_23, o67_0, o67_1, o67_2, o67_5, o67_7, o67_8, o67_11, o67_12, o67_15, o67_16, o67_18, o190_0, o190_1, o190_2, o190_5, o190_8, o190_9, o190_12, o190_15, o190_16, o190_19, o190_20, o190_21, o190_24, o190_25, o190_27, o190_30, o190_31, o190_34, o190_35, o190_38, o190_41, o190_42, o190_43, o190_44, o190_45, o190_46, hx_298_1, hx_298_2, c_X5_checkSlot, c_X8_isSlot, c_X8_isThrown_, c_X8_isQueue, c_X5_checkAhead, c_queueOf_0, mc_pi, mc_pT, mi_pi, mi_pT, ml_pi, ml_pT, mz_pT, mcs_0, mcs_i, mcs_r, Kn_v, Kn_0, Kn_x, true_and, and_true, or_false, not_true_eq_false, not_false_eq_true, false_implies, forall_const, if_true, if_false, and_self, Nat.reduceLeDiff, Nat.reduceSub, Nat.reduceAdd, Nat.zero_le, Nat.le_refl, i10, lt_le, Int32.reduceLT, Sum.inl.injEq, Option.some.injEq, Value.int.injEq, exists_eq_left', Nat.reduceLT, i20, kc0, kc5, kc22, kr0_2, kz, bs, bs2, bx0, bx9]
          intro t ht
          first | refine ⟨⟨?_, ?_, ?_, ?_, ?_, ?_, ?_, ?_, ?_, ?_, ?_, ?_⟩, rfl⟩ | refine ⟨?_, ?_, ?_, ?_, ?_, ?_, ?_, ?_, ?_, ?_, ?_, ?_⟩
          · (try simp only [K_pi])
            exact K_pT ht vk
          · (try simp only [Cn_pi_j22 hA, Cn_pT])
            exact vcn
          · (try simp only [Vq0_pi_j22 hA, Vq0_pT])
            exact v0
          · (try simp only [Vq1_pi_j22 hA, Vq1_pT])
            exact v1
          · (try simp only [Vq2_pi_j22 hA, Vq2_pT])
            exact v2
          · (try simp only [Vp_thr hA, Vp_pT])
            exact vp
          · (try simp only [Vl0_pi_j22 hA, Vl0_pT])
            exact vl0
          · (try simp only [Vl1_pi_j22 hA, Vl1_pT])
            exact vl1
          · (try simp only [Vlr_pi_j22 hA, Vlr_pT])
            exact vlr
          · (try simp only [Vsr_pi_j22 hA, Vsr_pT])
            exact vsr
          · (try simp only [Vc_pi_j22 hA, Vc_pT])
            exact vc
          · (try simp only [Tx_pi_j22 hA])
            exact Tx_pT ht tx
        · skip
          simp only [o298_0, o298_2, o298_3, o298_4, o298_5, o298_6, o298_16, o298_18, o298_19, o298_20, o298_22, o298_23, o67_0, o67_1, o67_2, o67_5, o67_7, o67_8, o67_11, o67_12, o67_15, o67_16, o67_18, o190_0, o190_1, o190_2, o190_5, o190_8, o190_9, o190_12, o190_15, o190_16, o190_19, o190_20, o190_21, o190_24, o190_25, o190_27, o190_30, o190_31, o190_34, o190_35, o190_38, o190_41, o190_42, o190_43, o190_44, o190_45, o190_46, hx_298_1, hx_298_2, c_X5_checkSlot, c_X8_isSlot, c_X8_isThrown_, c_X8_isQueue, c_X5_checkAhead, c_queueOf_1, mc_pi, mc_pT, mi_pi, mi_pT, ml_pi, ml_pT, mz_pT, mcs_0, mcs_i, mcs_r, Kn_v, Kn_0, Kn_x, true_and, and_true, or_false, not_true_eq_false, not_false_eq_true, false_implies, forall_const, if_true, if_false, and_self, Nat.reduceLeDiff, Nat.reduceSub, Nat.reduceAdd, Nat.zero_le, Nat.le_refl, i10, lt_le, Int32.reduceLT, Sum.inl.injEq, Option.some.injEq, Value.int.injEq, exists_eq_left', Nat.reduceLT, i20, kc0, kc6, kc22, kr0_3, kz, bs, bs2, bx0, bx9]
          intro t ht
          first | refine ⟨⟨?_, ?_, ?_, ?_, ?_, ?_, ?_, ?_, ?_, ?_, ?_, ?_⟩, rfl⟩ | refine ⟨?_, ?_, ?_, ?_, ?_, ?_, ?_, ?_, ?_, ?_, ?_, ?_⟩
          · (try simp only [K_pi])
            exact K_pT ht vk
          · (try simp only [Cn_pi_j22 hA, Cn_pT])
            exact vcn
          · (try simp only [Vq0_pi_j22 hA, Vq0_pT])
            exact v0
          · (try simp only [Vq1_pi_j22 hA, Vq1_pT])
            exact v1
          · (try simp only [Vq2_pi_j22 hA, Vq2_pT])
            exact v2
          · (try simp only [Vp_thr hA, Vp_pT])
            exact vp
          · (try simp only [Vl0_pi_j22 hA, Vl0_pT])
            exact vl0
          · (try simp only [Vl1_pi_j22 hA, Vl1_pT])
            exact vl1
          · (try simp only [Vlr_pi_j22 hA, Vlr_pT])
            exact vlr
          · (try simp only [Vsr_pi_j22 hA, Vsr_pT])
            exact vsr
          · (try simp only [Vc_pi_j22 hA, Vc_pT])
            exact vc
          · (try simp only [Tx_pi_j22 hA])
            exact Tx_pT ht tx
        · skip
          simp only [o298_0, o298_2, o298_3, o298_4, o298_5, o298_6, o298_16, o298_18, o298_19, o298_20, o298_22, o298_23, o67_0, o67_1, o67_2, o67_5, o67_7, o67_8, o67_11, o67_12, o67_15, o67_16, o67_18, o190_0, o190_1, o190_2, o190_5, o190_8, o190_9, o190_12, o190_15, o190_16, o190_19, o190_20, o190_21, o190_24, o190_25, o190_27, o190_30, o190_31, o190_34, o190_35, o190_38, o190_41, o190_42, o190_43, o190_44, o190_45, o190_46, hx_298_1, hx_298_2, c_X5_checkSlot, c_X8_isSlot, c_X8_isThrown_, c_X8_isQueue, c_X5_checkAhead, c_queueOf_2, mc_pi, mc_pT, mi_pi, mi_pT, ml_pi, ml_pT, mz_pT, mcs_0, mcs_i, mcs_r, Kn_v, Kn_0, Kn_x, true_and, and_true, or_false, not_true_eq_false, not_false_eq_true, false_implies, forall_const, if_true, if_false, and_self, Nat.reduceLeDiff, Nat.reduceSub, Nat.reduceAdd, Nat.zero_le, Nat.le_refl, i10, lt_le, Int32.reduceLT, Sum.inl.injEq, Option.some.injEq, Value.int.injEq, exists_eq_left', Nat.reduceLT, i20, kc0, kc7, kc22, kr0_4, kz, bs, bs2, bx0, bx9]
          intro t ht
          first | refine ⟨⟨?_, ?_, ?_, ?_, ?_, ?_, ?_, ?_, ?_, ?_, ?_, ?_⟩, rfl⟩ | refine ⟨?_, ?_, ?_, ?_, ?_, ?_, ?_, ?_, ?_, ?_, ?_, ?_⟩
          · (try simp only [K_pi])
            exact K_pT ht vk
          · (try simp only [Cn_pi_j22 hA, Cn_pT])
            exact vcn
          · (try simp only [Vq0_pi_j22 hA, Vq0_pT])
            exact v0
          · (try simp only [Vq1_pi_j22 hA, Vq1_pT])
            exact v1
          · (try simp only [Vq2_pi_j22 hA, Vq2_pT])
            exact v2
          · (try simp only [Vp_thr hA, Vp_pT])
            exact vp
          · (try simp only [Vl0_pi_j22 hA, Vl0_pT])
            exact vl0
          · (try simp only [Vl1_pi_j22 hA, Vl1_pT])
            exact vl1
          · (try simp only [Vlr_pi_j22 hA, Vlr_pT])
            exact vlr
          · (try simp only [Vsr_pi_j22 hA, Vsr_pT])
            exact vsr
          · (try simp only [Vc_pi_j22 hA, Vc_pT])
            exact vc
          · (try simp only [Tx_pi_j22 hA])
            exact Tx_pT ht tx
      · have s1 : ¬ s < 0 := fun z => bs (Or.inl z)
        have s2 : s < 6 := Classical.byContradiction fun z => bs (Or.inr z)
        have hs := ix_ok s1 s2
        have hs2 := hs
        obtain ⟨⟨j0, j1, j2, j3⟩, d01, d02, d03, d10, d12, d13, d20, d21, d23, d30, d31, d32⟩ := hs2
        obtain ⟨l0, l1, l2, l3⟩ := ix_lt hs
        have vs0 := (vsr _ l0).1
        have vs1 := (vsr _ l1).1
        have vs2 := (vsr _ l2).1
        have vs3 := (vsr _ l3).1
        have bs2 : (¬ s < 0 ∧ s < 6) = True := eq_true ⟨s1, s2⟩
        rcases q_cases y1 y2 with rfl | rfl | rfl
        · have he := v0.1
          have hm := v0.2
          have hT : mT h (A 27) 0 (A 31) (A 34) = cT h (A 5) (A 8) (A 9) := he.symm
          have he2 := he
          simp only [cT, mT, Prod.mk.injEq] at he2
          obtain ⟨g1, g2, g3, g4, g5, g6, g7⟩ := he2
          replace g1 := g1.symm
          replace g2 := g2.symm
          replace g3 := g3.symm
          replace g4 := g4.symm
          replace g5 := g5.symm
          replace g6 := g6.symm
          replace g7 := g7.symm
          obtain ⟨hmk, har, hl0, hl9⟩ := qA_0 _ hm
          have hark : arok 0 (g_i h (A 5) 3) := fun z => absurd (by decide) z
          have n1 : ¬ A 8 = A 9 := fun z => absurd ((hAe 8 9 (by decide) (by decide)).mp z) (by decide)
          by_cases bl : x < lyF (cT h (A 5) (A 8) (A 9))
          · obtain ⟨i1, i2, hj⟩ := (qX_0 _ hm x (x_mem bx0 bx9)).resolve_left (fun z => z bl)
            have hj2 := hj.2.2
            have vlk := (vlr _ (rdy_lt hj)).symm
            by_cases be : g_l h (A 3) (1 + ceF (cT h (A 5) (A 8) (A 9)) x).toNatClampNeg = nmM (g_i h (A 24) (11 + 4 * s + 0).toNatClampNeg) (g_i h (A 24) (11 + 4 * s + 1).toNatClampNeg) (g_i h (A 24) (11 + 4 * s + 2).toNatClampNeg) (g_i h (A 24) (11 + 4 * s + 3).toNatClampNeg)
            all_goals
              simp only [o298_0, o298_2, o298_3, o298_4, o298_5, o298_6, o298_9, o298_10, o298_13, o298_16, o298_18, o298_19, o298_20, o298_22, o298_23, o298_24, o298_25, o67_0, o67_1, o67_2, o67_5, o67_7, o67_8, o67_11, o67_12, o67_15, o67_16, o67_18, o67_21, o67_24, o67_25, o67_28, o67_29, o67_33, o67_34, o67_37, o67_39, o67_40, o67_41, o67_42, o67_45, o67_48, o67_51, o67_52, o67_55, o67_56, o67_59, o190_0, o190_1, o190_2, o190_5, o190_8, o190_9, o190_12, o190_15, o190_16, o190_19, o190_20, o190_21, o190_24, o190_25, o190_27, o190_30, o190_31, o190_34, o190_35, o190_38, o190_41, o190_42, o190_43, o190_44, o190_45, o190_46, o190_49, o190_52, o190_53, o190_54, o190_58, o190_59, o190_62, o190_63, o190_64, o190_65, o190_68, o190_69, o190_71, o190_72, o190_75, o190_76, o190_77, o190_78, o190_81, o190_82, o190_83, o190_86, o190_87, o190_88, o190_90, o190_91, o190_92, o190_95, o190_96, o190_99, o190_100, o190_103, o190_104, o190_107, hx_298_1, hx_298_2, c_X5_checkSlot, c_X8_isSlot, c_X8_isThrown_, c_X8_isQueue, c_X5_checkAhead, c_queueOf_0, c_X1_lying (w := A 8) (r := A 9), c_X1_replace (w := A 8) (r := A 9) (rw := A 1) (cs := A 3) (n := 16), c_X8_liesOf (x2 := A 25) (x3 := A 26) (a := A 27) (w := A 31) (r := A 34), c_X8_cellOf (x2 := A 25) (x3 := A 26) (a := A 27) (w := A 31) (r := A 34), c_X5_numberIn (rw := A 2) (cs := A 4), c_X8_numberOf (sr := A 24), c_X0_done (cs := A 18), c_X8_done (cs := A 30), mc_pi, mc_pl, mc_pT, mn_pi, mn_pl, mn_pT, mi_pi, mi_pl, mi_pT, ml_pi, ml_pl, ml_pT, mr_pi, mr_pl, mr_pT, mz_pi, mz_pl, mz_pT, mcs_0, mcs_i, mcs_l, mcs_r, Kn_v, Kn_0, Kn_x, mrf_some, true_and, and_true, false_and, and_false, or_false, not_true_eq_false, not_false_eq_true, false_implies, implies_true, forall_const, if_true, if_false, and_self, Nat.reduceEqDiff, Nat.reduceLeDiff, Nat.reduceSub, Nat.reduceAdd, Nat.zero_le, Nat.le_refl, i10, i01, lt_le, Int32.reduceLT, cl0, lg_cmp_eq, Kc_v, Sum.inl.injEq, Option.some.injEq, Value.int.injEq, exists_eq_left', Nat.reduceLT, hAe, i20, kc0, kc1, kc2, kc3, kc4, kc5, kc8, kc9, kc17, kc18, kc22, kc23, kc24, kc25, kc26, kc27, kc30, kc31, kc34, kc39, kn3, kn4, kn18, kn23, kn24, kn25, kn26, kn27, kn30, kr0_1, kr0_2, kr0_9, kr1_0, kr2_0, kr5_0, kr5_1, kr8_0, kr17_0, kr22_0, kr22_1, kr22_2, kr22_3, kr22_4, kr22_8, kr25_0, kr26_0, kz, ki8_1, ki8_2, ki8_3, ki34_0, vq3, hT, Int32.reduceLT, cl0, s1, s2, hs, vs0, vs1, vs2, vs3, i64_inj, i64_back, nm_eq, mT0_pi_j18 hA, mT0_pi_j22 hA, mT0_pl, mT0_pT, i1, i2, hj, hj2, vlk, bl, bx0, bx9, be]
              first | refine ⟨⟨?_, ?_, ?_, ?_, ?_, ?_, ?_, ?_, ?_, ?_, ?_, ?_⟩, rfl⟩ | refine ⟨?_, ?_, ?_, ?_, ?_, ?_, ?_, ?_, ?_, ?_, ?_, ?_⟩
              · (try simp only [K_pi, K_pl])
                exact vk
              · (try simp only [Cn_pi_j18 hA, Cn_pi_j22 hA, Cn_pi_j30 hA, Cn_pl])
                exact vcn
              · (try simp only [Vq0_pi_j18 hA, Vq0_pi_j22 hA, Vq0_pi_j30 hA, Vq0_pl])
                exact v0
              · (try simp only [Vq1_pi_j18 hA, Vq1_pi_j22 hA, Vq1_pi_j30 hA, Vq1_pl])
                exact v1
              · (try simp only [Vq2_pi_j18 hA, Vq2_pi_j22 hA, Vq2_pi_j30 hA, Vq2_pl])
                exact v2
              · (try simp only [Vp_pi_j18 hA, Vp_pi_j30 hA, Vp_thr hA, Vp_pl])
                exact vp
              · (try simp only [Vl0_pi_j18 hA, Vl0_pi_j22 hA, Vl0_pi_j30 hA, Vl0_pl])
                exact vl0
              · (try simp only [Vl1_pi_j18 hA, Vl1_pi_j22 hA, Vl1_pi_j30 hA, Vl1_pl])
                exact vl1
              · refine Vlr_1 (i0 := (1 + ceF (cT h (A 5) (A 8) (A 9)) x).toNatClampNeg) (x0 := nmM (g_i h (A 24) (11 + 4 * s + 0).toNatClampNeg) (g_i h (A 24) (11 + 4 * s + 1).toNatClampNeg) (g_i h (A 24) (11 + 4 * s + 2).toNatClampNeg) (g_i h (A 24) (11 + 4 * s + 3).toNatClampNeg)) vlr (fun k => ?_) (fun k => ?_) <;> simp only [ml_pi, ml_pl, hAe, Nat.reduceLT, Nat.reduceEqDiff, false_and, true_and, if_false]
              · (try simp only [Vsr_pi_j18 hA, Vsr_pi_j22 hA, Vsr_pi_j30 hA, Vsr_pl_j39 hA, Vsr_pl_j3 hA, Vsr_pl_j23 hA])
                exact vsr
              · refine Vc_of (c := 0) vc (by decide) (fun k => ?_) (fun k => ?_) <;> simp only [mi_pi, mi_pl, hAe, Nat.reduceLT, Nat.reduceEqDiff, false_and, true_and, if_false]
              · (try simp only [Tx_pi_j18 hA, Tx_pi_j22 hA, Tx_pi_j30 hA, Tx_pl])
                exact tx
          · skip
            simp only [o298_0, o298_2, o298_3, o298_4, o298_5, o298_6, o298_9, o298_10, o298_13, o298_16, o298_18, o298_19, o298_20, o298_22, o298_23, o298_24, o298_25, o67_0, o67_1, o67_2, o67_5, o67_7, o67_8, o67_11, o67_12, o67_15, o67_16, o67_18, o67_21, o67_24, o67_25, o67_28, o67_29, o67_32, o67_33, o67_34, o67_37, o67_39, o67_40, o67_41, o67_42, o190_0, o190_1, o190_2, o190_5, o190_8, o190_9, o190_12, o190_15, o190_16, o190_19, o190_20, o190_21, o190_24, o190_25, o190_27, o190_30, o190_31, o190_34, o190_35, o190_38, o190_41, o190_42, o190_43, o190_44, o190_45, o190_46, o190_49, o190_52, o190_53, o190_54, o190_57, o190_58, o190_59, o190_62, o190_63, o190_64, o190_65, hx_298_1, hx_298_2, c_X5_checkSlot, c_X8_isSlot, c_X8_isThrown_, c_X8_isQueue, c_X5_checkAhead, c_queueOf_0, c_X1_lying (w := A 8) (r := A 9), c_ref_5 (cs := A 18), c_X8_liesOf (x2 := A 25) (x3 := A 26) (a := A 27) (w := A 31) (r := A 34), c_X8_no (cs := A 30), mc_pi, mc_pl, mc_pT, mn_pi, mn_pl, mn_pT, mi_pi, mi_pl, mi_pT, ml_pi, ml_pl, ml_pT, mr_pi, mr_pl, mr_pT, mz_pi, mz_pl, mz_pT, mcs_0, mcs_i, mcs_r, Kn_v, Kn_0, Kn_x, mrf_some, true_and, and_true, and_false, or_false, not_true_eq_false, not_false_eq_true, false_implies, implies_true, forall_const, if_true, if_false, and_self, Nat.reduceEqDiff, Nat.reduceLeDiff, Nat.reduceSub, Nat.reduceAdd, Nat.zero_le, Nat.le_refl, i10, i01, lt_le, Int32.reduceLT, Int32.reduceSub, cl0, cl5, Kc_v, Sum.inl.injEq, Option.some.injEq, Value.int.injEq, exists_eq_left', Nat.reduceLT, hAe, i20, kc0, kc5, kc8, kc9, kc17, kc18, kc22, kc25, kc26, kc27, kc30, kc31, kc34, kc39, kn18, kn25, kn26, kn27, kn30, kr0_2, kr0_9, kr5_0, kr5_1, kr17_0, kr22_0, kr22_2, kr22_3, kr22_4, kr22_8, kr25_0, kr26_0, kz, vq3, hT, Int32.reduceLT, cl0, s1, s2, i64_inj, mT0_pi_j18 hA, mT0_pi_j22 hA, mT0_pl, mT0_pT, bl, bx0, bx9, v18, cl5]
            first | refine ⟨⟨?_, ?_, ?_, ?_, ?_, ?_, ?_, ?_, ?_, ?_, ?_, ?_⟩, rfl⟩ | refine ⟨?_, ?_, ?_, ?_, ?_, ?_, ?_, ?_, ?_, ?_, ?_, ?_⟩
            · (try simp only [K_pi, K_pl])
              exact vk
            · (try simp only [Cn_pi_j18 hA, Cn_pi_j22 hA, Cn_pi_j30 hA, Cn_pl])
              exact vcn
            · (try simp only [Vq0_pi_j18 hA, Vq0_pi_j22 hA, Vq0_pi_j30 hA, Vq0_pl])
              exact v0
            · (try simp only [Vq1_pi_j18 hA, Vq1_pi_j22 hA, Vq1_pi_j30 hA, Vq1_pl])
              exact v1
            · (try simp only [Vq2_pi_j18 hA, Vq2_pi_j22 hA, Vq2_pi_j30 hA, Vq2_pl])
              exact v2
            · (try simp only [Vp_pi_j18 hA, Vp_pi_j30 hA, Vp_thr hA, Vp_pl])
              exact vp
            · (try simp only [Vl0_pi_j18 hA, Vl0_pi_j22 hA, Vl0_pi_j30 hA, Vl0_pl])
              exact vl0
            · (try simp only [Vl1_pi_j18 hA, Vl1_pi_j22 hA, Vl1_pi_j30 hA, Vl1_pl])
              exact vl1
            · (try simp only [Vlr_pi_j18 hA, Vlr_pi_j22 hA, Vlr_pi_j30 hA, Vlr_pl_j39 hA])
              exact vlr
            · (try simp only [Vsr_pi_j18 hA, Vsr_pi_j22 hA, Vsr_pi_j30 hA, Vsr_pl_j39 hA])
              exact vsr
            · refine Vc_of (c := 5) vc (by decide) (fun k => ?_) (fun k => ?_) <;> simp only [mi_pi, mi_pl, hAe, Nat.reduceLT, Nat.reduceEqDiff, false_and, true_and, if_false]
            · (try simp only [Tx_pi_j18 hA, Tx_pi_j22 hA, Tx_pi_j30 hA, Tx_pl])
              exact tx
        · have he := v1.1
          have hm := v1.2
          have hT : mT h (A 27) 1 (A 32) (A 35) = cT h (A 6) (A 10) (A 11) := he.symm
          have he2 := he
          simp only [cT, mT, Prod.mk.injEq] at he2
          obtain ⟨g1, g2, g3, g4, g5, g6, g7⟩ := he2
          replace g1 := g1.symm
          replace g2 := g2.symm
          replace g3 := g3.symm
          replace g4 := g4.symm
          replace g5 := g5.symm
          replace g6 := g6.symm
          replace g7 := g7.symm
          obtain ⟨hmk, har, hl0, hl9⟩ := qA_1 _ hm
          have hark : arok 1 (g_i h (A 6) 3) := fun z => absurd (by decide) z
          have n1 : ¬ A 10 = A 11 := fun z => absurd ((hAe 10 11 (by decide) (by decide)).mp z) (by decide)
          by_cases bl : x < lyF (cT h (A 6) (A 10) (A 11))
          · obtain ⟨i1, i2, hj⟩ := (qX_1 _ hm x (x_mem bx0 bx9)).resolve_left (fun z => z bl)
            have hj2 := hj.2.2
            have vlk := (vlr _ (rdy_lt hj)).symm
            by_cases be : g_l h (A 3) (6 + ceF (cT h (A 6) (A 10) (A 11)) x).toNatClampNeg = nmM (g_i h (A 24) (11 + 4 * s + 0).toNatClampNeg) (g_i h (A 24) (11 + 4 * s + 1).toNatClampNeg) (g_i h (A 24) (11 + 4 * s + 2).toNatClampNeg) (g_i h (A 24) (11 + 4 * s + 3).toNatClampNeg)
            all_goals
              simp only [o298_0, o298_2, o298_3, o298_4, o298_5, o298_6, o298_9, o298_10, o298_13, o298_16, o298_18, o298_19, o298_20, o298_22, o298_23, o298_24, o298_25, o67_0, o67_1, o67_2, o67_5, o67_7, o67_8, o67_11, o67_12, o67_15, o67_16, o67_18, o67_21, o67_24, o67_25, o67_28, o67_29, o67_33, o67_34, o67_37, o67_39, o67_40, o67_41, o67_42, o67_45, o67_48, o67_51, o67_52, o67_55, o67_56, o67_59, o190_0, o190_1, o190_2, o190_5, o190_8, o190_9, o190_12, o190_15, o190_16, o190_19, o190_20, o190_21, o190_24, o190_25, o190_27, o190_30, o190_31, o190_34, o190_35, o190_38, o190_41, o190_42, o190_43, o190_44, o190_45, o190_46, o190_49, o190_52, o190_53, o190_54, o190_58, o190_59, o190_62, o190_63, o190_64, o190_65, o190_68, o190_69, o190_71, o190_72, o190_75, o190_76, o190_77, o190_78, o190_81, o190_82, o190_83, o190_86, o190_87, o190_88, o190_90, o190_91, o190_92, o190_95, o190_96, o190_99, o190_100, o190_103, o190_104, o190_107, hx_298_1, hx_298_2, c_X5_checkSlot, c_X8_isSlot, c_X8_isThrown_, c_X8_isQueue, c_X5_checkAhead, c_queueOf_1, c_X1_lying (w := A 10) (r := A 11), c_X1_replace (w := A 10) (r := A 11) (rw := A 1) (cs := A 3) (n := 16), c_X8_liesOf (x2 := A 25) (x3 := A 26) (a := A 27) (w := A 32) (r := A 35), c_X8_cellOf (x2 := A 25) (x3 := A 26) (a := A 27) (w := A 32) (r := A 35), c_X5_numberIn (rw := A 2) (cs := A 4), c_X8_numberOf (sr := A 24), c_X0_done (cs := A 18), c_X8_done (cs := A 30), mc_pi, mc_pl, mc_pT, mn_pi, mn_pl, mn_pT, mi_pi, mi_pl, mi_pT, ml_pi, ml_pl, ml_pT, mr_pi, mr_pl, mr_pT, mz_pi, mz_pl, mz_pT, mcs_0, mcs_i, mcs_l, mcs_r, Kn_v, Kn_0, Kn_x, mrf_some, true_and, and_true, false_and, and_false, or_false, not_true_eq_false, not_false_eq_true, false_implies, implies_true, forall_const, if_true, if_false, and_self, Nat.reduceEqDiff, Nat.reduceLeDiff, Nat.reduceSub, Nat.reduceAdd, Nat.zero_le, Nat.le_refl, i10, i01, lt_le, Int32.reduceLT, cl1, lg_cmp_eq, Kc_v, Sum.inl.injEq, Option.some.injEq, Value.int.injEq, exists_eq_left', Nat.reduceLT, hAe, i20, kc0, kc1, kc2, kc3, kc4, kc6, kc10, kc11, kc17, kc18, kc22, kc23, kc24, kc25, kc26, kc27, kc30, kc32, kc35, kc39, kn3, kn4, kn18, kn23, kn24, kn25, kn26, kn27, kn30, kr0_1, kr0_3, kr0_9, kr1_0, kr2_0, kr6_0, kr6_1, kr10_0, kr17_0, kr22_0, kr22_1, kr22_2, kr22_3, kr22_4, kr22_8, kr25_1, kr26_1, kz, ki10_1, ki10_2, ki10_3, ki35_0, vq3, hT, Int32.reduceLT, cl1, s1, s2, hs, vs0, vs1, vs2, vs3, i64_inj, i64_back, nm_eq, mT1_pi_j18 hA, mT1_pi_j22 hA, mT1_pl, mT1_pT, i1, i2, hj, hj2, vlk, bl, bx0, bx9, be]
              first | refine ⟨⟨?_, ?_, ?_, ?_, ?_, ?_, ?_, ?_, ?_, ?_, ?_, ?_⟩, rfl⟩ | refine ⟨?_, ?_, ?_, ?_, ?_, ?_, ?_, ?_, ?_, ?_, ?_, ?_⟩
              · (try simp only [K_pi, K_pl])
                exact vk
              · (try simp only [Cn_pi_j18 hA, Cn_pi_j22 hA, Cn_pi_j30 hA, Cn_pl])
                exact vcn
              · (try simp only [Vq0_pi_j18 hA, Vq0_pi_j22 hA, Vq0_pi_j30 hA, Vq0_pl])
                exact v0
              · (try simp only [Vq1_pi_j18 hA, Vq1_pi_j22 hA, Vq1_pi_j30 hA, Vq1_pl])
                exact v1
              · (try simp only [Vq2_pi_j18 hA, Vq2_pi_j22 hA, Vq2_pi_j30 hA, Vq2_pl])
                exact v2
              · (try simp only [Vp_pi_j18 hA, Vp_pi_j30 hA, Vp_thr hA, Vp_pl])
                exact vp
              · (try simp only [Vl0_pi_j18 hA, Vl0_pi_j22 hA, Vl0_pi_j30 hA, Vl0_pl])
                exact vl0
              · (try simp only [Vl1_pi_j18 hA, Vl1_pi_j22 hA, Vl1_pi_j30 hA, Vl1_pl])
                exact vl1
              · refine Vlr_1 (i0 := (6 + ceF (cT h (A 6) (A 10) (A 11)) x).toNatClampNeg) (x0 := nmM (g_i h (A 24) (11 + 4 * s + 0).toNatClampNeg) (g_i h (A 24) (11 + 4 * s + 1).toNatClampNeg) (g_i h (A 24) (11 + 4 * s + 2).toNatClampNeg) (g_i h (A 24) (11 + 4 * s + 3).toNatClampNeg)) vlr (fun k => ?_) (fun k => ?_) <;> simp only [ml_pi, ml_pl, hAe, Nat.reduceLT, Nat.reduceEqDiff, false_and, true_and, if_false]
              · (try simp only [Vsr_pi_j18 hA, Vsr_pi_j22 hA, Vsr_pi_j30 hA, Vsr_pl_j39 hA, Vsr_pl_j3 hA, Vsr_pl_j23 hA])
                exact vsr
              · refine Vc_of (c := 0) vc (by decide) (fun k => ?_) (fun k => ?_) <;> simp only [mi_pi, mi_pl, hAe, Nat.reduceLT, Nat.reduceEqDiff, false_and, true_and, if_false]
              · (try simp only [Tx_pi_j18 hA, Tx_pi_j22 hA, Tx_pi_j30 hA, Tx_pl])
                exact tx
          · skip
            simp only [o298_0, o298_2, o298_3, o298_4, o298_5, o298_6, o298_9, o298_10, o298_13, o298_16, o298_18, o298_19, o298_20, o298_22, o298_23, o298_24, o298_25, o67_0, o67_1, o67_2, o67_5, o67_7, o67_8, o67_11, o67_12, o67_15, o67_16, o67_18, o67_21, o67_24, o67_25, o67_28, o67_29, o67_32, o67_33, o67_34, o67_37, o67_39, o67_40, o67_41, o67_42, o190_0, o190_1, o190_2, o190_5, o190_8, o190_9, o190_12, o190_15, o190_16, o190_19, o190_20, o190_21, o190_24, o190_25, o190_27, o190_30, o190_31, o190_34, o190_35, o190_38, o190_41, o190_42, o190_43, o190_44, o190_45, o190_46, o190_49, o190_52, o190_53, o190_54, o190_57, o190_58, o190_59, o190_62, o190_63, o190_64, o190_65, hx_298_1, hx_298_2, c_X5_checkSlot, c_X8_isSlot, c_X8_isThrown_, c_X8_isQueue, c_X5_checkAhead, c_queueOf_1, c_X1_lying (w := A 10) (r := A 11), c_ref_5 (cs := A 18), c_X8_liesOf (x2 := A 25) (x3 := A 26) (a := A 27) (w := A 32) (r := A 35), c_X8_no (cs := A 30), mc_pi, mc_pl, mc_pT, mn_pi, mn_pl, mn_pT, mi_pi, mi_pl, mi_pT, ml_pi, ml_pl, ml_pT, mr_pi, mr_pl, mr_pT, mz_pi, mz_pl, mz_pT, mcs_0, mcs_i, mcs_r, Kn_v, Kn_0, Kn_x, mrf_some, true_and, and_true, and_false, or_false, not_true_eq_false, not_false_eq_true, false_implies, implies_true, forall_const, if_true, if_false, and_self, Nat.reduceEqDiff, Nat.reduceLeDiff, Nat.reduceSub, Nat.reduceAdd, Nat.zero_le, Nat.le_refl, i10, i01, lt_le, Int32.reduceLT, Int32.reduceSub, cl1, cl5, Kc_v, Sum.inl.injEq, Option.some.injEq, Value.int.injEq, exists_eq_left', Nat.reduceLT, hAe, i20, kc0, kc6, kc10, kc11, kc17, kc18, kc22, kc25, kc26, kc27, kc30, kc32, kc35, kc39, kn18, kn25, kn26, kn27, kn30, kr0_3, kr0_9, kr6_0, kr6_1, kr17_0, kr22_0, kr22_2, kr22_3, kr22_4, kr22_8, kr25_1, kr26_1, kz, vq3, hT, Int32.reduceLT, cl1, s1, s2, i64_inj, mT1_pi_j18 hA, mT1_pi_j22 hA, mT1_pl, mT1_pT, bl, bx0, bx9, v18, cl5]
            first | refine ⟨⟨?_, ?_, ?_, ?_, ?_, ?_, ?_, ?_, ?_, ?_, ?_, ?_⟩, rfl⟩ | refine ⟨?_, ?_, ?_, ?_, ?_, ?_, ?_, ?_, ?_, ?_, ?_, ?_⟩
            · (try simp only [K_pi, K_pl])
              exact vk
            · (try simp only [Cn_pi_j18 hA, Cn_pi_j22 hA, Cn_pi_j30 hA, Cn_pl])
              exact vcn
            · (try simp only [Vq0_pi_j18 hA, Vq0_pi_j22 hA, Vq0_pi_j30 hA, Vq0_pl])
              exact v0
            · (try simp only [Vq1_pi_j18 hA, Vq1_pi_j22 hA, Vq1_pi_j30 hA, Vq1_pl])
              exact v1
            · (try simp only [Vq2_pi_j18 hA, Vq2_pi_j22 hA, Vq2_pi_j30 hA, Vq2_pl])
              exact v2
            · (try simp only [Vp_pi_j18 hA, Vp_pi_j30 hA, Vp_thr hA, Vp_pl])
              exact vp
            · (try simp only [Vl0_pi_j18 hA, Vl0_pi_j22 hA, Vl0_pi_j30 hA, Vl0_pl])
              exact vl0
            · (try simp only [Vl1_pi_j18 hA, Vl1_pi_j22 hA, Vl1_pi_j30 hA, Vl1_pl])
              exact vl1
            · (try simp only [Vlr_pi_j18 hA, Vlr_pi_j22 hA, Vlr_pi_j30 hA, Vlr_pl_j39 hA])
              exact vlr
            · (try simp only [Vsr_pi_j18 hA, Vsr_pi_j22 hA, Vsr_pi_j30 hA, Vsr_pl_j39 hA])
              exact vsr
            · refine Vc_of (c := 5) vc (by decide) (fun k => ?_) (fun k => ?_) <;> simp only [mi_pi, mi_pl, hAe, Nat.reduceLT, Nat.reduceEqDiff, false_and, true_and, if_false]
            · (try simp only [Tx_pi_j18 hA, Tx_pi_j22 hA, Tx_pi_j30 hA, Tx_pl])
              exact tx
        · have he := v2.1
          have hm := v2.2
          have hT : mT h (A 27) 2 (A 33) (A 36) = cT h (A 7) (A 12) (A 13) := he.symm
          have he2 := he
          simp only [cT, mT, Prod.mk.injEq] at he2
          obtain ⟨g1, g2, g3, g4, g5, g6, g7⟩ := he2
          replace g1 := g1.symm
          replace g2 := g2.symm
          replace g3 := g3.symm
          replace g4 := g4.symm
          replace g5 := g5.symm
          replace g6 := g6.symm
          replace g7 := g7.symm
          obtain ⟨hmk, har, hl0, hl9⟩ := qA_2 _ hm
          have hark : arok 2 (g_i h (A 7) 3) := fun _ => har
          have n1 : ¬ A 12 = A 13 := fun z => absurd ((hAe 12 13 (by decide) (by decide)).mp z) (by decide)
          by_cases bl : x < lyF (cT h (A 7) (A 12) (A 13))
          · obtain ⟨i1, i2, hj⟩ := (qX_2 _ hm x (x_mem bx0 bx9)).resolve_left (fun z => z bl)
            have hj2 := hj.2.2
            have vlk := (vlr _ (rdy_lt hj)).symm
            by_cases be : g_l h (A 3) (9 + ceF (cT h (A 7) (A 12) (A 13)) x).toNatClampNeg = nmM (g_i h (A 24) (11 + 4 * s + 0).toNatClampNeg) (g_i h (A 24) (11 + 4 * s + 1).toNatClampNeg) (g_i h (A 24) (11 + 4 * s + 2).toNatClampNeg) (g_i h (A 24) (11 + 4 * s + 3).toNatClampNeg)
            all_goals
              simp only [o298_0, o298_2, o298_3, o298_4, o298_5, o298_6, o298_9, o298_10, o298_13, o298_16, o298_18, o298_19, o298_20, o298_22, o298_23, o298_24, o298_25, o67_0, o67_1, o67_2, o67_5, o67_7, o67_8, o67_11, o67_12, o67_15, o67_16, o67_18, o67_21, o67_24, o67_25, o67_28, o67_29, o67_33, o67_34, o67_37, o67_39, o67_40, o67_41, o67_42, o67_45, o67_48, o67_51, o67_52, o67_55, o67_56, o67_59, o190_0, o190_1, o190_2, o190_5, o190_8, o190_9, o190_12, o190_15, o190_16, o190_19, o190_20, o190_21, o190_24, o190_25, o190_27, o190_30, o190_31, o190_34, o190_35, o190_38, o190_41, o190_42, o190_43, o190_44, o190_45, o190_46, o190_49, o190_52, o190_53, o190_54, o190_58, o190_59, o190_62, o190_63, o190_64, o190_65, o190_68, o190_69, o190_71, o190_72, o190_75, o190_76, o190_77, o190_78, o190_81, o190_82, o190_83, o190_86, o190_87, o190_88, o190_90, o190_91, o190_92, o190_95, o190_96, o190_99, o190_100, o190_103, o190_104, o190_107, hx_298_1, hx_298_2, c_X5_checkSlot, c_X8_isSlot, c_X8_isThrown_, c_X8_isQueue, c_X5_checkAhead, c_queueOf_2, c_X1_lying (w := A 12) (r := A 13), c_X1_replace (w := A 12) (r := A 13) (rw := A 1) (cs := A 3) (n := 16), c_X8_liesOf (x2 := A 25) (x3 := A 26) (a := A 27) (w := A 33) (r := A 36), c_X8_cellOf (x2 := A 25) (x3 := A 26) (a := A 27) (w := A 33) (r := A 36), c_X5_numberIn (rw := A 2) (cs := A 4), c_X8_numberOf (sr := A 24), c_X0_done (cs := A 18), c_X8_done (cs := A 30), mc_pi, mc_pl, mc_pT, mn_pi, mn_pl, mn_pT, mi_pi, mi_pl, mi_pT, ml_pi, ml_pl, ml_pT, mr_pi, mr_pl, mr_pT, mz_pi, mz_pl, mz_pT, mcs_0, mcs_i, mcs_l, mcs_r, Kn_v, Kn_0, Kn_x, mrf_some, true_and, and_true, false_and, and_false, or_false, not_true_eq_false, not_false_eq_true, false_implies, implies_true, forall_const, if_true, if_false, and_self, Nat.reduceEqDiff, Nat.reduceLeDiff, Nat.reduceSub, Nat.reduceAdd, Nat.zero_le, Nat.le_refl, i10, i01, lt_le, Int32.reduceLT, cl2, lg_cmp_eq, Kc_v, Sum.inl.injEq, Option.some.injEq, Value.int.injEq, exists_eq_left', Nat.reduceLT, hAe, i20, kc0, kc1, kc2, kc3, kc4, kc7, kc12, kc13, kc17, kc18, kc22, kc23, kc24, kc25, kc26, kc27, kc30, kc33, kc36, kc39, kn3, kn4, kn18, kn23, kn24, kn25, kn26, kn27, kn30, kr0_1, kr0_4, kr0_9, kr1_0, kr2_0, kr7_0, kr7_1, kr12_0, kr17_0, kr22_0, kr22_1, kr22_2, kr22_3, kr22_4, kr22_8, kr25_2, kr26_2, kz, ki12_1, ki12_2, ki12_3, ki36_0, vq3, hT, Int32.reduceLT, cl2, s1, s2, hs, vs0, vs1, vs2, vs3, i64_inj, i64_back, nm_eq, mT2_pi_j18 hA, mT2_pi_j22 hA, mT2_pl, mT2_pT, i1, i2, hj, hj2, vlk, bl, bx0, bx9, be]
              first | refine ⟨⟨?_, ?_, ?_, ?_, ?_, ?_, ?_, ?_, ?_, ?_, ?_, ?_⟩, rfl⟩ | refine ⟨?_, ?_, ?_, ?_, ?_, ?_, ?_, ?_, ?_, ?_, ?_, ?_⟩
              · (try simp only [K_pi, K_pl])
                exact vk
              · (try simp only [Cn_pi_j18 hA, Cn_pi_j22 hA, Cn_pi_j30 hA, Cn_pl])
                exact vcn
              · (try simp only [Vq0_pi_j18 hA, Vq0_pi_j22 hA, Vq0_pi_j30 hA, Vq0_pl])
                exact v0
              · (try simp only [Vq1_pi_j18 hA, Vq1_pi_j22 hA, Vq1_pi_j30 hA, Vq1_pl])
                exact v1
              · (try simp only [Vq2_pi_j18 hA, Vq2_pi_j22 hA, Vq2_pi_j30 hA, Vq2_pl])
                exact v2
              · (try simp only [Vp_pi_j18 hA, Vp_pi_j30 hA, Vp_thr hA, Vp_pl])
                exact vp
              · (try simp only [Vl0_pi_j18 hA, Vl0_pi_j22 hA, Vl0_pi_j30 hA, Vl0_pl])
                exact vl0
              · (try simp only [Vl1_pi_j18 hA, Vl1_pi_j22 hA, Vl1_pi_j30 hA, Vl1_pl])
                exact vl1
              · refine Vlr_1 (i0 := (9 + ceF (cT h (A 7) (A 12) (A 13)) x).toNatClampNeg) (x0 := nmM (g_i h (A 24) (11 + 4 * s + 0).toNatClampNeg) (g_i h (A 24) (11 + 4 * s + 1).toNatClampNeg) (g_i h (A 24) (11 + 4 * s + 2).toNatClampNeg) (g_i h (A 24) (11 + 4 * s + 3).toNatClampNeg)) vlr (fun k => ?_) (fun k => ?_) <;> simp only [ml_pi, ml_pl, hAe, Nat.reduceLT, Nat.reduceEqDiff, false_and, true_and, if_false]
              · (try simp only [Vsr_pi_j18 hA, Vsr_pi_j22 hA, Vsr_pi_j30 hA, Vsr_pl_j39 hA, Vsr_pl_j3 hA, Vsr_pl_j23 hA])
                exact vsr
              · refine Vc_of (c := 0) vc (by decide) (fun k => ?_) (fun k => ?_) <;> simp only [mi_pi, mi_pl, hAe, Nat.reduceLT, Nat.reduceEqDiff, false_and, true_and, if_false]
              · (try simp only [Tx_pi_j18 hA, Tx_pi_j22 hA, Tx_pi_j30 hA, Tx_pl])
                exact tx
          · skip
            simp only [o298_0, o298_2, o298_3, o298_4, o298_5, o298_6, o298_9, o298_10, o298_13, o298_16, o298_18, o298_19, o298_20, o298_22, o298_23, o298_24, o298_25, o67_0, o67_1, o67_2, o67_5, o67_7, o67_8, o67_11, o67_12, o67_15, o67_16, o67_18, o67_21, o67_24, o67_25, o67_28, o67_29, o67_32, o67_33, o67_34, o67_37, o67_39, o67_40, o67_41, o67_42, o190_0, o190_1, o190_2, o190_5, o190_8, o190_9, o190_12, o190_15, o190_16, o190_19, o190_20, o190_21, o190_24, o190_25, o190_27, o190_30, o190_31, o190_34, o190_35, o190_38, o190_41, o190_42, o190_43, o190_44, o190_45, o190_46, o190_49, o190_52, o190_53, o190_54, o190_57, o190_58, o190_59, o190_62, o190_63, o190_64, o190_65, hx_298_1, hx_298_2, c_X5_checkSlot, c_X8_isSlot, c_X8_isThrown_, c_X8_isQueue, c_X5_checkAhead, c_queueOf_2, c_X1_lying (w := A 12) (r := A 13), c_ref_5 (cs := A 18), c_X8_liesOf (x2 := A 25) (x3 := A 26) (a := A 27) (w := A 33) (r := A 36), c_X8_no (cs := A 30), mc_pi, mc_pl, mc_pT, mn_pi, mn_pl, mn_pT, mi_pi, mi_pl, mi_pT, ml_pi, ml_pl, ml_pT, mr_pi, mr_pl, mr_pT, mz_pi, mz_pl, mz_pT, mcs_0, mcs_i, mcs_r, Kn_v, Kn_0, Kn_x, mrf_some, true_and, and_true, and_false, or_false, not_true_eq_false, not_false_eq_true, false_implies, implies_true, forall_const, if_true, if_false, and_self, Nat.reduceEqDiff, Nat.reduceLeDiff, Nat.reduceSub, Nat.reduceAdd, Nat.zero_le, Nat.le_refl, i10, i01, lt_le, Int32.reduceLT, Int32.reduceSub, cl2, cl5, Kc_v, Sum.inl.injEq, Option.some.injEq, Value.int.injEq, exists_eq_left', Nat.reduceLT, hAe, i20, kc0, kc7, kc12, kc13, kc17, kc18, kc22, kc25, kc26, kc27, kc30, kc33, kc36, kc39, kn18, kn25, kn26, kn27, kn30, kr0_4, kr0_9, kr7_0, kr7_1, kr17_0, kr22_0, kr22_2, kr22_3, kr22_4, kr22_8, kr25_2, kr26_2, kz, vq3, hT, Int32.reduceLT, cl2, s1, s2, i64_inj, mT2_pi_j18 hA, mT2_pi_j22 hA, mT2_pl, mT2_pT, bl, bx0, bx9, v18, cl5]
            first | refine ⟨⟨?_, ?_, ?_, ?_, ?_, ?_, ?_, ?_, ?_, ?_, ?_, ?_⟩, rfl⟩ | refine ⟨?_, ?_, ?_, ?_, ?_, ?_, ?_, ?_, ?_, ?_, ?_, ?_⟩
            · (try simp only [K_pi, K_pl])
              exact vk
            · (try simp only [Cn_pi_j18 hA, Cn_pi_j22 hA, Cn_pi_j30 hA, Cn_pl])
              exact vcn
            · (try simp only [Vq0_pi_j18 hA, Vq0_pi_j22 hA, Vq0_pi_j30 hA, Vq0_pl])
              exact v0
            · (try simp only [Vq1_pi_j18 hA, Vq1_pi_j22 hA, Vq1_pi_j30 hA, Vq1_pl])
              exact v1
            · (try simp only [Vq2_pi_j18 hA, Vq2_pi_j22 hA, Vq2_pi_j30 hA, Vq2_pl])
              exact v2
            · (try simp only [Vp_pi_j18 hA, Vp_pi_j30 hA, Vp_thr hA, Vp_pl])
              exact vp
            · (try simp only [Vl0_pi_j18 hA, Vl0_pi_j22 hA, Vl0_pi_j30 hA, Vl0_pl])
              exact vl0
            · (try simp only [Vl1_pi_j18 hA, Vl1_pi_j22 hA, Vl1_pi_j30 hA, Vl1_pl])
              exact vl1
            · (try simp only [Vlr_pi_j18 hA, Vlr_pi_j22 hA, Vlr_pi_j30 hA, Vlr_pl_j39 hA])
              exact vlr
            · (try simp only [Vsr_pi_j18 hA, Vsr_pi_j22 hA, Vsr_pi_j30 hA, Vsr_pl_j39 hA])
              exact vsr
            · refine Vc_of (c := 5) vc (by decide) (fun k => ?_) (fun k => ?_) <;> simp only [mi_pi, mi_pl, hAe, Nat.reduceLT, Nat.reduceEqDiff, false_and, true_and, if_false]
            · (try simp only [Tx_pi_j18 hA, Tx_pi_j22 hA, Tx_pi_j30 hA, Tx_pl])
              exact tx


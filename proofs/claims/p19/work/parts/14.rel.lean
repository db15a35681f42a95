/-! THE RELATION of the class's memory and the reference's, by the addresses A -/
def QSl (sz : Nat) (ring : Bool) : List QT :=
  ((List.range (if ring then sz else sz + 1)).flatMap fun wp => (List.range (wp + 1)).flatMap fun rp => ((-1 : Int32) :: (List.range (rp + 1)).map Int32.ofNat).map fun rm => ((Int32.ofNat wp, Int32.ofNat sz, -1, Int32.ofNat rp, Int32.ofNat wp, rm, 0) : QT)) ++
  (if ring then (List.range sz).flatMap fun rp => ((-1 : Int32) :: (List.range (rp + 1)).map Int32.ofNat).flatMap fun rm => (List.range ((if rm < 0 then rp else rm.toNatClampNeg) + 1)).map fun wp => ((Int32.ofNat wp, (if rm < 0 then Int32.ofNat rp else rm), -1, Int32.ofNat rp, Int32.ofNat sz, rm, 1) : QT) else [])
def QS0 : List QT := QSl 5 true
def QS1 : List QT := QSl 3 true
def QS2 : List QT := QSl 6 false
/-- the pipe: place, limit, mark, draining -/
def PS : List (Int32 × Int32 × Int32 × Int32) :=
  ((List.range 11).flatMap fun p => ((-1 : Int32) :: (List.range (p + 1)).map Int32.ofNat).map fun m => (Int32.ofNat p, (10 : Int32), m, (0 : Int32))) ++
  ((List.range 11).flatMap fun li => (List.range (li + 1)).flatMap fun p => ((-1 : Int32) :: (List.range (p + 1)).map Int32.ofNat).map fun m => (Int32.ofNat p, Int32.ofNat li, m, (1 : Int32)))
def inj40 (A : Nat → Nat) : Prop := ∀ i j, i < 40 → j < 40 → (A i = A j ↔ i = j)
def Kc1 (A : Nat → Nat) (h : MH) : Prop := g_c h (A 0) = 7 ∧ g_c h (A 1) = 3 ∧ g_c h (A 2) = 3 ∧ g_c h (A 3) = 102 ∧ g_c h (A 4) = 102 ∧ g_c h (A 5) = 5 ∧ g_c h (A 6) = 5 ∧ g_c h (A 7) = 5 ∧ g_c h (A 8) = 4 ∧ g_c h (A 9) = 4 ∧ g_c h (A 10) = 4 ∧ g_c h (A 11) = 4 ∧ g_c h (A 12) = 4 ∧ g_c h (A 13) = 4 ∧ g_c h (A 14) = 4 ∧ g_c h (A 15) = 4 ∧ g_c h (A 16) = 4 ∧ g_c h (A 17) = 2 ∧ g_c h (A 18) = 101 ∧ g_c h (A 19) = 6 ∧ g_c h (A 20) = 10 ∧ g_c h (A 21) = 104 ∧ g_c h (A 22) = 9 ∧ g_c h (A 23) = 102 ∧ g_c h (A 24) = 101 ∧ g_c h (A 25) = 106 ∧ g_c h (A 26) = 106 ∧ g_c h (A 27) = 105 ∧ g_c h (A 28) = 8 ∧ g_c h (A 29) = 106 ∧ g_c h (A 30) = 101 ∧ g_c h (A 31) = 8 ∧ g_c h (A 32) = 8 ∧ g_c h (A 33) = 8 ∧ g_c h (A 34) = 8 ∧ g_c h (A 35) = 8 ∧ g_c h (A 36) = 8 ∧ g_c h (A 37) = 8 ∧ g_c h (A 38) = 8 ∧ g_c h (A 39) = 1
def Kz1 (A : Nat → Nat) (h : MH) : Prop := (∀ i, i < 40 → g_z h ≤ A i) ∧ ∀ i, i < 40 → A i < g_t h
def Kn1 (A : Nat → Nat) (h : MH) : Prop := g_n h (A 3) = 16 ∧ g_n h (A 4) = 36 ∧ g_n h (A 18) = 8 ∧ g_n h (A 21) = 19 ∧ g_n h (A 23) = 16 ∧ g_n h (A 24) = 36 ∧ g_n h (A 25) = 3 ∧ g_n h (A 26) = 3 ∧ g_n h (A 27) = 3 ∧ g_n h (A 29) = 2 ∧ g_n h (A 30) = 8
def Kr1 (A : Nat → Nat) (h : MH) : Prop := g_r h (A 0) 0 = some (A 1) ∧ g_r h (A 0) 1 = some (A 2) ∧ g_r h (A 0) 2 = some (A 5) ∧ g_r h (A 0) 3 = some (A 6) ∧ g_r h (A 0) 4 = some (A 7) ∧ g_r h (A 0) 5 = some (A 14) ∧ g_r h (A 0) 7 = some (A 15) ∧ g_r h (A 0) 8 = some (A 16) ∧ g_r h (A 0) 9 = some (A 17) ∧ g_r h (A 0) 10 = some (A 19) ∧ g_r h (A 1) 0 = some (A 3) ∧ g_r h (A 2) 0 = some (A 4) ∧ g_r h (A 5) 0 = some (A 8) ∧ g_r h (A 5) 1 = some (A 9) ∧ g_r h (A 6) 0 = some (A 10) ∧ g_r h (A 6) 1 = some (A 11) ∧ g_r h (A 7) 0 = some (A 12) ∧ g_r h (A 7) 1 = some (A 13) ∧ g_r h (A 8) 0 = some (A 1) ∧ g_r h (A 9) 0 = some (A 1) ∧ g_r h (A 10) 0 = some (A 1) ∧ g_r h (A 11) 0 = some (A 1) ∧ g_r h (A 12) 0 = some (A 1) ∧ g_r h (A 13) 0 = some (A 1) ∧ g_r h (A 14) 0 = some (A 2) ∧ g_r h (A 15) 0 = some (A 1) ∧ g_r h (A 16) 0 = some (A 2) ∧ g_r h (A 17) 0 = some (A 18) ∧ g_r h (A 19) 0 = some (A 20) ∧ g_r h (A 19) 1 = some (A 21) ∧ g_r h (A 22) 0 = some (A 23) ∧ g_r h (A 22) 1 = some (A 24) ∧ g_r h (A 22) 2 = some (A 25) ∧ g_r h (A 22) 3 = some (A 26) ∧ g_r h (A 22) 4 = some (A 27) ∧ g_r h (A 22) 5 = some (A 28) ∧ g_r h (A 22) 7 = some (A 29) ∧ g_r h (A 22) 8 = some (A 30) ∧ g_r h (A 25) 0 = some (A 31) ∧ g_r h (A 25) 1 = some (A 32) ∧ g_r h (A 25) 2 = some (A 33) ∧ g_r h (A 26) 0 = some (A 34) ∧ g_r h (A 26) 1 = some (A 35) ∧ g_r h (A 26) 2 = some (A 36) ∧ g_r h (A 29) 0 = some (A 37) ∧ g_r h (A 29) 1 = some (A 38)
def Cn (A : Nat → Nat) (h : MH) : Prop := g_i h (A 5) 2 = 1 ∧ g_i h (A 6) 2 = 1 ∧ g_i h (A 7) 2 = 0 ∧ g_i h (A 8) 1 = 1 ∧ g_i h (A 8) 2 = 5 ∧ g_i h (A 8) 3 = 0 ∧ g_i h (A 9) 1 = 1 ∧ g_i h (A 9) 2 = 5 ∧ g_i h (A 9) 3 = 1 ∧ g_i h (A 10) 1 = 6 ∧ g_i h (A 10) 2 = 3 ∧ g_i h (A 10) 3 = 0 ∧ g_i h (A 11) 1 = 6 ∧ g_i h (A 11) 2 = 3 ∧ g_i h (A 11) 3 = 1 ∧ g_i h (A 12) 1 = 9 ∧ g_i h (A 12) 2 = 6 ∧ g_i h (A 12) 3 = 0 ∧ g_i h (A 13) 1 = 9 ∧ g_i h (A 13) 2 = 6 ∧ g_i h (A 13) 3 = 1 ∧ g_i h (A 14) 1 = 1 ∧ g_i h (A 14) 2 = 10 ∧ g_i h (A 14) 3 = 0 ∧ g_i h (A 28) 0 = 1 ∧ g_i h (A 28) 1 = 10 ∧ g_i h (A 31) 0 = 1 ∧ g_i h (A 31) 1 = 5 ∧ g_i h (A 32) 0 = 6 ∧ g_i h (A 32) 1 = 3 ∧ g_i h (A 33) 0 = 9 ∧ g_i h (A 33) 1 = 6 ∧ g_i h (A 34) 0 = 1 ∧ g_i h (A 34) 1 = 5 ∧ g_i h (A 35) 0 = 6 ∧ g_i h (A 35) 1 = 3 ∧ g_i h (A 36) 0 = 9 ∧ g_i h (A 36) 1 = 6
def K (A : Nat → Nat) (h : MH) : Prop := inj40 A ∧ Kc1 A h ∧ Kz1 A h ∧ Kn1 A h ∧ Kr1 A h
def Vq0 (A : Nat → Nat) (h : MH) : Prop := cT h (A 5) (A 8) (A 9) = mT h (A 27) 0 (A 31) (A 34) ∧ cT h (A 5) (A 8) (A 9) ∈ QS0
def Vq1 (A : Nat → Nat) (h : MH) : Prop := cT h (A 6) (A 10) (A 11) = mT h (A 27) 1 (A 32) (A 35) ∧ cT h (A 6) (A 10) (A 11) ∈ QS1
def Vq2 (A : Nat → Nat) (h : MH) : Prop := cT h (A 7) (A 12) (A 13) = mT h (A 27) 2 (A 33) (A 36) ∧ cT h (A 7) (A 12) (A 13) ∈ QS2
def Vp (A : Nat → Nat) (h : MH) : Prop := (g_i h (A 14) 4 = g_i h (A 28) 3 ∧ g_i h (A 14) 5 = g_i h (A 28) 4 ∧ g_i h (A 14) 6 = g_i h (A 28) 5 ∧ g_i h (A 0) 6 = g_i h (A 22) 6) ∧ (g_i h (A 28) 3, g_i h (A 28) 4, g_i h (A 28) 5, g_i h (A 22) 6) ∈ PS
/-- a lens: it lies in its part of the row, its places in order -/
def lnOk (lo hi : Int) (x : Nat) (f n s p l m : Int32) : Prop := lo ≤ f.toInt ∧ 0 ≤ n.toInt ∧ f.toInt + n.toInt ≤ hi ∧ (s = 0 ∨ s = 1) ∧ (x = 0 → s = 1) ∧ 0 ≤ p.toInt ∧ p.toInt ≤ l.toInt ∧ l.toInt ≤ n.toInt ∧ -1 ≤ m.toInt ∧ m.toInt ≤ p.toInt
def Vl0 (A : Nat → Nat) (h : MH) : Prop := (g_i h (A 15) 1 = g_i h (A 37) 0 ∧ g_i h (A 15) 2 = g_i h (A 37) 1 ∧ g_i h (A 15) 3 = g_i h (A 37) 2 ∧ g_i h (A 15) 4 = g_i h (A 37) 3 ∧ g_i h (A 15) 5 = g_i h (A 37) 4 ∧ g_i h (A 15) 6 = g_i h (A 37) 5) ∧ lnOk 0 16 0 (g_i h (A 37) 0) (g_i h (A 37) 1) (g_i h (A 37) 2) (g_i h (A 37) 3) (g_i h (A 37) 4) (g_i h (A 37) 5)
def Vl1 (A : Nat → Nat) (h : MH) : Prop := (g_i h (A 16) 1 = g_i h (A 38) 0 ∧ g_i h (A 16) 2 = g_i h (A 38) 1 ∧ g_i h (A 16) 3 = g_i h (A 38) 2 ∧ g_i h (A 16) 4 = g_i h (A 38) 3 ∧ g_i h (A 16) 5 = g_i h (A 38) 4 ∧ g_i h (A 16) 6 = g_i h (A 38) 5) ∧ lnOk 11 35 1 (g_i h (A 38) 0) (g_i h (A 38) 1) (g_i h (A 38) 2) (g_i h (A 38) 3) (g_i h (A 38) 4) (g_i h (A 38) 5)
def Vlr (A : Nat → Nat) (h : MH) : Prop := ∀ k, k < 16 → g_l h (A 3) k = g_l h (A 23) k
def Vsr (A : Nat → Nat) (h : MH) : Prop := ∀ k, k < 36 → g_l h (A 4) k = (g_i h (A 24) k).toInt64 ∧ (g_i h (A 24) k).toInt16.toInt32 = g_i h (A 24) k
def Vc (A : Nat → Nat) (h : MH) : Prop := ∀ k, k < 8 → g_i h (A 18) k = g_i h (A 30) k
/-- how long a row of bytes a builder may have -/
def capOk (n : Nat) : Prop := n = 16 ∨ (34 ≤ n ∧ n ≤ 36) ∨ (70 ≤ n ∧ n ≤ 74) ∨ (142 ≤ n ∧ n ≤ 150)
/-- the builder of the class's texts: Latin-1, its row of bytes apart -/
def Tx (A : Nat → Nat) (h : MH) : Prop := ∃ v, g_r h (A 20) 0 = some v ∧ g_c h v = 103 ∧ g_z h ≤ v ∧ v < g_t h ∧ capOk (g_n h v) ∧ 1 ≤ g_n h v ∧ g_i h (A 20) 1 = 0 ∧ ¬ g_i h (A 20) 3 < 0 ∧ (g_i h (A 20) 3).toNatClampNeg ≤ g_n h v
def Rl (A : Nat → Nat) (h : MH) : Prop := K A h ∧ Cn A h ∧ Vq0 A h ∧ Vq1 A h ∧ Vq2 A h ∧ Vp A h ∧ Vl0 A h ∧ Vl1 A h ∧ Vlr A h ∧ Vsr A h ∧ Vc A h ∧ Tx A h
section
variable {A : Nat → Nat} {h : MH}
theorem K_pi {a k : Nat} {v : Int32} : K A (p_i h a k v) = K A h := id rfl
theorem K_pl {a k : Nat} {v : Int64} : K A (p_l h a k v) = K A h := id rfl
theorem K_pT {t : Nat} (ht : g_t h ≤ t) (k : K A h) : K A (p_T h t) := ⟨k.1, k.2.1, ⟨k.2.2.1.1, fun i hi => Nat.lt_of_lt_of_le (k.2.2.1.2 i hi) ht⟩, k.2.2.2⟩
theorem K_cW {q w r : Nat} {t : QT} : K A (cW h q w r t) = K A h := id rfl
theorem K_mW {a k w r : Nat} {t : QT} : K A (mW h a k w r t) = K A h := id rfl
theorem Vq0_pi (hA : inj40 A) {j k : Nat} {v : Int32} (hj : [0, 1, 2, 3, 4, 6, 7, 10, 11, 12, 13, 14, 15, 16, 17, 18, 19, 20, 21, 22, 23, 24, 25, 26, 28, 29, 30, 32, 33, 35, 36, 37, 38, 39].contains j = true) : Vq0 A (p_i h (A j) k v) = Vq0 A h := by
  have hj40 : j < 40 := by
    simp only [List.contains_eq_mem, decide_eq_true_eq] at hj
    have : ∀ x ∈ [0, 1, 2, 3, 4, 6, 7, 10, 11, 12, 13, 14, 15, 16, 17, 18, 19, 20, 21, 22, 23, 24, 25, 26, 28, 29, 30, 32, 33, 35, 36, 37, 38, 39], x < 40 := by decide
    exact this j hj
  have d5 : ¬ A 5 = A j := fun z => by have := (hA 5 j (by decide) (hj40)).mp z; subst this; simp at hj
  have d8 : ¬ A 8 = A j := fun z => by have := (hA 8 j (by decide) (hj40)).mp z; subst this; simp at hj
  have d9 : ¬ A 9 = A j := fun z => by have := (hA 9 j (by decide) (hj40)).mp z; subst this; simp at hj
  have d27 : ¬ A 27 = A j := fun z => by have := (hA 27 j (by decide) (hj40)).mp z; subst this; simp at hj
  have d31 : ¬ A 31 = A j := fun z => by have := (hA 31 j (by decide) (hj40)).mp z; subst this; simp at hj
  have d34 : ¬ A 34 = A j := fun z => by have := (hA 34 j (by decide) (hj40)).mp z; subst this; simp at hj
  simp only [Vq0, cT, mT, mi_pi, d5, d8, d9, d27, d31, d34, false_and, if_false]
theorem Vq0_pl {a k : Nat} {v : Int64} : Vq0 A (p_l h a k v) = Vq0 A h := id rfl
theorem Vq0_pT {t : Nat} : Vq0 A (p_T h t) = Vq0 A h := id rfl
theorem Vq0_pr {a k : Nat} {v : Option Nat} : Vq0 A (p_r h a k v) = Vq0 A h := id rfl
theorem Vq1_pi (hA : inj40 A) {j k : Nat} {v : Int32} (hj : [0, 1, 2, 3, 4, 5, 7, 8, 9, 12, 13, 14, 15, 16, 17, 18, 19, 20, 21, 22, 23, 24, 25, 26, 28, 29, 30, 31, 33, 34, 36, 37, 38, 39].contains j = true) : Vq1 A (p_i h (A j) k v) = Vq1 A h := by
  have hj40 : j < 40 := by
    simp only [List.contains_eq_mem, decide_eq_true_eq] at hj
    have : ∀ x ∈ [0, 1, 2, 3, 4, 5, 7, 8, 9, 12, 13, 14, 15, 16, 17, 18, 19, 20, 21, 22, 23, 24, 25, 26, 28, 29, 30, 31, 33, 34, 36, 37, 38, 39], x < 40 := by decide
    exact this j hj
  have d6 : ¬ A 6 = A j := fun z => by have := (hA 6 j (by decide) (hj40)).mp z; subst this; simp at hj
  have d10 : ¬ A 10 = A j := fun z => by have := (hA 10 j (by decide) (hj40)).mp z; subst this; simp at hj
  have d11 : ¬ A 11 = A j := fun z => by have := (hA 11 j (by decide) (hj40)).mp z; subst this; simp at hj
  have d27 : ¬ A 27 = A j := fun z => by have := (hA 27 j (by decide) (hj40)).mp z; subst this; simp at hj
  have d32 : ¬ A 32 = A j := fun z => by have := (hA 32 j (by decide) (hj40)).mp z; subst this; simp at hj
  have d35 : ¬ A 35 = A j := fun z => by have := (hA 35 j (by decide) (hj40)).mp z; subst this; simp at hj
  simp only [Vq1, cT, mT, mi_pi, d6, d10, d11, d27, d32, d35, false_and, if_false]
theorem Vq1_pl {a k : Nat} {v : Int64} : Vq1 A (p_l h a k v) = Vq1 A h := id rfl
theorem Vq1_pT {t : Nat} : Vq1 A (p_T h t) = Vq1 A h := id rfl
theorem Vq1_pr {a k : Nat} {v : Option Nat} : Vq1 A (p_r h a k v) = Vq1 A h := id rfl
theorem Vq2_pi (hA : inj40 A) {j k : Nat} {v : Int32} (hj : [0, 1, 2, 3, 4, 5, 6, 8, 9, 10, 11, 14, 15, 16, 17, 18, 19, 20, 21, 22, 23, 24, 25, 26, 28, 29, 30, 31, 32, 34, 35, 37, 38, 39].contains j = true) : Vq2 A (p_i h (A j) k v) = Vq2 A h := by
  have hj40 : j < 40 := by
    simp only [List.contains_eq_mem, decide_eq_true_eq] at hj
    have : ∀ x ∈ [0, 1, 2, 3, 4, 5, 6, 8, 9, 10, 11, 14, 15, 16, 17, 18, 19, 20, 21, 22, 23, 24, 25, 26, 28, 29, 30, 31, 32, 34, 35, 37, 38, 39], x < 40 := by decide
    exact this j hj
  have d7 : ¬ A 7 = A j := fun z => by have := (hA 7 j (by decide) (hj40)).mp z; subst this; simp at hj
  have d12 : ¬ A 12 = A j := fun z => by have := (hA 12 j (by decide) (hj40)).mp z; subst this; simp at hj
  have d13 : ¬ A 13 = A j := fun z => by have := (hA 13 j (by decide) (hj40)).mp z; subst this; simp at hj
  have d27 : ¬ A 27 = A j := fun z => by have := (hA 27 j (by decide) (hj40)).mp z; subst this; simp at hj
  have d33 : ¬ A 33 = A j := fun z => by have := (hA 33 j (by decide) (hj40)).mp z; subst this; simp at hj
  have d36 : ¬ A 36 = A j := fun z => by have := (hA 36 j (by decide) (hj40)).mp z; subst this; simp at hj
  simp only [Vq2, cT, mT, mi_pi, d7, d12, d13, d27, d33, d36, false_and, if_false]
theorem Vq2_pl {a k : Nat} {v : Int64} : Vq2 A (p_l h a k v) = Vq2 A h := id rfl
theorem Vq2_pT {t : Nat} : Vq2 A (p_T h t) = Vq2 A h := id rfl
theorem Vq2_pr {a k : Nat} {v : Option Nat} : Vq2 A (p_r h a k v) = Vq2 A h := id rfl
theorem Vp_pi (hA : inj40 A) {j k : Nat} {v : Int32} (hj : [1, 2, 3, 4, 5, 6, 7, 8, 9, 10, 11, 12, 13, 15, 16, 17, 18, 19, 20, 21, 23, 24, 25, 26, 27, 29, 30, 31, 32, 33, 34, 35, 36, 37, 38, 39].contains j = true) : Vp A (p_i h (A j) k v) = Vp A h := by
  have hj40 : j < 40 := by
    simp only [List.contains_eq_mem, decide_eq_true_eq] at hj
    have : ∀ x ∈ [1, 2, 3, 4, 5, 6, 7, 8, 9, 10, 11, 12, 13, 15, 16, 17, 18, 19, 20, 21, 23, 24, 25, 26, 27, 29, 30, 31, 32, 33, 34, 35, 36, 37, 38, 39], x < 40 := by decide
    exact this j hj
  have d14 : ¬ A 14 = A j := fun z => by have := (hA 14 j (by decide) (hj40)).mp z; subst this; simp at hj
  have d28 : ¬ A 28 = A j := fun z => by have := (hA 28 j (by decide) (hj40)).mp z; subst this; simp at hj
  have d0 : ¬ A 0 = A j := fun z => by have := (hA 0 j (by decide) (hj40)).mp z; subst this; simp at hj
  have d22 : ¬ A 22 = A j := fun z => by have := (hA 22 j (by decide) (hj40)).mp z; subst this; simp at hj
  simp only [Vp, mi_pi, d14, d28, d0, d22, false_and, if_false]
theorem Vp_pl {a k : Nat} {v : Int64} : Vp A (p_l h a k v) = Vp A h := id rfl
theorem Vp_pT {t : Nat} : Vp A (p_T h t) = Vp A h := id rfl
theorem Vp_pr {a k : Nat} {v : Option Nat} : Vp A (p_r h a k v) = Vp A h := id rfl
theorem Vl0_pi (hA : inj40 A) {j k : Nat} {v : Int32} (hj : [0, 1, 2, 3, 4, 5, 6, 7, 8, 9, 10, 11, 12, 13, 14, 16, 17, 18, 19, 20, 21, 22, 23, 24, 25, 26, 27, 28, 29, 30, 31, 32, 33, 34, 35, 36, 38, 39].contains j = true) : Vl0 A (p_i h (A j) k v) = Vl0 A h := by
  have hj40 : j < 40 := by
    simp only [List.contains_eq_mem, decide_eq_true_eq] at hj
    have : ∀ x ∈ [0, 1, 2, 3, 4, 5, 6, 7, 8, 9, 10, 11, 12, 13, 14, 16, 17, 18, 19, 20, 21, 22, 23, 24, 25, 26, 27, 28, 29, 30, 31, 32, 33, 34, 35, 36, 38, 39], x < 40 := by decide
    exact this j hj
  have d15 : ¬ A 15 = A j := fun z => by have := (hA 15 j (by decide) (hj40)).mp z; subst this; simp at hj
  have d37 : ¬ A 37 = A j := fun z => by have := (hA 37 j (by decide) (hj40)).mp z; subst this; simp at hj
  simp only [Vl0, mi_pi, d15, d37, false_and, if_false]
theorem Vl0_pl {a k : Nat} {v : Int64} : Vl0 A (p_l h a k v) = Vl0 A h := id rfl
theorem Vl0_pT {t : Nat} : Vl0 A (p_T h t) = Vl0 A h := id rfl
theorem Vl0_pr {a k : Nat} {v : Option Nat} : Vl0 A (p_r h a k v) = Vl0 A h := id rfl
theorem Vl1_pi (hA : inj40 A) {j k : Nat} {v : Int32} (hj : [0, 1, 2, 3, 4, 5, 6, 7, 8, 9, 10, 11, 12, 13, 14, 15, 17, 18, 19, 20, 21, 22, 23, 24, 25, 26, 27, 28, 29, 30, 31, 32, 33, 34, 35, 36, 37, 39].contains j = true) : Vl1 A (p_i h (A j) k v) = Vl1 A h := by
  have hj40 : j < 40 := by
    simp only [List.contains_eq_mem, decide_eq_true_eq] at hj
    have : ∀ x ∈ [0, 1, 2, 3, 4, 5, 6, 7, 8, 9, 10, 11, 12, 13, 14, 15, 17, 18, 19, 20, 21, 22, 23, 24, 25, 26, 27, 28, 29, 30, 31, 32, 33, 34, 35, 36, 37, 39], x < 40 := by decide
    exact this j hj
  have d16 : ¬ A 16 = A j := fun z => by have := (hA 16 j (by decide) (hj40)).mp z; subst this; simp at hj
  have d38 : ¬ A 38 = A j := fun z => by have := (hA 38 j (by decide) (hj40)).mp z; subst this; simp at hj
  simp only [Vl1, mi_pi, d16, d38, false_and, if_false]
theorem Vl1_pl {a k : Nat} {v : Int64} : Vl1 A (p_l h a k v) = Vl1 A h := id rfl
theorem Vl1_pT {t : Nat} : Vl1 A (p_T h t) = Vl1 A h := id rfl
theorem Vl1_pr {a k : Nat} {v : Option Nat} : Vl1 A (p_r h a k v) = Vl1 A h := id rfl
theorem Vlr_pi (hA : inj40 A) {j k : Nat} {v : Int32} (hj : [0, 1, 2, 3, 4, 5, 6, 7, 8, 9, 10, 11, 12, 13, 14, 15, 16, 17, 18, 19, 20, 21, 22, 23, 24, 25, 26, 27, 28, 29, 30, 31, 32, 33, 34, 35, 36, 37, 38, 39].contains j = true) : Vlr A (p_i h (A j) k v) = Vlr A h := by
  have hj40 : j < 40 := by
    simp only [List.contains_eq_mem, decide_eq_true_eq] at hj
    have : ∀ x ∈ [0, 1, 2, 3, 4, 5, 6, 7, 8, 9, 10, 11, 12, 13, 14, 15, 16, 17, 18, 19, 20, 21, 22, 23, 24, 25, 26, 27, 28, 29, 30, 31, 32, 33, 34, 35, 36, 37, 38, 39], x < 40 := by decide
    exact this j hj

  simp only [Vlr, ml_pi]
theorem Vlr_pl (hA : inj40 A) {j k : Nat} {v : Int64} (hj : [0, 1, 2, 4, 5, 6, 7, 8, 9, 10, 11, 12, 13, 14, 15, 16, 17, 18, 19, 20, 21, 22, 24, 25, 26, 27, 28, 29, 30, 31, 32, 33, 34, 35, 36, 37, 38, 39].contains j = true) : Vlr A (p_l h (A j) k v) = Vlr A h := by
  have hj40 : j < 40 := by
    simp only [List.contains_eq_mem, decide_eq_true_eq] at hj
    have : ∀ x ∈ [0, 1, 2, 4, 5, 6, 7, 8, 9, 10, 11, 12, 13, 14, 15, 16, 17, 18, 19, 20, 21, 22, 24, 25, 26, 27, 28, 29, 30, 31, 32, 33, 34, 35, 36, 37, 38, 39], x < 40 := by decide
    exact this j hj
  have d3 : ¬ A 3 = A j := fun z => by have := (hA 3 j (by decide) hj40).mp z; subst this; simp at hj
  have d23 : ¬ A 23 = A j := fun z => by have := (hA 23 j (by decide) hj40).mp z; subst this; simp at hj
  simp only [Vlr, ml_pl, d3, d23, false_and, if_false]
theorem Vlr_pT {t : Nat} : Vlr A (p_T h t) = Vlr A h := id rfl
theorem Vlr_pr {a k : Nat} {v : Option Nat} : Vlr A (p_r h a k v) = Vlr A h := id rfl
theorem Vsr_pi (hA : inj40 A) {j k : Nat} {v : Int32} (hj : [0, 1, 2, 3, 4, 5, 6, 7, 8, 9, 10, 11, 12, 13, 14, 15, 16, 17, 18, 19, 20, 21, 22, 23, 25, 26, 27, 28, 29, 30, 31, 32, 33, 34, 35, 36, 37, 38, 39].contains j = true) : Vsr A (p_i h (A j) k v) = Vsr A h := by
  have hj40 : j < 40 := by
    simp only [List.contains_eq_mem, decide_eq_true_eq] at hj
    have : ∀ x ∈ [0, 1, 2, 3, 4, 5, 6, 7, 8, 9, 10, 11, 12, 13, 14, 15, 16, 17, 18, 19, 20, 21, 22, 23, 25, 26, 27, 28, 29, 30, 31, 32, 33, 34, 35, 36, 37, 38, 39], x < 40 := by decide
    exact this j hj
  have d24 : ¬ A 24 = A j := fun z => by have := (hA 24 j (by decide) (hj40)).mp z; subst this; simp at hj
  simp only [Vsr, mi_pi, ml_pi, d24, false_and, if_false]
theorem Vsr_pl (hA : inj40 A) {j k : Nat} {v : Int64} (hj : [0, 1, 2, 3, 5, 6, 7, 8, 9, 10, 11, 12, 13, 14, 15, 16, 17, 18, 19, 20, 21, 22, 23, 24, 25, 26, 27, 28, 29, 30, 31, 32, 33, 34, 35, 36, 37, 38, 39].contains j = true) : Vsr A (p_l h (A j) k v) = Vsr A h := by
  have hj40 : j < 40 := by
    simp only [List.contains_eq_mem, decide_eq_true_eq] at hj
    have : ∀ x ∈ [0, 1, 2, 3, 5, 6, 7, 8, 9, 10, 11, 12, 13, 14, 15, 16, 17, 18, 19, 20, 21, 22, 23, 24, 25, 26, 27, 28, 29, 30, 31, 32, 33, 34, 35, 36, 37, 38, 39], x < 40 := by decide
    exact this j hj
  have d4 : ¬ A 4 = A j := fun z => by have := (hA 4 j (by decide) hj40).mp z; subst this; simp at hj
  simp only [Vsr, mi_pl, ml_pl, d4, false_and, if_false]
theorem Vsr_pT {t : Nat} : Vsr A (p_T h t) = Vsr A h := id rfl
theorem Vsr_pr {a k : Nat} {v : Option Nat} : Vsr A (p_r h a k v) = Vsr A h := id rfl
theorem Vc_pi (hA : inj40 A) {j k : Nat} {v : Int32} (hj : [0, 1, 2, 3, 4, 5, 6, 7, 8, 9, 10, 11, 12, 13, 14, 15, 16, 17, 19, 20, 21, 22, 23, 24, 25, 26, 27, 28, 29, 31, 32, 33, 34, 35, 36, 37, 38, 39].contains j = true) : Vc A (p_i h (A j) k v) = Vc A h := by
  have hj40 : j < 40 := by
    simp only [List.contains_eq_mem, decide_eq_true_eq] at hj
    have : ∀ x ∈ [0, 1, 2, 3, 4, 5, 6, 7, 8, 9, 10, 11, 12, 13, 14, 15, 16, 17, 19, 20, 21, 22, 23, 24, 25, 26, 27, 28, 29, 31, 32, 33, 34, 35, 36, 37, 38, 39], x < 40 := by decide
    exact this j hj
  have d18 : ¬ A 18 = A j := fun z => by have := (hA 18 j (by decide) (hj40)).mp z; subst this; simp at hj
  have d30 : ¬ A 30 = A j := fun z => by have := (hA 30 j (by decide) (hj40)).mp z; subst this; simp at hj
  simp only [Vc, mi_pi, d18, d30, false_and, if_false]
theorem Vc_pl {a k : Nat} {v : Int64} : Vc A (p_l h a k v) = Vc A h := id rfl
theorem Vc_pT {t : Nat} : Vc A (p_T h t) = Vc A h := id rfl
theorem Cn_pi (hA : inj40 A) {j k : Nat} {v : Int32} (hj : [0, 1, 2, 3, 4, 15, 16, 17, 18, 19, 20, 21, 22, 23, 24, 25, 26, 27, 29, 30, 37, 38, 39].contains j = true) : Cn A (p_i h (A j) k v) = Cn A h := by
  have hj40 : j < 40 := by
    simp only [List.contains_eq_mem, decide_eq_true_eq] at hj
    have : ∀ x ∈ [0, 1, 2, 3, 4, 15, 16, 17, 18, 19, 20, 21, 22, 23, 24, 25, 26, 27, 29, 30, 37, 38, 39], x < 40 := by decide
    exact this j hj
  have d5 : ¬ A 5 = A j := fun z => by have := (hA 5 j (by decide) (hj40)).mp z; subst this; simp at hj
  have d6 : ¬ A 6 = A j := fun z => by have := (hA 6 j (by decide) (hj40)).mp z; subst this; simp at hj
  have d7 : ¬ A 7 = A j := fun z => by have := (hA 7 j (by decide) (hj40)).mp z; subst this; simp at hj
  have d8 : ¬ A 8 = A j := fun z => by have := (hA 8 j (by decide) (hj40)).mp z; subst this; simp at hj
  have d9 : ¬ A 9 = A j := fun z => by have := (hA 9 j (by decide) (hj40)).mp z; subst this; simp at hj
  have d10 : ¬ A 10 = A j := fun z => by have := (hA 10 j (by decide) (hj40)).mp z; subst this; simp at hj
  have d11 : ¬ A 11 = A j := fun z => by have := (hA 11 j (by decide) (hj40)).mp z; subst this; simp at hj
  have d12 : ¬ A 12 = A j := fun z => by have := (hA 12 j (by decide) (hj40)).mp z; subst this; simp at hj
  have d13 : ¬ A 13 = A j := fun z => by have := (hA 13 j (by decide) (hj40)).mp z; subst this; simp at hj
  have d14 : ¬ A 14 = A j := fun z => by have := (hA 14 j (by decide) (hj40)).mp z; subst this; simp at hj
  have d28 : ¬ A 28 = A j := fun z => by have := (hA 28 j (by decide) (hj40)).mp z; subst this; simp at hj
  have d31 : ¬ A 31 = A j := fun z => by have := (hA 31 j (by decide) (hj40)).mp z; subst this; simp at hj
  have d32 : ¬ A 32 = A j := fun z => by have := (hA 32 j (by decide) (hj40)).mp z; subst this; simp at hj
  have d33 : ¬ A 33 = A j := fun z => by have := (hA 33 j (by decide) (hj40)).mp z; subst this; simp at hj
  have d34 : ¬ A 34 = A j := fun z => by have := (hA 34 j (by decide) (hj40)).mp z; subst this; simp at hj
  have d35 : ¬ A 35 = A j := fun z => by have := (hA 35 j (by decide) (hj40)).mp z; subst this; simp at hj
  have d36 : ¬ A 36 = A j := fun z => by have := (hA 36 j (by decide) (hj40)).mp z; subst this; simp at hj
  simp only [Cn, mi_pi, d5, d6, d7, d8, d9, d10, d11, d12, d13, d14, d28, d31, d32, d33, d34, d35, d36, false_and, if_false]
theorem Cn_pl {a k : Nat} {v : Int64} : Cn A (p_l h a k v) = Cn A h := id rfl
theorem Cn_pT {t : Nat} : Cn A (p_T h t) = Cn A h := id rfl
theorem Tx_pi (hA : inj40 A) {j k : Nat} {v : Int32} (hj : [0, 1, 2, 3, 4, 5, 6, 7, 8, 9, 10, 11, 12, 13, 14, 15, 16, 17, 18, 19, 21, 22, 23, 24, 25, 26, 27, 28, 29, 30, 31, 32, 33, 34, 35, 36, 37, 38, 39].contains j = true) : Tx A (p_i h (A j) k v) = Tx A h := by
  have hj40 : j < 40 := by
    simp only [List.contains_eq_mem, decide_eq_true_eq] at hj
    have : ∀ x ∈ [0, 1, 2, 3, 4, 5, 6, 7, 8, 9, 10, 11, 12, 13, 14, 15, 16, 17, 18, 19, 21, 22, 23, 24, 25, 26, 27, 28, 29, 30, 31, 32, 33, 34, 35, 36, 37, 38, 39], x < 40 := by decide
    exact this j hj
  have d20 : ¬ A 20 = A j := fun z => by have := (hA 20 j (by decide) (hj40)).mp z; subst this; simp at hj
  simp only [Tx, mi_pi, mr_pi, mc_pi, mz_pi, mt_pi, mn_pi, d20, false_and, if_false]
theorem Tx_pl {a k : Nat} {v : Int64} : Tx A (p_l h a k v) = Tx A h := id rfl
theorem Tx_pT {t : Nat} (ht : g_t h ≤ t) (k : Tx A h) : Tx A (p_T h t) := by
  obtain ⟨v, a1, a2, a3, a4, a5⟩ := k
  exact ⟨v, a1, a2, a3, Nat.lt_of_lt_of_le a4 ht, a5⟩
theorem Vp_thr (hA : inj40 A) {v : Int32} : Vp A (p_i h (A 22) 9 v) = Vp A h := by
  have d14 : ¬ A 14 = A 22 := fun z => absurd ((hA 14 22 (by decide) (by decide)).mp z) (by decide)
  have d28 : ¬ A 28 = A 22 := fun z => absurd ((hA 28 22 (by decide) (by decide)).mp z) (by decide)
  have d0 : ¬ A 0 = A 22 := fun z => absurd ((hA 0 22 (by decide) (by decide)).mp z) (by decide)
  simp only [Vp, mi_pi, d14, d28, d0, if_false, Nat.reduceEqDiff, and_false]
theorem Vq1_cW0 (hA : inj40 A) {t : QT} : Vq1 A (cW h (A 5) (A 8) (A 9) t) = Vq1 A h := by simp only [cW]; repeat rw [Vq1_pi hA (by decide)]
theorem Vq1_mW0 (hA : inj40 A) {t : QT} : Vq1 A (mW h (A 27) 0 (A 31) (A 34) t) = Vq1 A h := by
  simp only [mW, Vq1, cT, mT, mi_pi, (hA 6 27 (by decide) (by decide)), (hA 6 31 (by decide) (by decide)), (hA 6 34 (by decide) (by decide)), (hA 10 27 (by decide) (by decide)), (hA 10 31 (by decide) (by decide)), (hA 10 34 (by decide) (by decide)), (hA 11 27 (by decide) (by decide)), (hA 11 31 (by decide) (by decide)), (hA 11 34 (by decide) (by decide)), (hA 27 31 (by decide) (by decide)), (hA 27 34 (by decide) (by decide)), (hA 32 27 (by decide) (by decide)), (hA 32 31 (by decide) (by decide)), (hA 32 34 (by decide) (by decide)), (hA 35 27 (by decide) (by decide)), (hA 35 31 (by decide) (by decide)), (hA 35 34 (by decide) (by decide)), Nat.reduceEqDiff, and_false, false_and, if_false]
theorem Vq2_cW0 (hA : inj40 A) {t : QT} : Vq2 A (cW h (A 5) (A 8) (A 9) t) = Vq2 A h := by simp only [cW]; repeat rw [Vq2_pi hA (by decide)]
theorem Vq2_mW0 (hA : inj40 A) {t : QT} : Vq2 A (mW h (A 27) 0 (A 31) (A 34) t) = Vq2 A h := by
  simp only [mW, Vq2, cT, mT, mi_pi, (hA 7 27 (by decide) (by decide)), (hA 7 31 (by decide) (by decide)), (hA 7 34 (by decide) (by decide)), (hA 12 27 (by decide) (by decide)), (hA 12 31 (by decide) (by decide)), (hA 12 34 (by decide) (by decide)), (hA 13 27 (by decide) (by decide)), (hA 13 31 (by decide) (by decide)), (hA 13 34 (by decide) (by decide)), (hA 27 31 (by decide) (by decide)), (hA 27 34 (by decide) (by decide)), (hA 33 27 (by decide) (by decide)), (hA 33 31 (by decide) (by decide)), (hA 33 34 (by decide) (by decide)), (hA 36 27 (by decide) (by decide)), (hA 36 31 (by decide) (by decide)), (hA 36 34 (by decide) (by decide)), Nat.reduceEqDiff, and_false, false_and, if_false]
theorem Vp_cW0 (hA : inj40 A) {t : QT} : Vp A (cW h (A 5) (A 8) (A 9) t) = Vp A h := by simp only [cW]; repeat rw [Vp_pi hA (by decide)]
theorem Vp_mW0 (hA : inj40 A) {t : QT} : Vp A (mW h (A 27) 0 (A 31) (A 34) t) = Vp A h := by simp only [mW]; repeat rw [Vp_pi hA (by decide)]
theorem Vl0_cW0 (hA : inj40 A) {t : QT} : Vl0 A (cW h (A 5) (A 8) (A 9) t) = Vl0 A h := by simp only [cW]; repeat rw [Vl0_pi hA (by decide)]
theorem Vl0_mW0 (hA : inj40 A) {t : QT} : Vl0 A (mW h (A 27) 0 (A 31) (A 34) t) = Vl0 A h := by simp only [mW]; repeat rw [Vl0_pi hA (by decide)]
theorem Vl1_cW0 (hA : inj40 A) {t : QT} : Vl1 A (cW h (A 5) (A 8) (A 9) t) = Vl1 A h := by simp only [cW]; repeat rw [Vl1_pi hA (by decide)]
theorem Vl1_mW0 (hA : inj40 A) {t : QT} : Vl1 A (mW h (A 27) 0 (A 31) (A 34) t) = Vl1 A h := by simp only [mW]; repeat rw [Vl1_pi hA (by decide)]
theorem Vlr_cW0 (hA : inj40 A) {t : QT} : Vlr A (cW h (A 5) (A 8) (A 9) t) = Vlr A h := by simp only [cW]; repeat rw [Vlr_pi hA (by decide)]
theorem Vlr_mW0 (hA : inj40 A) {t : QT} : Vlr A (mW h (A 27) 0 (A 31) (A 34) t) = Vlr A h := by simp only [mW]; repeat rw [Vlr_pi hA (by decide)]
theorem Vsr_cW0 (hA : inj40 A) {t : QT} : Vsr A (cW h (A 5) (A 8) (A 9) t) = Vsr A h := by simp only [cW]; repeat rw [Vsr_pi hA (by decide)]
theorem Vsr_mW0 (hA : inj40 A) {t : QT} : Vsr A (mW h (A 27) 0 (A 31) (A 34) t) = Vsr A h := by simp only [mW]; repeat rw [Vsr_pi hA (by decide)]
theorem Cn_cW0 (hA : inj40 A) {t : QT} : Cn A (cW h (A 5) (A 8) (A 9) t) = Cn A h := by
  simp only [Cn, cW, mi_pi, Nat.reduceEqDiff, and_false, if_false, false_and, (hA 5 8 (by decide) (by decide)), (hA 5 9 (by decide) (by decide)), (hA 6 5 (by decide) (by decide)), (hA 6 8 (by decide) (by decide)), (hA 6 9 (by decide) (by decide)), (hA 7 5 (by decide) (by decide)), (hA 7 8 (by decide) (by decide)), (hA 7 9 (by decide) (by decide)), (hA 8 5 (by decide) (by decide)), (hA 8 9 (by decide) (by decide)), (hA 9 5 (by decide) (by decide)), (hA 9 8 (by decide) (by decide)), (hA 10 5 (by decide) (by decide)), (hA 10 8 (by decide) (by decide)), (hA 10 9 (by decide) (by decide)), (hA 11 5 (by decide) (by decide)), (hA 11 8 (by decide) (by decide)), (hA 11 9 (by decide) (by decide)), (hA 12 5 (by decide) (by decide)), (hA 12 8 (by decide) (by decide)), (hA 12 9 (by decide) (by decide)), (hA 13 5 (by decide) (by decide)), (hA 13 8 (by decide) (by decide)), (hA 13 9 (by decide) (by decide)), (hA 14 5 (by decide) (by decide)), (hA 14 8 (by decide) (by decide)), (hA 14 9 (by decide) (by decide)), (hA 28 5 (by decide) (by decide)), (hA 28 8 (by decide) (by decide)), (hA 28 9 (by decide) (by decide)), (hA 31 5 (by decide) (by decide)), (hA 31 8 (by decide) (by decide)), (hA 31 9 (by decide) (by decide)), (hA 32 5 (by decide) (by decide)), (hA 32 8 (by decide) (by decide)), (hA 32 9 (by decide) (by decide)), (hA 33 5 (by decide) (by decide)), (hA 33 8 (by decide) (by decide)), (hA 33 9 (by decide) (by decide)), (hA 34 5 (by decide) (by decide)), (hA 34 8 (by decide) (by decide)), (hA 34 9 (by decide) (by decide)), (hA 35 5 (by decide) (by decide)), (hA 35 8 (by decide) (by decide)), (hA 35 9 (by decide) (by decide)), (hA 36 5 (by decide) (by decide)), (hA 36 8 (by decide) (by decide)), (hA 36 9 (by decide) (by decide))]
theorem Cn_mW0 (hA : inj40 A) {t : QT} : Cn A (mW h (A 27) 0 (A 31) (A 34) t) = Cn A h := by
  simp only [Cn, mW, mi_pi, Nat.reduceEqDiff, and_false, if_false, false_and, (hA 5 27 (by decide) (by decide)), (hA 5 31 (by decide) (by decide)), (hA 5 34 (by decide) (by decide)), (hA 6 27 (by decide) (by decide)), (hA 6 31 (by decide) (by decide)), (hA 6 34 (by decide) (by decide)), (hA 7 27 (by decide) (by decide)), (hA 7 31 (by decide) (by decide)), (hA 7 34 (by decide) (by decide)), (hA 8 27 (by decide) (by decide)), (hA 8 31 (by decide) (by decide)), (hA 8 34 (by decide) (by decide)), (hA 9 27 (by decide) (by decide)), (hA 9 31 (by decide) (by decide)), (hA 9 34 (by decide) (by decide)), (hA 10 27 (by decide) (by decide)), (hA 10 31 (by decide) (by decide)), (hA 10 34 (by decide) (by decide)), (hA 11 27 (by decide) (by decide)), (hA 11 31 (by decide) (by decide)), (hA 11 34 (by decide) (by decide)), (hA 12 27 (by decide) (by decide)), (hA 12 31 (by decide) (by decide)), (hA 12 34 (by decide) (by decide)), (hA 13 27 (by decide) (by decide)), (hA 13 31 (by decide) (by decide)), (hA 13 34 (by decide) (by decide)), (hA 14 27 (by decide) (by decide)), (hA 14 31 (by decide) (by decide)), (hA 14 34 (by decide) (by decide)), (hA 28 27 (by decide) (by decide)), (hA 28 31 (by decide) (by decide)), (hA 28 34 (by decide) (by decide)), (hA 31 27 (by decide) (by decide)), (hA 31 34 (by decide) (by decide)), (hA 32 27 (by decide) (by decide)), (hA 32 31 (by decide) (by decide)), (hA 32 34 (by decide) (by decide)), (hA 33 27 (by decide) (by decide)), (hA 33 31 (by decide) (by decide)), (hA 33 34 (by decide) (by decide)), (hA 34 27 (by decide) (by decide)), (hA 34 31 (by decide) (by decide)), (hA 35 27 (by decide) (by decide)), (hA 35 31 (by decide) (by decide)), (hA 35 34 (by decide) (by decide)), (hA 36 27 (by decide) (by decide)), (hA 36 31 (by decide) (by decide)), (hA 36 34 (by decide) (by decide))]
theorem Tx_cW0 (hA : inj40 A) {t : QT} : Tx A (cW h (A 5) (A 8) (A 9) t) = Tx A h := by simp only [cW]; repeat rw [Tx_pi hA (by decide)]
theorem Tx_mW0 (hA : inj40 A) {t : QT} : Tx A (mW h (A 27) 0 (A 31) (A 34) t) = Tx A h := by simp only [mW]; repeat rw [Tx_pi hA (by decide)]
theorem cT0_pi (hA : inj40 A) {j k : Nat} {v : Int32} (hj : [0, 1, 2, 3, 4, 6, 7, 10, 11, 12, 13, 14, 15, 16, 17, 18, 19, 20, 21, 22, 23, 24, 25, 26, 27, 28, 29, 30, 31, 32, 33, 34, 35, 36, 37, 38, 39].contains j = true) : cT (p_i h (A j) k v) (A 5) (A 8) (A 9) = cT h (A 5) (A 8) (A 9) := by
  have hj40 : j < 40 := by
    simp only [List.contains_eq_mem, decide_eq_true_eq] at hj
    have : ∀ x ∈ [0, 1, 2, 3, 4, 6, 7, 10, 11, 12, 13, 14, 15, 16, 17, 18, 19, 20, 21, 22, 23, 24, 25, 26, 27, 28, 29, 30, 31, 32, 33, 34, 35, 36, 37, 38, 39], x < 40 := by decide
    exact this j hj
  have d5 : ¬ A 5 = A j := fun z => by have := (hA 5 j (by decide) hj40).mp z; subst this; simp at hj
  have d8 : ¬ A 8 = A j := fun z => by have := (hA 8 j (by decide) hj40).mp z; subst this; simp at hj
  have d9 : ¬ A 9 = A j := fun z => by have := (hA 9 j (by decide) hj40).mp z; subst this; simp at hj
  simp only [cT, mi_pi, d5, d8, d9, false_and, if_false]
theorem cT0_pl {a k : Nat} {v : Int64} : cT (p_l h a k v) (A 5) (A 8) (A 9) = cT h (A 5) (A 8) (A 9) := id rfl
theorem cT0_cW (hA : inj40 A) {t : QT} : cT (cW h (A 5) (A 8) (A 9) t) (A 5) (A 8) (A 9) = t := cW_cT (fun z => absurd ((hA 8 9 (by decide) (by decide)).mp z) (by decide)) (fun z => absurd ((hA 5 8 (by decide) (by decide)).mp z) (by decide)) (fun z => absurd ((hA 5 9 (by decide) (by decide)).mp z) (by decide)) (fun z => absurd ((hA 9 8 (by decide) (by decide)).mp z) (by decide)) (fun z => absurd ((hA 8 5 (by decide) (by decide)).mp z) (by decide)) (fun z => absurd ((hA 9 5 (by decide) (by decide)).mp z) (by decide)) t
theorem mT0_mW (hA : inj40 A) {t : QT} : mT (mW h (A 27) 0 (A 31) (A 34) t) (A 27) 0 (A 31) (A 34) = t := mW_mT (fun z => absurd ((hA 31 34 (by decide) (by decide)).mp z) (by decide)) (fun z => absurd ((hA 27 31 (by decide) (by decide)).mp z) (by decide)) (fun z => absurd ((hA 27 34 (by decide) (by decide)).mp z) (by decide)) (fun z => absurd ((hA 34 31 (by decide) (by decide)).mp z) (by decide)) (fun z => absurd ((hA 31 27 (by decide) (by decide)).mp z) (by decide)) (fun z => absurd ((hA 34 27 (by decide) (by decide)).mp z) (by decide)) t
theorem cT0_mW (hA : inj40 A) {t : QT} : cT (mW h (A 27) 0 (A 31) (A 34) t) (A 5) (A 8) (A 9) = cT h (A 5) (A 8) (A 9) := by
  simp only [mW]; repeat rw [cT0_pi hA (by decide)]
theorem Vq0_mW (hA : inj40 A) {t : QT} : Vq0 A (mW h (A 27) 0 (A 31) (A 34) t) = (cT h (A 5) (A 8) (A 9) = t ∧ cT h (A 5) (A 8) (A 9) ∈ QS0) := by
  simp only [Vq0, cT0_mW hA, mT0_mW hA]
theorem mT0_pi (hA : inj40 A) {j k : Nat} {v : Int32} (hj : [0, 1, 2, 3, 4, 5, 6, 7, 8, 9, 10, 11, 12, 13, 14, 15, 16, 17, 18, 19, 20, 21, 22, 23, 24, 25, 26, 28, 29, 30, 32, 33, 35, 36, 37, 38, 39].contains j = true) : mT (p_i h (A j) k v) (A 27) 0 (A 31) (A 34) = mT h (A 27) 0 (A 31) (A 34) := by
  have hj40 : j < 40 := by
    simp only [List.contains_eq_mem, decide_eq_true_eq] at hj
    have : ∀ x ∈ [0, 1, 2, 3, 4, 5, 6, 7, 8, 9, 10, 11, 12, 13, 14, 15, 16, 17, 18, 19, 20, 21, 22, 23, 24, 25, 26, 28, 29, 30, 32, 33, 35, 36, 37, 38, 39], x < 40 := by decide
    exact this j hj
  have d27 : ¬ A 27 = A j := fun z => by have := (hA 27 j (by decide) hj40).mp z; subst this; simp at hj
  have d31 : ¬ A 31 = A j := fun z => by have := (hA 31 j (by decide) hj40).mp z; subst this; simp at hj
  have d34 : ¬ A 34 = A j := fun z => by have := (hA 34 j (by decide) hj40).mp z; subst this; simp at hj
  simp only [mT, mi_pi, d27, d31, d34, false_and, if_false]
theorem mT0_pl {a k : Nat} {v : Int64} : mT (p_l h a k v) (A 27) 0 (A 31) (A 34) = mT h (A 27) 0 (A 31) (A 34) := id rfl
theorem mT0_pT {t : Nat} : mT (p_T h t) (A 27) 0 (A 31) (A 34) = mT h (A 27) 0 (A 31) (A 34) := id rfl
theorem mT0_cW (hA : inj40 A) {t : QT} : mT (cW h (A 5) (A 8) (A 9) t) (A 27) 0 (A 31) (A 34) = mT h (A 27) 0 (A 31) (A 34) := by
  simp only [cW]; repeat rw [mT0_pi hA (by decide)]
theorem Vq0_cW1 (hA : inj40 A) {t : QT} : Vq0 A (cW h (A 6) (A 10) (A 11) t) = Vq0 A h := by simp only [cW]; repeat rw [Vq0_pi hA (by decide)]
theorem Vq0_mW1 (hA : inj40 A) {t : QT} : Vq0 A (mW h (A 27) 1 (A 32) (A 35) t) = Vq0 A h := by
  simp only [mW, Vq0, cT, mT, mi_pi, (hA 5 27 (by decide) (by decide)), (hA 5 32 (by decide) (by decide)), (hA 5 35 (by decide) (by decide)), (hA 8 27 (by decide) (by decide)), (hA 8 32 (by decide) (by decide)), (hA 8 35 (by decide) (by decide)), (hA 9 27 (by decide) (by decide)), (hA 9 32 (by decide) (by decide)), (hA 9 35 (by decide) (by decide)), (hA 27 32 (by decide) (by decide)), (hA 27 35 (by decide) (by decide)), (hA 31 27 (by decide) (by decide)), (hA 31 32 (by decide) (by decide)), (hA 31 35 (by decide) (by decide)), (hA 34 27 (by decide) (by decide)), (hA 34 32 (by decide) (by decide)), (hA 34 35 (by decide) (by decide)), Nat.reduceEqDiff, and_false, false_and, if_false]
theorem Vq2_cW1 (hA : inj40 A) {t : QT} : Vq2 A (cW h (A 6) (A 10) (A 11) t) = Vq2 A h := by simp only [cW]; repeat rw [Vq2_pi hA (by decide)]
theorem Vq2_mW1 (hA : inj40 A) {t : QT} : Vq2 A (mW h (A 27) 1 (A 32) (A 35) t) = Vq2 A h := by
  simp only [mW, Vq2, cT, mT, mi_pi, (hA 7 27 (by decide) (by decide)), (hA 7 32 (by decide) (by decide)), (hA 7 35 (by decide) (by decide)), (hA 12 27 (by decide) (by decide)), (hA 12 32 (by decide) (by decide)), (hA 12 35 (by decide) (by decide)), (hA 13 27 (by decide) (by decide)), (hA 13 32 (by decide) (by decide)), (hA 13 35 (by decide) (by decide)), (hA 27 32 (by decide) (by decide)), (hA 27 35 (by decide) (by decide)), (hA 33 27 (by decide) (by decide)), (hA 33 32 (by decide) (by decide)), (hA 33 35 (by decide) (by decide)), (hA 36 27 (by decide) (by decide)), (hA 36 32 (by decide) (by decide)), (hA 36 35 (by decide) (by decide)), Nat.reduceEqDiff, and_false, false_and, if_false]
theorem Vp_cW1 (hA : inj40 A) {t : QT} : Vp A (cW h (A 6) (A 10) (A 11) t) = Vp A h := by simp only [cW]; repeat rw [Vp_pi hA (by decide)]
theorem Vp_mW1 (hA : inj40 A) {t : QT} : Vp A (mW h (A 27) 1 (A 32) (A 35) t) = Vp A h := by simp only [mW]; repeat rw [Vp_pi hA (by decide)]
theorem Vl0_cW1 (hA : inj40 A) {t : QT} : Vl0 A (cW h (A 6) (A 10) (A 11) t) = Vl0 A h := by simp only [cW]; repeat rw [Vl0_pi hA (by decide)]
theorem Vl0_mW1 (hA : inj40 A) {t : QT} : Vl0 A (mW h (A 27) 1 (A 32) (A 35) t) = Vl0 A h := by simp only [mW]; repeat rw [Vl0_pi hA (by decide)]
theorem Vl1_cW1 (hA : inj40 A) {t : QT} : Vl1 A (cW h (A 6) (A 10) (A 11) t) = Vl1 A h := by simp only [cW]; repeat rw [Vl1_pi hA (by decide)]
theorem Vl1_mW1 (hA : inj40 A) {t : QT} : Vl1 A (mW h (A 27) 1 (A 32) (A 35) t) = Vl1 A h := by simp only [mW]; repeat rw [Vl1_pi hA (by decide)]
theorem Vlr_cW1 (hA : inj40 A) {t : QT} : Vlr A (cW h (A 6) (A 10) (A 11) t) = Vlr A h := by simp only [cW]; repeat rw [Vlr_pi hA (by decide)]
theorem Vlr_mW1 (hA : inj40 A) {t : QT} : Vlr A (mW h (A 27) 1 (A 32) (A 35) t) = Vlr A h := by simp only [mW]; repeat rw [Vlr_pi hA (by decide)]
theorem Vsr_cW1 (hA : inj40 A) {t : QT} : Vsr A (cW h (A 6) (A 10) (A 11) t) = Vsr A h := by simp only [cW]; repeat rw [Vsr_pi hA (by decide)]
theorem Vsr_mW1 (hA : inj40 A) {t : QT} : Vsr A (mW h (A 27) 1 (A 32) (A 35) t) = Vsr A h := by simp only [mW]; repeat rw [Vsr_pi hA (by decide)]
theorem Cn_cW1 (hA : inj40 A) {t : QT} : Cn A (cW h (A 6) (A 10) (A 11) t) = Cn A h := by
  simp only [Cn, cW, mi_pi, Nat.reduceEqDiff, and_false, if_false, false_and, (hA 5 6 (by decide) (by decide)), (hA 5 10 (by decide) (by decide)), (hA 5 11 (by decide) (by decide)), (hA 6 10 (by decide) (by decide)), (hA 6 11 (by decide) (by decide)), (hA 7 6 (by decide) (by decide)), (hA 7 10 (by decide) (by decide)), (hA 7 11 (by decide) (by decide)), (hA 8 6 (by decide) (by decide)), (hA 8 10 (by decide) (by decide)), (hA 8 11 (by decide) (by decide)), (hA 9 6 (by decide) (by decide)), (hA 9 10 (by decide) (by decide)), (hA 9 11 (by decide) (by decide)), (hA 10 6 (by decide) (by decide)), (hA 10 11 (by decide) (by decide)), (hA 11 6 (by decide) (by decide)), (hA 11 10 (by decide) (by decide)), (hA 12 6 (by decide) (by decide)), (hA 12 10 (by decide) (by decide)), (hA 12 11 (by decide) (by decide)), (hA 13 6 (by decide) (by decide)), (hA 13 10 (by decide) (by decide)), (hA 13 11 (by decide) (by decide)), (hA 14 6 (by decide) (by decide)), (hA 14 10 (by decide) (by decide)), (hA 14 11 (by decide) (by decide)), (hA 28 6 (by decide) (by decide)), (hA 28 10 (by decide) (by decide)), (hA 28 11 (by decide) (by decide)), (hA 31 6 (by decide) (by decide)), (hA 31 10 (by decide) (by decide)), (hA 31 11 (by decide) (by decide)), (hA 32 6 (by decide) (by decide)), (hA 32 10 (by decide) (by decide)), (hA 32 11 (by decide) (by decide)), (hA 33 6 (by decide) (by decide)), (hA 33 10 (by decide) (by decide)), (hA 33 11 (by decide) (by decide)), (hA 34 6 (by decide) (by decide)), (hA 34 10 (by decide) (by decide)), (hA 34 11 (by decide) (by decide)), (hA 35 6 (by decide) (by decide)), (hA 35 10 (by decide) (by decide)), (hA 35 11 (by decide) (by decide)), (hA 36 6 (by decide) (by decide)), (hA 36 10 (by decide) (by decide)), (hA 36 11 (by decide) (by decide))]
theorem Cn_mW1 (hA : inj40 A) {t : QT} : Cn A (mW h (A 27) 1 (A 32) (A 35) t) = Cn A h := by
  simp only [Cn, mW, mi_pi, Nat.reduceEqDiff, and_false, if_false, false_and, (hA 5 27 (by decide) (by decide)), (hA 5 32 (by decide) (by decide)), (hA 5 35 (by decide) (by decide)), (hA 6 27 (by decide) (by decide)), (hA 6 32 (by decide) (by decide)), (hA 6 35 (by decide) (by decide)), (hA 7 27 (by decide) (by decide)), (hA 7 32 (by decide) (by decide)), (hA 7 35 (by decide) (by decide)), (hA 8 27 (by decide) (by decide)), (hA 8 32 (by decide) (by decide)), (hA 8 35 (by decide) (by decide)), (hA 9 27 (by decide) (by decide)), (hA 9 32 (by decide) (by decide)), (hA 9 35 (by decide) (by decide)), (hA 10 27 (by decide) (by decide)), (hA 10 32 (by decide) (by decide)), (hA 10 35 (by decide) (by decide)), (hA 11 27 (by decide) (by decide)), (hA 11 32 (by decide) (by decide)), (hA 11 35 (by decide) (by decide)), (hA 12 27 (by decide) (by decide)), (hA 12 32 (by decide) (by decide)), (hA 12 35 (by decide) (by decide)), (hA 13 27 (by decide) (by decide)), (hA 13 32 (by decide) (by decide)), (hA 13 35 (by decide) (by decide)), (hA 14 27 (by decide) (by decide)), (hA 14 32 (by decide) (by decide)), (hA 14 35 (by decide) (by decide)), (hA 28 27 (by decide) (by decide)), (hA 28 32 (by decide) (by decide)), (hA 28 35 (by decide) (by decide)), (hA 31 27 (by decide) (by decide)), (hA 31 32 (by decide) (by decide)), (hA 31 35 (by decide) (by decide)), (hA 32 27 (by decide) (by decide)), (hA 32 35 (by decide) (by decide)), (hA 33 27 (by decide) (by decide)), (hA 33 32 (by decide) (by decide)), (hA 33 35 (by decide) (by decide)), (hA 34 27 (by decide) (by decide)), (hA 34 32 (by decide) (by decide)), (hA 34 35 (by decide) (by decide)), (hA 35 27 (by decide) (by decide)), (hA 35 32 (by decide) (by decide)), (hA 36 27 (by decide) (by decide)), (hA 36 32 (by decide) (by decide)), (hA 36 35 (by decide) (by decide))]
theorem Tx_cW1 (hA : inj40 A) {t : QT} : Tx A (cW h (A 6) (A 10) (A 11) t) = Tx A h := by simp only [cW]; repeat rw [Tx_pi hA (by decide)]
theorem Tx_mW1 (hA : inj40 A) {t : QT} : Tx A (mW h (A 27) 1 (A 32) (A 35) t) = Tx A h := by simp only [mW]; repeat rw [Tx_pi hA (by decide)]
theorem cT1_pi (hA : inj40 A) {j k : Nat} {v : Int32} (hj : [0, 1, 2, 3, 4, 5, 7, 8, 9, 12, 13, 14, 15, 16, 17, 18, 19, 20, 21, 22, 23, 24, 25, 26, 27, 28, 29, 30, 31, 32, 33, 34, 35, 36, 37, 38, 39].contains j = true) : cT (p_i h (A j) k v) (A 6) (A 10) (A 11) = cT h (A 6) (A 10) (A 11) := by
  have hj40 : j < 40 := by
    simp only [List.contains_eq_mem, decide_eq_true_eq] at hj
    have : ∀ x ∈ [0, 1, 2, 3, 4, 5, 7, 8, 9, 12, 13, 14, 15, 16, 17, 18, 19, 20, 21, 22, 23, 24, 25, 26, 27, 28, 29, 30, 31, 32, 33, 34, 35, 36, 37, 38, 39], x < 40 := by decide
    exact this j hj
  have d6 : ¬ A 6 = A j := fun z => by have := (hA 6 j (by decide) hj40).mp z; subst this; simp at hj
  have d10 : ¬ A 10 = A j := fun z => by have := (hA 10 j (by decide) hj40).mp z; subst this; simp at hj
  have d11 : ¬ A 11 = A j := fun z => by have := (hA 11 j (by decide) hj40).mp z; subst this; simp at hj
  simp only [cT, mi_pi, d6, d10, d11, false_and, if_false]
theorem cT1_pl {a k : Nat} {v : Int64} : cT (p_l h a k v) (A 6) (A 10) (A 11) = cT h (A 6) (A 10) (A 11) := id rfl
theorem cT1_cW (hA : inj40 A) {t : QT} : cT (cW h (A 6) (A 10) (A 11) t) (A 6) (A 10) (A 11) = t := cW_cT (fun z => absurd ((hA 10 11 (by decide) (by decide)).mp z) (by decide)) (fun z => absurd ((hA 6 10 (by decide) (by decide)).mp z) (by decide)) (fun z => absurd ((hA 6 11 (by decide) (by decide)).mp z) (by decide)) (fun z => absurd ((hA 11 10 (by decide) (by decide)).mp z) (by decide)) (fun z => absurd ((hA 10 6 (by decide) (by decide)).mp z) (by decide)) (fun z => absurd ((hA 11 6 (by decide) (by decide)).mp z) (by decide)) t
theorem mT1_mW (hA : inj40 A) {t : QT} : mT (mW h (A 27) 1 (A 32) (A 35) t) (A 27) 1 (A 32) (A 35) = t := mW_mT (fun z => absurd ((hA 32 35 (by decide) (by decide)).mp z) (by decide)) (fun z => absurd ((hA 27 32 (by decide) (by decide)).mp z) (by decide)) (fun z => absurd ((hA 27 35 (by decide) (by decide)).mp z) (by decide)) (fun z => absurd ((hA 35 32 (by decide) (by decide)).mp z) (by decide)) (fun z => absurd ((hA 32 27 (by decide) (by decide)).mp z) (by decide)) (fun z => absurd ((hA 35 27 (by decide) (by decide)).mp z) (by decide)) t
theorem cT1_mW (hA : inj40 A) {t : QT} : cT (mW h (A 27) 1 (A 32) (A 35) t) (A 6) (A 10) (A 11) = cT h (A 6) (A 10) (A 11) := by
  simp only [mW]; repeat rw [cT1_pi hA (by decide)]
theorem Vq1_mW (hA : inj40 A) {t : QT} : Vq1 A (mW h (A 27) 1 (A 32) (A 35) t) = (cT h (A 6) (A 10) (A 11) = t ∧ cT h (A 6) (A 10) (A 11) ∈ QS1) := by
  simp only [Vq1, cT1_mW hA, mT1_mW hA]
theorem mT1_pi (hA : inj40 A) {j k : Nat} {v : Int32} (hj : [0, 1, 2, 3, 4, 5, 6, 7, 8, 9, 10, 11, 12, 13, 14, 15, 16, 17, 18, 19, 20, 21, 22, 23, 24, 25, 26, 28, 29, 30, 31, 33, 34, 36, 37, 38, 39].contains j = true) : mT (p_i h (A j) k v) (A 27) 1 (A 32) (A 35) = mT h (A 27) 1 (A 32) (A 35) := by
  have hj40 : j < 40 := by
    simp only [List.contains_eq_mem, decide_eq_true_eq] at hj
    have : ∀ x ∈ [0, 1, 2, 3, 4, 5, 6, 7, 8, 9, 10, 11, 12, 13, 14, 15, 16, 17, 18, 19, 20, 21, 22, 23, 24, 25, 26, 28, 29, 30, 31, 33, 34, 36, 37, 38, 39], x < 40 := by decide
    exact this j hj
  have d27 : ¬ A 27 = A j := fun z => by have := (hA 27 j (by decide) hj40).mp z; subst this; simp at hj
  have d32 : ¬ A 32 = A j := fun z => by have := (hA 32 j (by decide) hj40).mp z; subst this; simp at hj
  have d35 : ¬ A 35 = A j := fun z => by have := (hA 35 j (by decide) hj40).mp z; subst this; simp at hj
  simp only [mT, mi_pi, d27, d32, d35, false_and, if_false]
theorem mT1_pl {a k : Nat} {v : Int64} : mT (p_l h a k v) (A 27) 1 (A 32) (A 35) = mT h (A 27) 1 (A 32) (A 35) := id rfl
theorem mT1_pT {t : Nat} : mT (p_T h t) (A 27) 1 (A 32) (A 35) = mT h (A 27) 1 (A 32) (A 35) := id rfl
theorem mT1_cW (hA : inj40 A) {t : QT} : mT (cW h (A 6) (A 10) (A 11) t) (A 27) 1 (A 32) (A 35) = mT h (A 27) 1 (A 32) (A 35) := by
  simp only [cW]; repeat rw [mT1_pi hA (by decide)]
theorem Vq0_cW2 (hA : inj40 A) {t : QT} : Vq0 A (cW h (A 7) (A 12) (A 13) t) = Vq0 A h := by simp only [cW]; repeat rw [Vq0_pi hA (by decide)]
theorem Vq0_mW2 (hA : inj40 A) {t : QT} : Vq0 A (mW h (A 27) 2 (A 33) (A 36) t) = Vq0 A h := by
  simp only [mW, Vq0, cT, mT, mi_pi, (hA 5 27 (by decide) (by decide)), (hA 5 33 (by decide) (by decide)), (hA 5 36 (by decide) (by decide)), (hA 8 27 (by decide) (by decide)), (hA 8 33 (by decide) (by decide)), (hA 8 36 (by decide) (by decide)), (hA 9 27 (by decide) (by decide)), (hA 9 33 (by decide) (by decide)), (hA 9 36 (by decide) (by decide)), (hA 27 33 (by decide) (by decide)), (hA 27 36 (by decide) (by decide)), (hA 31 27 (by decide) (by decide)), (hA 31 33 (by decide) (by decide)), (hA 31 36 (by decide) (by decide)), (hA 34 27 (by decide) (by decide)), (hA 34 33 (by decide) (by decide)), (hA 34 36 (by decide) (by decide)), Nat.reduceEqDiff, and_false, false_and, if_false]
theorem Vq1_cW2 (hA : inj40 A) {t : QT} : Vq1 A (cW h (A 7) (A 12) (A 13) t) = Vq1 A h := by simp only [cW]; repeat rw [Vq1_pi hA (by decide)]
theorem Vq1_mW2 (hA : inj40 A) {t : QT} : Vq1 A (mW h (A 27) 2 (A 33) (A 36) t) = Vq1 A h := by
  simp only [mW, Vq1, cT, mT, mi_pi, (hA 6 27 (by decide) (by decide)), (hA 6 33 (by decide) (by decide)), (hA 6 36 (by decide) (by decide)), (hA 10 27 (by decide) (by decide)), (hA 10 33 (by decide) (by decide)), (hA 10 36 (by decide) (by decide)), (hA 11 27 (by decide) (by decide)), (hA 11 33 (by decide) (by decide)), (hA 11 36 (by decide) (by decide)), (hA 27 33 (by decide) (by decide)), (hA 27 36 (by decide) (by decide)), (hA 32 27 (by decide) (by decide)), (hA 32 33 (by decide) (by decide)), (hA 32 36 (by decide) (by decide)), (hA 35 27 (by decide) (by decide)), (hA 35 33 (by decide) (by decide)), (hA 35 36 (by decide) (by decide)), Nat.reduceEqDiff, and_false, false_and, if_false]
theorem Vp_cW2 (hA : inj40 A) {t : QT} : Vp A (cW h (A 7) (A 12) (A 13) t) = Vp A h := by simp only [cW]; repeat rw [Vp_pi hA (by decide)]
theorem Vp_mW2 (hA : inj40 A) {t : QT} : Vp A (mW h (A 27) 2 (A 33) (A 36) t) = Vp A h := by simp only [mW]; repeat rw [Vp_pi hA (by decide)]
theorem Vl0_cW2 (hA : inj40 A) {t : QT} : Vl0 A (cW h (A 7) (A 12) (A 13) t) = Vl0 A h := by simp only [cW]; repeat rw [Vl0_pi hA (by decide)]
theorem Vl0_mW2 (hA : inj40 A) {t : QT} : Vl0 A (mW h (A 27) 2 (A 33) (A 36) t) = Vl0 A h := by simp only [mW]; repeat rw [Vl0_pi hA (by decide)]
theorem Vl1_cW2 (hA : inj40 A) {t : QT} : Vl1 A (cW h (A 7) (A 12) (A 13) t) = Vl1 A h := by simp only [cW]; repeat rw [Vl1_pi hA (by decide)]
theorem Vl1_mW2 (hA : inj40 A) {t : QT} : Vl1 A (mW h (A 27) 2 (A 33) (A 36) t) = Vl1 A h := by simp only [mW]; repeat rw [Vl1_pi hA (by decide)]
theorem Vlr_cW2 (hA : inj40 A) {t : QT} : Vlr A (cW h (A 7) (A 12) (A 13) t) = Vlr A h := by simp only [cW]; repeat rw [Vlr_pi hA (by decide)]
theorem Vlr_mW2 (hA : inj40 A) {t : QT} : Vlr A (mW h (A 27) 2 (A 33) (A 36) t) = Vlr A h := by simp only [mW]; repeat rw [Vlr_pi hA (by decide)]
theorem Vsr_cW2 (hA : inj40 A) {t : QT} : Vsr A (cW h (A 7) (A 12) (A 13) t) = Vsr A h := by simp only [cW]; repeat rw [Vsr_pi hA (by decide)]
theorem Vsr_mW2 (hA : inj40 A) {t : QT} : Vsr A (mW h (A 27) 2 (A 33) (A 36) t) = Vsr A h := by simp only [mW]; repeat rw [Vsr_pi hA (by decide)]
theorem Cn_cW2 (hA : inj40 A) {t : QT} : Cn A (cW h (A 7) (A 12) (A 13) t) = Cn A h := by
  simp only [Cn, cW, mi_pi, Nat.reduceEqDiff, and_false, if_false, false_and, (hA 5 7 (by decide) (by decide)), (hA 5 12 (by decide) (by decide)), (hA 5 13 (by decide) (by decide)), (hA 6 7 (by decide) (by decide)), (hA 6 12 (by decide) (by decide)), (hA 6 13 (by decide) (by decide)), (hA 7 12 (by decide) (by decide)), (hA 7 13 (by decide) (by decide)), (hA 8 7 (by decide) (by decide)), (hA 8 12 (by decide) (by decide)), (hA 8 13 (by decide) (by decide)), (hA 9 7 (by decide) (by decide)), (hA 9 12 (by decide) (by decide)), (hA 9 13 (by decide) (by decide)), (hA 10 7 (by decide) (by decide)), (hA 10 12 (by decide) (by decide)), (hA 10 13 (by decide) (by decide)), (hA 11 7 (by decide) (by decide)), (hA 11 12 (by decide) (by decide)), (hA 11 13 (by decide) (by decide)), (hA 12 7 (by decide) (by decide)), (hA 12 13 (by decide) (by decide)), (hA 13 7 (by decide) (by decide)), (hA 13 12 (by decide) (by decide)), (hA 14 7 (by decide) (by decide)), (hA 14 12 (by decide) (by decide)), (hA 14 13 (by decide) (by decide)), (hA 28 7 (by decide) (by decide)), (hA 28 12 (by decide) (by decide)), (hA 28 13 (by decide) (by decide)), (hA 31 7 (by decide) (by decide)), (hA 31 12 (by decide) (by decide)), (hA 31 13 (by decide) (by decide)), (hA 32 7 (by decide) (by decide)), (hA 32 12 (by decide) (by decide)), (hA 32 13 (by decide) (by decide)), (hA 33 7 (by decide) (by decide)), (hA 33 12 (by decide) (by decide)), (hA 33 13 (by decide) (by decide)), (hA 34 7 (by decide) (by decide)), (hA 34 12 (by decide) (by decide)), (hA 34 13 (by decide) (by decide)), (hA 35 7 (by decide) (by decide)), (hA 35 12 (by decide) (by decide)), (hA 35 13 (by decide) (by decide)), (hA 36 7 (by decide) (by decide)), (hA 36 12 (by decide) (by decide)), (hA 36 13 (by decide) (by decide))]
theorem Cn_mW2 (hA : inj40 A) {t : QT} : Cn A (mW h (A 27) 2 (A 33) (A 36) t) = Cn A h := by
  simp only [Cn, mW, mi_pi, Nat.reduceEqDiff, and_false, if_false, false_and, (hA 5 27 (by decide) (by decide)), (hA 5 33 (by decide) (by decide)), (hA 5 36 (by decide) (by decide)), (hA 6 27 (by decide) (by decide)), (hA 6 33 (by decide) (by decide)), (hA 6 36 (by decide) (by decide)), (hA 7 27 (by decide) (by decide)), (hA 7 33 (by decide) (by decide)), (hA 7 36 (by decide) (by decide)), (hA 8 27 (by decide) (by decide)), (hA 8 33 (by decide) (by decide)), (hA 8 36 (by decide) (by decide)), (hA 9 27 (by decide) (by decide)), (hA 9 33 (by decide) (by decide)), (hA 9 36 (by decide) (by decide)), (hA 10 27 (by decide) (by decide)), (hA 10 33 (by decide) (by decide)), (hA 10 36 (by decide) (by decide)), (hA 11 27 (by decide) (by decide)), (hA 11 33 (by decide) (by decide)), (hA 11 36 (by decide) (by decide)), (hA 12 27 (by decide) (by decide)), (hA 12 33 (by decide) (by decide)), (hA 12 36 (by decide) (by decide)), (hA 13 27 (by decide) (by decide)), (hA 13 33 (by decide) (by decide)), (hA 13 36 (by decide) (by decide)), (hA 14 27 (by decide) (by decide)), (hA 14 33 (by decide) (by decide)), (hA 14 36 (by decide) (by decide)), (hA 28 27 (by decide) (by decide)), (hA 28 33 (by decide) (by decide)), (hA 28 36 (by decide) (by decide)), (hA 31 27 (by decide) (by decide)), (hA 31 33 (by decide) (by decide)), (hA 31 36 (by decide) (by decide)), (hA 32 27 (by decide) (by decide)), (hA 32 33 (by decide) (by decide)), (hA 32 36 (by decide) (by decide)), (hA 33 27 (by decide) (by decide)), (hA 33 36 (by decide) (by decide)), (hA 34 27 (by decide) (by decide)), (hA 34 33 (by decide) (by decide)), (hA 34 36 (by decide) (by decide)), (hA 35 27 (by decide) (by decide)), (hA 35 33 (by decide) (by decide)), (hA 35 36 (by decide) (by decide)), (hA 36 27 (by decide) (by decide)), (hA 36 33 (by decide) (by decide))]
theorem Tx_cW2 (hA : inj40 A) {t : QT} : Tx A (cW h (A 7) (A 12) (A 13) t) = Tx A h := by simp only [cW]; repeat rw [Tx_pi hA (by decide)]
theorem Tx_mW2 (hA : inj40 A) {t : QT} : Tx A (mW h (A 27) 2 (A 33) (A 36) t) = Tx A h := by simp only [mW]; repeat rw [Tx_pi hA (by decide)]
theorem cT2_pi (hA : inj40 A) {j k : Nat} {v : Int32} (hj : [0, 1, 2, 3, 4, 5, 6, 8, 9, 10, 11, 14, 15, 16, 17, 18, 19, 20, 21, 22, 23, 24, 25, 26, 27, 28, 29, 30, 31, 32, 33, 34, 35, 36, 37, 38, 39].contains j = true) : cT (p_i h (A j) k v) (A 7) (A 12) (A 13) = cT h (A 7) (A 12) (A 13) := by
  have hj40 : j < 40 := by
    simp only [List.contains_eq_mem, decide_eq_true_eq] at hj
    have : ∀ x ∈ [0, 1, 2, 3, 4, 5, 6, 8, 9, 10, 11, 14, 15, 16, 17, 18, 19, 20, 21, 22, 23, 24, 25, 26, 27, 28, 29, 30, 31, 32, 33, 34, 35, 36, 37, 38, 39], x < 40 := by decide
    exact this j hj
  have d7 : ¬ A 7 = A j := fun z => by have := (hA 7 j (by decide) hj40).mp z; subst this; simp at hj
  have d12 : ¬ A 12 = A j := fun z => by have := (hA 12 j (by decide) hj40).mp z; subst this; simp at hj
  have d13 : ¬ A 13 = A j := fun z => by have := (hA 13 j (by decide) hj40).mp z; subst this; simp at hj
  simp only [cT, mi_pi, d7, d12, d13, false_and, if_false]
theorem cT2_pl {a k : Nat} {v : Int64} : cT (p_l h a k v) (A 7) (A 12) (A 13) = cT h (A 7) (A 12) (A 13) := id rfl
theorem cT2_cW (hA : inj40 A) {t : QT} : cT (cW h (A 7) (A 12) (A 13) t) (A 7) (A 12) (A 13) = t := cW_cT (fun z => absurd ((hA 12 13 (by decide) (by decide)).mp z) (by decide)) (fun z => absurd ((hA 7 12 (by decide) (by decide)).mp z) (by decide)) (fun z => absurd ((hA 7 13 (by decide) (by decide)).mp z) (by decide)) (fun z => absurd ((hA 13 12 (by decide) (by decide)).mp z) (by decide)) (fun z => absurd ((hA 12 7 (by decide) (by decide)).mp z) (by decide)) (fun z => absurd ((hA 13 7 (by decide) (by decide)).mp z) (by decide)) t
theorem mT2_mW (hA : inj40 A) {t : QT} : mT (mW h (A 27) 2 (A 33) (A 36) t) (A 27) 2 (A 33) (A 36) = t := mW_mT (fun z => absurd ((hA 33 36 (by decide) (by decide)).mp z) (by decide)) (fun z => absurd ((hA 27 33 (by decide) (by decide)).mp z) (by decide)) (fun z => absurd ((hA 27 36 (by decide) (by decide)).mp z) (by decide)) (fun z => absurd ((hA 36 33 (by decide) (by decide)).mp z) (by decide)) (fun z => absurd ((hA 33 27 (by decide) (by decide)).mp z) (by decide)) (fun z => absurd ((hA 36 27 (by decide) (by decide)).mp z) (by decide)) t
theorem cT2_mW (hA : inj40 A) {t : QT} : cT (mW h (A 27) 2 (A 33) (A 36) t) (A 7) (A 12) (A 13) = cT h (A 7) (A 12) (A 13) := by
  simp only [mW]; repeat rw [cT2_pi hA (by decide)]
theorem Vq2_mW (hA : inj40 A) {t : QT} : Vq2 A (mW h (A 27) 2 (A 33) (A 36) t) = (cT h (A 7) (A 12) (A 13) = t ∧ cT h (A 7) (A 12) (A 13) ∈ QS2) := by
  simp only [Vq2, cT2_mW hA, mT2_mW hA]
theorem mT2_pi (hA : inj40 A) {j k : Nat} {v : Int32} (hj : [0, 1, 2, 3, 4, 5, 6, 7, 8, 9, 10, 11, 12, 13, 14, 15, 16, 17, 18, 19, 20, 21, 22, 23, 24, 25, 26, 28, 29, 30, 31, 32, 34, 35, 37, 38, 39].contains j = true) : mT (p_i h (A j) k v) (A 27) 2 (A 33) (A 36) = mT h (A 27) 2 (A 33) (A 36) := by
  have hj40 : j < 40 := by
    simp only [List.contains_eq_mem, decide_eq_true_eq] at hj
    have : ∀ x ∈ [0, 1, 2, 3, 4, 5, 6, 7, 8, 9, 10, 11, 12, 13, 14, 15, 16, 17, 18, 19, 20, 21, 22, 23, 24, 25, 26, 28, 29, 30, 31, 32, 34, 35, 37, 38, 39], x < 40 := by decide
    exact this j hj
  have d27 : ¬ A 27 = A j := fun z => by have := (hA 27 j (by decide) hj40).mp z; subst this; simp at hj
  have d33 : ¬ A 33 = A j := fun z => by have := (hA 33 j (by decide) hj40).mp z; subst this; simp at hj
  have d36 : ¬ A 36 = A j := fun z => by have := (hA 36 j (by decide) hj40).mp z; subst this; simp at hj
  simp only [mT, mi_pi, d27, d33, d36, false_and, if_false]
theorem mT2_pl {a k : Nat} {v : Int64} : mT (p_l h a k v) (A 27) 2 (A 33) (A 36) = mT h (A 27) 2 (A 33) (A 36) := id rfl
theorem mT2_pT {t : Nat} : mT (p_T h t) (A 27) 2 (A 33) (A 36) = mT h (A 27) 2 (A 33) (A 36) := id rfl
theorem mT2_cW (hA : inj40 A) {t : QT} : mT (cW h (A 7) (A 12) (A 13) t) (A 27) 2 (A 33) (A 36) = mT h (A 27) 2 (A 33) (A 36) := by
  simp only [cW]; repeat rw [mT2_pi hA (by decide)]
end
theorem K_el {A : Nat → Nat} {h : MH} {G : Prop} (k : K A h) (f : (inj40 A) → (g_c h (A 0) = 7) → (g_c h (A 1) = 3) → (g_c h (A 2) = 3) → (g_c h (A 3) = 102) → (g_c h (A 4) = 102) → (g_c h (A 5) = 5) → (g_c h (A 6) = 5) → (g_c h (A 7) = 5) → (g_c h (A 8) = 4) → (g_c h (A 9) = 4) → (g_c h (A 10) = 4) → (g_c h (A 11) = 4) → (g_c h (A 12) = 4) → (g_c h (A 13) = 4) → (g_c h (A 14) = 4) → (g_c h (A 15) = 4) → (g_c h (A 16) = 4) → (g_c h (A 17) = 2) → (g_c h (A 18) = 101) → (g_c h (A 19) = 6) → (g_c h (A 20) = 10) → (g_c h (A 21) = 104) → (g_c h (A 22) = 9) → (g_c h (A 23) = 102) → (g_c h (A 24) = 101) → (g_c h (A 25) = 106) → (g_c h (A 26) = 106) → (g_c h (A 27) = 105) → (g_c h (A 28) = 8) → (g_c h (A 29) = 106) → (g_c h (A 30) = 101) → (g_c h (A 31) = 8) → (g_c h (A 32) = 8) → (g_c h (A 33) = 8) → (g_c h (A 34) = 8) → (g_c h (A 35) = 8) → (g_c h (A 36) = 8) → (g_c h (A 37) = 8) → (g_c h (A 38) = 8) → (g_c h (A 39) = 1) → (∀ i, i < 40 → g_z h ≤ A i) → (∀ i, i < 40 → A i < g_t h) → (g_n h (A 3) = 16) → (g_n h (A 4) = 36) → (g_n h (A 18) = 8) → (g_n h (A 21) = 19) → (g_n h (A 23) = 16) → (g_n h (A 24) = 36) → (g_n h (A 25) = 3) → (g_n h (A 26) = 3) → (g_n h (A 27) = 3) → (g_n h (A 29) = 2) → (g_n h (A 30) = 8) → (g_r h (A 0) 0 = some (A 1)) → (g_r h (A 0) 1 = some (A 2)) → (g_r h (A 0) 2 = some (A 5)) → (g_r h (A 0) 3 = some (A 6)) → (g_r h (A 0) 4 = some (A 7)) → (g_r h (A 0) 5 = some (A 14)) → (g_r h (A 0) 7 = some (A 15)) → (g_r h (A 0) 8 = some (A 16)) → (g_r h (A 0) 9 = some (A 17)) → (g_r h (A 0) 10 = some (A 19)) → (g_r h (A 1) 0 = some (A 3)) → (g_r h (A 2) 0 = some (A 4)) → (g_r h (A 5) 0 = some (A 8)) → (g_r h (A 5) 1 = some (A 9)) → (g_r h (A 6) 0 = some (A 10)) → (g_r h (A 6) 1 = some (A 11)) → (g_r h (A 7) 0 = some (A 12)) → (g_r h (A 7) 1 = some (A 13)) → (g_r h (A 8) 0 = some (A 1)) → (g_r h (A 9) 0 = some (A 1)) → (g_r h (A 10) 0 = some (A 1)) → (g_r h (A 11) 0 = some (A 1)) → (g_r h (A 12) 0 = some (A 1)) → (g_r h (A 13) 0 = some (A 1)) → (g_r h (A 14) 0 = some (A 2)) → (g_r h (A 15) 0 = some (A 1)) → (g_r h (A 16) 0 = some (A 2)) → (g_r h (A 17) 0 = some (A 18)) → (g_r h (A 19) 0 = some (A 20)) → (g_r h (A 19) 1 = some (A 21)) → (g_r h (A 22) 0 = some (A 23)) → (g_r h (A 22) 1 = some (A 24)) → (g_r h (A 22) 2 = some (A 25)) → (g_r h (A 22) 3 = some (A 26)) → (g_r h (A 22) 4 = some (A 27)) → (g_r h (A 22) 5 = some (A 28)) → (g_r h (A 22) 7 = some (A 29)) → (g_r h (A 22) 8 = some (A 30)) → (g_r h (A 25) 0 = some (A 31)) → (g_r h (A 25) 1 = some (A 32)) → (g_r h (A 25) 2 = some (A 33)) → (g_r h (A 26) 0 = some (A 34)) → (g_r h (A 26) 1 = some (A 35)) → (g_r h (A 26) 2 = some (A 36)) → (g_r h (A 29) 0 = some (A 37)) → (g_r h (A 29) 1 = some (A 38)) → G) : G := by
  obtain ⟨hA, ⟨kc0, kc1, kc2, kc3, kc4, kc5, kc6, kc7, kc8, kc9, kc10, kc11, kc12, kc13, kc14, kc15, kc16, kc17, kc18, kc19, kc20, kc21, kc22, kc23, kc24, kc25, kc26, kc27, kc28, kc29, kc30, kc31, kc32, kc33, kc34, kc35, kc36, kc37, kc38, kc39⟩, ⟨kz, kt⟩, ⟨kn3, kn4, kn18, kn21, kn23, kn24, kn25, kn26, kn27, kn29, kn30⟩, ⟨kr0_0, kr0_1, kr0_2, kr0_3, kr0_4, kr0_5, kr0_7, kr0_8, kr0_9, kr0_10, kr1_0, kr2_0, kr5_0, kr5_1, kr6_0, kr6_1, kr7_0, kr7_1, kr8_0, kr9_0, kr10_0, kr11_0, kr12_0, kr13_0, kr14_0, kr15_0, kr16_0, kr17_0, kr19_0, kr19_1, kr22_0, kr22_1, kr22_2, kr22_3, kr22_4, kr22_5, kr22_7, kr22_8, kr25_0, kr25_1, kr25_2, kr26_0, kr26_1, kr26_2, kr29_0, kr29_1⟩⟩ := k
  exact f hA kc0 kc1 kc2 kc3 kc4 kc5 kc6 kc7 kc8 kc9 kc10 kc11 kc12 kc13 kc14 kc15 kc16 kc17 kc18 kc19 kc20 kc21 kc22 kc23 kc24 kc25 kc26 kc27 kc28 kc29 kc30 kc31 kc32 kc33 kc34 kc35 kc36 kc37 kc38 kc39 kz kt kn3 kn4 kn18 kn21 kn23 kn24 kn25 kn26 kn27 kn29 kn30 kr0_0 kr0_1 kr0_2 kr0_3 kr0_4 kr0_5 kr0_7 kr0_8 kr0_9 kr0_10 kr1_0 kr2_0 kr5_0 kr5_1 kr6_0 kr6_1 kr7_0 kr7_1 kr8_0 kr9_0 kr10_0 kr11_0 kr12_0 kr13_0 kr14_0 kr15_0 kr16_0 kr17_0 kr19_0 kr19_1 kr22_0 kr22_1 kr22_2 kr22_3 kr22_4 kr22_5 kr22_7 kr22_8 kr25_0 kr25_1 kr25_2 kr26_0 kr26_1 kr26_2 kr29_0 kr29_1
theorem Cn_el {A : Nat → Nat} {h : MH} {G : Prop} (k : Cn A h) (f : (g_i h (A 5) 2 = 1) → (g_i h (A 6) 2 = 1) → (g_i h (A 7) 2 = 0) → (g_i h (A 8) 1 = 1) → (g_i h (A 8) 2 = 5) → (g_i h (A 8) 3 = 0) → (g_i h (A 9) 1 = 1) → (g_i h (A 9) 2 = 5) → (g_i h (A 9) 3 = 1) → (g_i h (A 10) 1 = 6) → (g_i h (A 10) 2 = 3) → (g_i h (A 10) 3 = 0) → (g_i h (A 11) 1 = 6) → (g_i h (A 11) 2 = 3) → (g_i h (A 11) 3 = 1) → (g_i h (A 12) 1 = 9) → (g_i h (A 12) 2 = 6) → (g_i h (A 12) 3 = 0) → (g_i h (A 13) 1 = 9) → (g_i h (A 13) 2 = 6) → (g_i h (A 13) 3 = 1) → (g_i h (A 14) 1 = 1) → (g_i h (A 14) 2 = 10) → (g_i h (A 14) 3 = 0) → (g_i h (A 28) 0 = 1) → (g_i h (A 28) 1 = 10) → (g_i h (A 31) 0 = 1) → (g_i h (A 31) 1 = 5) → (g_i h (A 32) 0 = 6) → (g_i h (A 32) 1 = 3) → (g_i h (A 33) 0 = 9) → (g_i h (A 33) 1 = 6) → (g_i h (A 34) 0 = 1) → (g_i h (A 34) 1 = 5) → (g_i h (A 35) 0 = 6) → (g_i h (A 35) 1 = 3) → (g_i h (A 36) 0 = 9) → (g_i h (A 36) 1 = 6) → G) : G := by
  obtain ⟨ki5_2, ki6_2, ki7_2, ki8_1, ki8_2, ki8_3, ki9_1, ki9_2, ki9_3, ki10_1, ki10_2, ki10_3, ki11_1, ki11_2, ki11_3, ki12_1, ki12_2, ki12_3, ki13_1, ki13_2, ki13_3, ki14_1, ki14_2, ki14_3, ki28_0, ki28_1, ki31_0, ki31_1, ki32_0, ki32_1, ki33_0, ki33_1, ki34_0, ki34_1, ki35_0, ki35_1, ki36_0, ki36_1⟩ := k
  exact f ki5_2 ki6_2 ki7_2 ki8_1 ki8_2 ki8_3 ki9_1 ki9_2 ki9_3 ki10_1 ki10_2 ki10_3 ki11_1 ki11_2 ki11_3 ki12_1 ki12_2 ki12_3 ki13_1 ki13_2 ki13_3 ki14_1 ki14_2 ki14_3 ki28_0 ki28_1 ki31_0 ki31_1 ki32_0 ki32_1 ki33_0 ki33_1 ki34_0 ki34_1 ki35_0 ki35_1 ki36_0 ki36_1
/-! a branch is gone into only when its condition is known -/
theorem ar_ite {p a b : Prop} : ((p → a) ∧ (¬ p → b)) = @ite Prop p (Classical.propDecidable p) a b := by
  apply propext
  by_cases h9 : p
  · rw [if_pos h9]
    exact ⟨fun k => k.1 h9, fun k => ⟨fun _ => k, fun n => absurd h9 n⟩⟩
  · rw [if_neg h9]
    exact ⟨fun k => k.2 h9, fun k => ⟨fun n => absurd n h9, fun _ => k⟩⟩
theorem ar_ite2 {p a b : Prop} : ((¬ p → a) ∧ (p → b)) = @ite Prop p (Classical.propDecidable p) b a := by
  apply propext
  by_cases h9 : p
  · rw [if_pos h9]
    exact ⟨fun k => k.2 h9, fun k => ⟨fun n => absurd h9 n, fun _ => k⟩⟩
  · rw [if_neg h9]
    exact ⟨fun k => k.1 h9, fun k => ⟨fun _ => k, fun n => absurd n h9⟩⟩
theorem ar_ok {p : Prop} {Y pc : Nat} {l s : List Value} {h : MH} {bc bs : Nat} {Q : MR → MH → Prop} : (p → Ok Y pc l s h bc bs Q) = @ite Prop p (Classical.propDecidable p) (Ok Y pc l s h bc bs Q) True := by
  apply propext
  by_cases h9 : p
  · rw [if_pos h9]
    exact ⟨fun k => k h9, fun k _ => k⟩
  · rw [if_neg h9]
    exact ⟨fun _ => trivial, fun _ n => absurd n h9⟩
theorem ite_ar {p a b : Prop} {d : Decidable p} : @ite Prop p d a b = ((p → a) ∧ (¬ p → b)) := by
  apply propext
  by_cases h9 : p
  · rw [if_pos h9]
    exact ⟨fun k => ⟨fun _ => k, fun n => absurd h9 n⟩, fun k => k.1 h9⟩
  · rw [if_neg h9]
    exact ⟨fun k => ⟨fun n => absurd n h9, fun _ => k⟩, fun k => k.2 h9⟩

set_option maxRecDepth 16384
/-! THE START: memory as a list of what was written -/
abbrev Wr : Type := (Nat × Nat × Nat) ⊕ ((Nat × Nat × Int32) ⊕ (Nat × Nat × Nat))
def ld (h : MH) : List Wr → MH
  | [] => h
  | .inl (_, t, n) :: T => p_N (ld h T) t n
  | .inr (.inl (k, j, v)) :: T => p_i (ld h T) (g_t h + k) j v
  | .inr (.inr (k, j, r)) :: T => p_r (ld h T) (g_t h + k) j (some (g_t h + r))
def lcnt : List Wr → Nat
  | [] => 0
  | .inl (_, _, _) :: T => lcnt T + 1
  | .inr (.inl (_, _, _)) :: T => lcnt T
  | .inr (.inr (_, _, _)) :: T => lcnt T
def lwf : List Wr → Bool
  | [] => true
  | .inl (i, _, _) :: T => Nat.beq i (lcnt T) && lwf T
  | .inr (.inl (_, _, _)) :: T => lwf T
  | .inr (.inr (_, _, _)) :: T => lwf T
def eC : List Wr → Nat → Nat
  | [], _ => 0
  | .inl (i, t, _) :: T, k => if k = i then t else eC T k
  | .inr (.inl (_, _, _)) :: T, k => eC T k
  | .inr (.inr (_, _, _)) :: T, k => eC T k
def eN : List Wr → Nat → Nat
  | [], _ => 0
  | .inl (i, _, n) :: T, k => if k = i then n else eN T k
  | .inr (.inl (_, _, _)) :: T, k => eN T k
  | .inr (.inr (_, _, _)) :: T, k => eN T k
def eI : List Wr → Nat → Nat → Int32
  | [], _, _ => 0
  | .inl (i, _, _) :: T, k, j => if k = i then 0 else eI T k j
  | .inr (.inl (k', j', v)) :: T, k, j => if k = k' ∧ j = j' then v else eI T k j
  | .inr (.inr (_, _, _)) :: T, k, j => eI T k j
def eR : List Wr → Nat → Nat → Option Nat
  | [], _, _ => none
  | .inl (i, _, _) :: T, k, j => if k = i then none else eR T k j
  | .inr (.inl (_, _, _)) :: T, k, j => eR T k j
  | .inr (.inr (k', j', r)) :: T, k, j => if k = k' ∧ j = j' then some r else eR T k j
theorem ld_t (h : MH) : ∀ T, g_t (ld h T) = g_t h + lcnt T
  | [] => rfl
  | .inl (_, _, _) :: T => by simp only [ld, lcnt, mt_pN, ld_t h T, Nat.add_assoc]
  | .inr (.inl (_, _, _)) :: T => by simp only [ld, lcnt, mt_pi, ld_t h T]
  | .inr (.inr (_, _, _)) :: T => by simp only [ld, lcnt, mt_pr, ld_t h T]
theorem ld_z (h : MH) : ∀ T, g_z (ld h T) = g_z h
  | [] => rfl
  | .inl (_, _, _) :: T => by simp only [ld, mz_pN, ld_z h T]
  | .inr (.inl (_, _, _)) :: T => by simp only [ld, mz_pi, ld_z h T]
  | .inr (.inr (_, _, _)) :: T => by simp only [ld, mz_pr, ld_z h T]
theorem lk_a (x a b : Nat) : (x + a = x + b) = (a = b) := propext Nat.add_left_cancel_iff
theorem lk_b (x a : Nat) : (x = x + a) = (a = 0) := propext ⟨fun z => by omega, fun z => by omega⟩
theorem lk_c (x a : Nat) : (x + a = x) = (a = 0) := propext ⟨fun z => by omega, fun z => by omega⟩
theorem lwf_N {i t n : Nat} {T : List Wr} (w : lwf (.inl (i, t, n) :: T) = true) : i = lcnt T ∧ lwf T = true := by
  simp only [lwf, Bool.and_eq_true] at w
  exact ⟨Nat.eq_of_beq_eq_true w.1, w.2⟩
theorem ld_c (h : MH) (k : Nat) : ∀ T, lwf T = true → k < lcnt T → g_c (ld h T) (g_t h + k) = eC T k
  | [], _, hk => by simp only [lcnt] at hk; omega
  | .inl (i, t, n) :: T, w, hk => by
    obtain ⟨e, w2⟩ := lwf_N w
    subst e
    simp only [ld, eC, mc_pN, ld_t, lk_a]
    by_cases z : k = lcnt T
    · rw [if_pos z, if_pos z]
    · rw [if_neg z, if_neg z]; exact ld_c h k T w2 (by simp only [lcnt] at hk; omega)
  | .inr (.inl (_, _, _)) :: T, w, hk => by simp only [ld, eC, mc_pi]; exact ld_c h k T w hk
  | .inr (.inr (_, _, _)) :: T, w, hk => by simp only [ld, eC, mc_pr]; exact ld_c h k T w hk
theorem ld_n (h : MH) (k : Nat) : ∀ T, lwf T = true → k < lcnt T → g_n (ld h T) (g_t h + k) = eN T k
  | [], _, hk => by simp only [lcnt] at hk; omega
  | .inl (i, t, n) :: T, w, hk => by
    obtain ⟨e, w2⟩ := lwf_N w
    subst e
    simp only [ld, eN, mn_pN, ld_t, lk_a]
    by_cases z : k = lcnt T
    · rw [if_pos z, if_pos z]
    · rw [if_neg z, if_neg z]; exact ld_n h k T w2 (by simp only [lcnt] at hk; omega)
  | .inr (.inl (_, _, _)) :: T, w, hk => by simp only [ld, eN, mn_pi]; exact ld_n h k T w hk
  | .inr (.inr (_, _, _)) :: T, w, hk => by simp only [ld, eN, mn_pr]; exact ld_n h k T w hk
theorem ld_i (h : MH) (k j : Nat) : ∀ T, lwf T = true → k < lcnt T → g_i (ld h T) (g_t h + k) j = eI T k j
  | [], _, hk => by simp only [lcnt] at hk; omega
  | .inl (i, t, n) :: T, w, hk => by
    obtain ⟨e, w2⟩ := lwf_N w
    subst e
    simp only [ld, eI, mi_pN, ld_t, lk_a]
    by_cases z : k = lcnt T
    · rw [if_pos z, if_pos z]
    · rw [if_neg z, if_neg z]; exact ld_i h k j T w2 (by simp only [lcnt] at hk; omega)
  | .inr (.inl (k', j', v)) :: T, w, hk => by
    simp only [ld, eI, mi_pi, lk_a]
    by_cases z : k = k' ∧ j = j'
    · rw [if_pos z, if_pos z]
    · rw [if_neg z, if_neg z]; exact ld_i h k j T w hk
  | .inr (.inr (_, _, _)) :: T, w, hk => by simp only [ld, eI, mi_pr]; exact ld_i h k j T w hk
theorem ld_l (h : MH) (k j : Nat) : ∀ T, lwf T = true → k < lcnt T → g_l (ld h T) (g_t h + k) j = 0
  | [], _, hk => by simp only [lcnt] at hk; omega
  | .inl (i, t, n) :: T, w, hk => by
    obtain ⟨e, w2⟩ := lwf_N w
    subst e
    simp only [ld, ml_pN, ld_t, lk_a]
    by_cases z : k = lcnt T
    · rw [if_pos z]
    · rw [if_neg z]; exact ld_l h k j T w2 (by simp only [lcnt] at hk; omega)
  | .inr (.inl (_, _, _)) :: T, w, hk => by simp only [ld, ml_pi]; exact ld_l h k j T w hk
  | .inr (.inr (_, _, _)) :: T, w, hk => by simp only [ld, ml_pr]; exact ld_l h k j T w hk
theorem ld_r (h : MH) (k j : Nat) : ∀ T, lwf T = true → k < lcnt T → g_r (ld h T) (g_t h + k) j = (eR T k j).map (fun r => g_t h + r)
  | [], _, hk => by simp only [lcnt] at hk; omega
  | .inl (i, t, n) :: T, w, hk => by
    obtain ⟨e, w2⟩ := lwf_N w
    subst e
    simp only [ld, eR, mr_pN, ld_t, lk_a]
    by_cases z : k = lcnt T
    · rw [if_pos z, if_pos z]; rfl
    · rw [if_neg z, if_neg z]; exact ld_r h k j T w2 (by simp only [lcnt] at hk; omega)
  | .inr (.inl (_, _, _)) :: T, w, hk => by simp only [ld, eR, mr_pi]; exact ld_r h k j T w hk
  | .inr (.inr (k', j', r)) :: T, w, hk => by
    simp only [ld, eR, mr_pr, lk_a]
    by_cases z : k = k' ∧ j = j'
    · rw [if_pos z, if_pos z]; rfl
    · rw [if_neg z, if_neg z]; exact ld_r h k j T w hk
def lsh (c : Nat) : List Wr → List Wr
  | [] => []
  | .inl (i, t, n) :: T => .inl ((c + i), t, n) :: lsh c T
  | .inr (.inl (k, j, v)) :: T => .inr (.inl ((c + k), j, v)) :: lsh c T
  | .inr (.inr (k, j, r)) :: T => .inr (.inr ((c + k), j, (c + r))) :: lsh c T
theorem ld_app (h : MH) (T1 : List Wr) : ∀ T2, ld (ld h T1) T2 = ld h (lsh (lcnt T1) T2 ++ T1)
  | [] => rfl
  | .inl (_, _, _) :: T => by simp only [ld, lsh, List.cons_append, ld_app h T1 T]
  | .inr (.inl (_, _, _)) :: T => by simp only [ld, lsh, List.cons_append, ld_app h T1 T, ld_t, Nat.add_assoc]
  | .inr (.inr (_, _, _)) :: T => by simp only [ld, lsh, List.cons_append, ld_app h T1 T, ld_t, Nat.add_assoc]
def stA : List Wr := [.inr (.inr (0, 10, 19)), .inr (.inr (19, 1, 22)), .inl (22, 104, 19), .inr (.inr (19, 0, 20)), .inr (.inl (20, 1, (0))), .inr (.inr (20, 0, 21)), .inl (21, 103, 16), .inl (20, 10, 0), .inl (19, 6, 0), .inr (.inr (0, 9, 17)), .inr (.inr (17, 0, 18)), .inl (18, 101, 8), .inl (17, 2, 0), .inr (.inr (0, 8, 16)), .inr (.inl (16, 6, (-1))), .inr (.inl (16, 5, (24))), .inr (.inl (16, 4, (0))), .inr (.inl (16, 3, (0))), .inr (.inl (16, 2, (24))), .inr (.inl (16, 1, (11))), .inr (.inr (16, 0, 3)), .inl (16, 4, 0), .inr (.inr (0, 7, 15)), .inr (.inl (15, 6, (-1))), .inr (.inl (15, 4, (1))), .inr (.inl (15, 6, (-1))), .inr (.inl (15, 4, (0))), .inr (.inl (15, 5, (15))), .inr (.inl (15, 6, (-1))), .inr (.inl (15, 5, (16))), .inr (.inl (15, 4, (0))), .inr (.inl (15, 3, (1))), .inr (.inl (15, 2, (16))), .inr (.inl (15, 1, (0))), .inr (.inr (15, 0, 1)), .inl (15, 4, 0), .inr (.inr (0, 5, 14)), .inr (.inl (14, 6, (-1))), .inr (.inl (14, 5, (10))), .inr (.inl (14, 4, (0))), .inr (.inl (14, 3, (0))), .inr (.inl (14, 2, (10))), .inr (.inl (14, 1, (1))), .inr (.inr (14, 0, 3)), .inl (14, 4, 0), .inr (.inr (0, 4, 11)), .inr (.inl (11, 3, (0))), .inr (.inl (13, 6, (-1))), .inr (.inl (13, 4, (0))), .inr (.inl (13, 5, (0))), .inr (.inl (13, 6, (-1))), .inr (.inl (13, 5, (6))), .inr (.inl (13, 4, (0))), .inr (.inl (12, 6, (-1))), .inr (.inl (12, 5, (6))), .inr (.inl (12, 4, (0))), .inr (.inl (11, 2, (0))), .inr (.inr (11, 1, 13)), .inr (.inl (13, 6, (-1))), .inr (.inl (13, 5, (6))), .inr (.inl (13, 4, (0))), .inr (.inl (13, 3, (1))), .inr (.inl (13, 2, (6))), .inr (.inl (13, 1, (9))), .inr (.inr (13, 0, 1)), .inl (13, 4, 0), .inr (.inr (11, 0, 12)), .inr (.inl (12, 6, (-1))), .inr (.inl (12, 5, (6))), .inr (.inl (12, 4, (0))), .inr (.inl (12, 3, (0))), .inr (.inl (12, 2, (6))), .inr (.inl (12, 1, (9))), .inr (.inr (12, 0, 1)), .inl (12, 4, 0), .inl (11, 5, 0), .inr (.inr (0, 3, 8)), .inr (.inl (8, 3, (0))), .inr (.inl (10, 6, (-1))), .inr (.inl (10, 4, (0))), .inr (.inl (10, 5, (0))), .inr (.inl (10, 6, (-1))), .inr (.inl (10, 5, (3))), .inr (.inl (10, 4, (0))), .inr (.inl (9, 6, (-1))), .inr (.inl (9, 5, (3))), .inr (.inl (9, 4, (0))), .inr (.inl (8, 2, (1))), .inr (.inr (8, 1, 10)), .inr (.inl (10, 6, (-1))), .inr (.inl (10, 5, (3))), .inr (.inl (10, 4, (0))), .inr (.inl (10, 3, (1))), .inr (.inl (10, 2, (3))), .inr (.inl (10, 1, (6))), .inr (.inr (10, 0, 1)), .inl (10, 4, 0), .inr (.inr (8, 0, 9)), .inr (.inl (9, 6, (-1))), .inr (.inl (9, 5, (3))), .inr (.inl (9, 4, (0))), .inr (.inl (9, 3, (0))), .inr (.inl (9, 2, (3))), .inr (.inl (9, 1, (6))), .inr (.inr (9, 0, 1)), .inl (9, 4, 0), .inl (8, 5, 0), .inr (.inr (0, 2, 5)), .inr (.inl (5, 3, (0))), .inr (.inl (7, 6, (-1))), .inr (.inl (7, 4, (0))), .inr (.inl (7, 5, (0))), .inr (.inl (7, 6, (-1))), .inr (.inl (7, 5, (5))), .inr (.inl (7, 4, (0))), .inr (.inl (6, 6, (-1))), .inr (.inl (6, 5, (5))), .inr (.inl (6, 4, (0))), .inr (.inl (5, 2, (1))), .inr (.inr (5, 1, 7)), .inr (.inl (7, 6, (-1))), .inr (.inl (7, 5, (5))), .inr (.inl (7, 4, (0))), .inr (.inl (7, 3, (1))), .inr (.inl (7, 2, (5))), .inr (.inl (7, 1, (1))), .inr (.inr (7, 0, 1)), .inl (7, 4, 0), .inr (.inr (5, 0, 6)), .inr (.inl (6, 6, (-1))), .inr (.inl (6, 5, (5))), .inr (.inl (6, 4, (0))), .inr (.inl (6, 3, (0))), .inr (.inl (6, 2, (5))), .inr (.inl (6, 1, (1))), .inr (.inr (6, 0, 1)), .inl (6, 4, 0), .inl (5, 5, 0), .inr (.inr (0, 1, 3)), .inr (.inr (3, 0, 4)), .inl (4, 102, 36), .inl (3, 3, 0), .inr (.inr (0, 0, 1)), .inr (.inr (1, 0, 2)), .inl (2, 102, 16), .inl (1, 3, 0), .inl (0, 7, 0)]
def stB : List Wr := [.inr (.inl (16, 3, (0))), .inr (.inr (7, 1, 16)), .inr (.inl (16, 4, (24))), .inr (.inl (16, 2, (0))), .inr (.inl (16, 1, (24))), .inr (.inl (16, 0, (11))), .inr (.inl (16, 5, (-1))), .inl (16, 8, 0), .inr (.inl (15, 3, (1))), .inr (.inr (7, 0, 15)), .inr (.inl (15, 4, (15))), .inr (.inl (15, 2, (1))), .inr (.inl (15, 1, (16))), .inr (.inl (15, 0, (0))), .inr (.inl (15, 5, (-1))), .inl (15, 8, 0), .inr (.inl (5, 2, (0))), .inr (.inr (4, 2, 14)), .inr (.inl (14, 4, (0))), .inr (.inl (14, 2, (1))), .inr (.inl (14, 1, (6))), .inr (.inl (14, 0, (9))), .inr (.inl (14, 5, (-1))), .inl (14, 8, 0), .inr (.inr (3, 2, 13)), .inr (.inl (13, 4, (6))), .inr (.inl (13, 2, (0))), .inr (.inl (13, 1, (6))), .inr (.inl (13, 0, (9))), .inr (.inl (13, 5, (-1))), .inl (13, 8, 0), .inr (.inl (5, 1, (0))), .inr (.inr (4, 1, 12)), .inr (.inl (12, 4, (0))), .inr (.inl (12, 2, (1))), .inr (.inl (12, 1, (3))), .inr (.inl (12, 0, (6))), .inr (.inl (12, 5, (-1))), .inl (12, 8, 0), .inr (.inr (3, 1, 11)), .inr (.inl (11, 4, (3))), .inr (.inl (11, 2, (0))), .inr (.inl (11, 1, (3))), .inr (.inl (11, 0, (6))), .inr (.inl (11, 5, (-1))), .inl (11, 8, 0), .inr (.inl (5, 0, (0))), .inr (.inr (4, 0, 10)), .inr (.inl (10, 4, (0))), .inr (.inl (10, 2, (1))), .inr (.inl (10, 1, (5))), .inr (.inl (10, 0, (1))), .inr (.inl (10, 5, (-1))), .inl (10, 8, 0), .inr (.inr (3, 0, 9)), .inr (.inl (9, 4, (5))), .inr (.inl (9, 2, (0))), .inr (.inl (9, 1, (5))), .inr (.inl (9, 0, (1))), .inr (.inl (9, 5, (-1))), .inl (9, 8, 0), .inr (.inr (0, 8, 8)), .inl (8, 101, 8), .inr (.inr (0, 7, 7)), .inl (7, 106, 2), .inr (.inr (0, 5, 6)), .inr (.inl (6, 4, (10))), .inr (.inl (6, 2, (0))), .inr (.inl (6, 1, (10))), .inr (.inl (6, 0, (1))), .inr (.inl (6, 5, (-1))), .inl (6, 8, 0), .inr (.inr (0, 4, 5)), .inl (5, 105, 3), .inr (.inr (0, 3, 4)), .inl (4, 106, 3), .inr (.inr (0, 2, 3)), .inl (3, 106, 3), .inr (.inr (0, 1, 2)), .inl (2, 101, 36), .inr (.inr (0, 0, 1)), .inl (1, 102, 16), .inl (0, 9, 0)]
theorem st_tbp : tb_p = 8 := id rfl
theorem st_20 : ((2 : Int32) = 0) = False := by decide
theorem st_21 : ((2 : Int32) = 1) = False := by decide
theorem st_v2_0 : vp_in 0 2 = True := by
  apply eq_true
  unfold vp_in
  decide
theorem st_v2_1 : vp_in 1 2 = True := by
  apply eq_true
  unfold vp_in
  decide
theorem st_v3_0 : vp_in 0 3 = True := by
  apply eq_true
  unfold vp_in
  decide
theorem st_v3_1 : vp_in 1 3 = True := by
  apply eq_true
  unfold vp_in
  decide
theorem st_v3_2 : vp_in 2 3 = True := by
  apply eq_true
  unfold vp_in
  decide

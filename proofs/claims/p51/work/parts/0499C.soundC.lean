section
/-! every step of the small machine is one of the large one -/
section SXL
variable {l : Launch} {base : Nat} {D : va_G} {cA : Nat → ClassId} {h0 : MH}
variable {Y pc : Nat} {loc stk : List Value} {h : MH} {bc bs : Nat} {Q : MR → MH → Prop}
variable {X : MX} {loc' stk' rest as : List Value} {h' : MH} {c : Prop} {pc' n Z mcZ msZ E : Nat} {v : Option Value} {alts : List (Prop × Nat)}
theorem Fi_nx (k : Fi X Y pc loc h bc bs Q (s_nx c pc' loc' stk' h')) : c ∧ X Y pc' loc' stk' h' bc bs Q := ⟨k.1, k.2.2.2⟩
theorem Fi_al (k : Fi X Y pc loc h bc bs Q (s_al c n pc' loc' stk' h')) : c ∧ 1 ≤ bc ∧ n ≤ bs ∧ X Y pc' loc' stk' h' (bc - 1) (bs - n) Q := k
theorem Fi_br (k : Fi X Y pc loc h bc bs Q (s_br c alts loc' stk')) : c ∧ ∀ q ∈ alts, q.1 → X Y q.2 loc' stk' h bc bs Q := k
theorem Fi_ca (k : Fi X Y pc loc h bc bs Q (s_ca c Z mcZ msZ as pc' rest)) : c ∧ mcZ ≤ bc ∧ msZ ≤ bs ∧ ((ent as).length ≤ tb_m Z ∧ tb_d Z + 1 ≤ tb_d Y) ∧ (rest.map (fun v => v.category)).sum ≤ 8 ∧ X Z 0 (entN (tb_m Z) as) [] h mcZ msZ (Kc X Y pc pc' loc rest (bc - mcZ) (bs - msZ) Q) := k
theorem Fi_re (k : Fi X Y pc loc h bc bs Q (s_re c v)) : c ∧ Q (.inl v) h := k
theorem Fi_th (k : Fi X Y pc loc h bc bs Q (s_th c E)) : c ∧ 1 ≤ bc ∧ 6 ≤ bs ∧ ∀ t : Nat, g_t h ≤ t → Q (.inr E) (p_T h t) := k
theorem SX_rk (k : 11 ≤ tb_d Y → SX l base D cA h0 Y pc loc stk h bc bs Q) : SX l base D cA h0 Y pc loc stk h bc bs Q :=
  fun p e R s m args below meth c H locs cells slots mc ms ls S => k S.2.2.2.2.1 p e R s m args below meth c H locs cells slots mc ms ls S
theorem tF_kd {q tag k kd fin : Nat} (hf : tF q = some (tag, k, kd, fin)) : fkd tag k = kd := by
  obtain ⟨x, hx9⟩ := tF_mem hf
  have hok := List.all_eq_true.mp okF_all _ hx9
  simp only [okF] at hok
  cases hcl : cls[tag - 1]? with
  | none => rw [hcl] at hok; cases hok
  | some r =>
    rw [hcl] at hok
    simp only [Bool.and_eq_true, decide_eq_true_eq] at hok
    exact hok.1.2.2.2.1
theorem fit_k {kd : Nat} {v : Int32} (h1 : ¬ kd = 1) (h2 : ¬ kd = 2) (hk : kok kd v) (t : FieldType) (ht : tyk kd (some t) = true) : narrow t (.int v) = .int v ∧ fits t (.int v) = true := by
  match kd, h1, h2, hk, ht with
  | 0, _, _, _, ht => cases t <;> first | exact ⟨rfl, rfl⟩ | cases ht
  | 3, _, _, hk, ht =>
    rcases hk.1 rfl with rfl | rfl <;> cases t <;> first | exact ⟨rfl, rfl⟩ | cases ht
  | 4, _, _, hk, ht =>
    obtain ⟨z1, z2⟩ := hk.2.1 rfl
    have z3 := Int32.le_iff_toInt_le.mp z1
    have z4 := Int32.le_iff_toInt_le.mp z2
    cases t <;> first | cases ht | skip
    refine ⟨?_, ?_⟩
    · show Value.int v.toInt8.toInt32 = .int v
      rw [lg_i2b_small (v := v) (by exact z3) (by have : (127 : Int32).toInt = 127 := rfl; omega)]
    · simp [fits, z1, z2]
  | 1, h1, _, _, _ => exact absurd rfl h1
  | 2, _, h2, _, _ => exact absurd rfl h2
  | k + 5, _, _, _, ht => cases ht
theorem fx_iconst {n : Int} {len : Nat} (hd : decode (tb_b Y) pc = .ok (.iconst n, len)) (hg : gd pc (.iconst n) = true) (hF : Fi (SX l base D cA h0) Y pc loc h bc bs Q (stp Y pc (.iconst n) len loc stk h)) : SX l base D cA h0 Y pc loc stk h bc bs Q := by
  dsimp only [stp] at hF
  obtain ⟨rfl, k⟩ := Fi_nx hF
  exact sx_iconst hd k
theorem fx_bipush {n : Int} {len : Nat} (hd : decode (tb_b Y) pc = .ok (.bipush n, len)) (hg : gd pc (.bipush n) = true) (hF : Fi (SX l base D cA h0) Y pc loc h bc bs Q (stp Y pc (.bipush n) len loc stk h)) : SX l base D cA h0 Y pc loc stk h bc bs Q := by
  dsimp only [stp] at hF
  obtain ⟨rfl, k⟩ := Fi_nx hF
  exact sx_bipush hd k
theorem fx_sipush {n : Int} {len : Nat} (hd : decode (tb_b Y) pc = .ok (.sipush n, len)) (hg : gd pc (.sipush n) = true) (hF : Fi (SX l base D cA h0) Y pc loc h bc bs Q (stp Y pc (.sipush n) len loc stk h)) : SX l base D cA h0 Y pc loc stk h bc bs Q := by
  dsimp only [stp] at hF
  obtain ⟨rfl, k⟩ := Fi_nx hF
  exact sx_sipush hd k
theorem fx_lconst {n : Fin 2} {len : Nat} (hd : decode (tb_b Y) pc = .ok (.lconst n, len)) (hg : gd pc (.lconst n) = true) (hF : Fi (SX l base D cA h0) Y pc loc h bc bs Q (stp Y pc (.lconst n) len loc stk h)) : SX l base D cA h0 Y pc loc stk h bc bs Q := by
  dsimp only [stp] at hF
  obtain ⟨rfl, k⟩ := Fi_nx hF
  exact sx_lconst hd k
theorem fx_null  {len : Nat} (hd : decode (tb_b Y) pc = .ok (.aconst_null, len)) (hg : gd pc (.aconst_null) = true) (hF : Fi (SX l base D cA h0) Y pc loc h bc bs Q (stp Y pc (.aconst_null) len loc stk h)) : SX l base D cA h0 Y pc loc stk h bc bs Q := by
  dsimp only [stp] at hF
  obtain ⟨rfl, k⟩ := Fi_nx hF
  exact sx_null hd k
theorem fx_iload_n {j : Fin 4} {len : Nat} (hd : decode (tb_b Y) pc = .ok (.iload_n j, len)) (hg : gd pc (.iload_n j) = true) (hF : Fi (SX l base D cA h0) Y pc loc h bc bs Q (stp Y pc (.iload_n j) len loc stk h)) : SX l base D cA h0 Y pc loc stk h bc bs Q := by
  dsimp only [stp, s_ldI] at hF
  split at hF
  · rename_i x hx
    obtain ⟨rfl, k⟩ := Fi_nx hF
    exact sx_iload_n hx hd k
  · exact hF.1.elim
theorem fx_iload {j : Nat} {len : Nat} (hd : decode (tb_b Y) pc = .ok (.iload j, len)) (hg : gd pc (.iload j) = true) (hF : Fi (SX l base D cA h0) Y pc loc h bc bs Q (stp Y pc (.iload j) len loc stk h)) : SX l base D cA h0 Y pc loc stk h bc bs Q := by
  dsimp only [stp, s_ldI] at hF
  split at hF
  · rename_i x hx
    obtain ⟨rfl, k⟩ := Fi_nx hF
    exact sx_iload hx hd k
  · exact hF.1.elim
theorem fx_lload_n {j : Fin 4} {len : Nat} (hd : decode (tb_b Y) pc = .ok (.lload_n j, len)) (hg : gd pc (.lload_n j) = true) (hF : Fi (SX l base D cA h0) Y pc loc h bc bs Q (stp Y pc (.lload_n j) len loc stk h)) : SX l base D cA h0 Y pc loc stk h bc bs Q := by
  dsimp only [stp, s_ldL] at hF
  split at hF
  · rename_i x hx
    obtain ⟨rfl, k⟩ := Fi_nx hF
    exact sx_lload_n hx hd k
  · exact hF.1.elim
theorem fx_lload {j : Nat} {len : Nat} (hd : decode (tb_b Y) pc = .ok (.lload j, len)) (hg : gd pc (.lload j) = true) (hF : Fi (SX l base D cA h0) Y pc loc h bc bs Q (stp Y pc (.lload j) len loc stk h)) : SX l base D cA h0 Y pc loc stk h bc bs Q := by
  dsimp only [stp, s_ldL] at hF
  split at hF
  · rename_i x hx
    obtain ⟨rfl, k⟩ := Fi_nx hF
    exact sx_lload hx hd k
  · exact hF.1.elim
theorem fx_aload_n {j : Fin 4} {len : Nat} (hd : decode (tb_b Y) pc = .ok (.aload_n j, len)) (hg : gd pc (.aload_n j) = true) (hF : Fi (SX l base D cA h0) Y pc loc h bc bs Q (stp Y pc (.aload_n j) len loc stk h)) : SX l base D cA h0 Y pc loc stk h bc bs Q := by
  dsimp only [stp, s_ldA] at hF
  split at hF
  · rename_i x hx
    obtain ⟨rfl, k⟩ := Fi_nx hF
    exact sx_aload_n hx hd k
  · rename_i hx
    obtain ⟨rfl, k⟩ := Fi_nx hF
    exact sx_aload_nN hx hd k
  · exact hF.1.elim
theorem fx_istore_n {j : Fin 4} {len : Nat} (hd : decode (tb_b Y) pc = .ok (.istore_n j, len)) (hg : gd pc (.istore_n j) = true) (hF : Fi (SX l base D cA h0) Y pc loc h bc bs Q (stp Y pc (.istore_n j) len loc stk h)) : SX l base D cA h0 Y pc loc stk h bc bs Q := by
  dsimp only [stp, s_stI] at hF
  split at hF
  · obtain ⟨⟨rfl, hi⟩, k⟩ := Fi_nx hF
    exact sx_istore_n hi hd k
  · exact hF.1.elim
theorem fx_lstore_n {j : Fin 4} {len : Nat} (hd : decode (tb_b Y) pc = .ok (.lstore_n j, len)) (hg : gd pc (.lstore_n j) = true) (hF : Fi (SX l base D cA h0) Y pc loc h bc bs Q (stp Y pc (.lstore_n j) len loc stk h)) : SX l base D cA h0 Y pc loc stk h bc bs Q := by
  dsimp only [stp, s_stL] at hF
  split at hF
  · obtain ⟨⟨rfl, hi⟩, k⟩ := Fi_nx hF
    exact sx_lstore_n hi hd k
  · exact hF.1.elim
theorem fx_astore_n {j : Fin 4} {len : Nat} (hd : decode (tb_b Y) pc = .ok (.astore_n j, len)) (hg : gd pc (.astore_n j) = true) (hF : Fi (SX l base D cA h0) Y pc loc h bc bs Q (stp Y pc (.astore_n j) len loc stk h)) : SX l base D cA h0 Y pc loc stk h bc bs Q := by
  dsimp only [stp, s_stA] at hF
  split at hF
  · obtain ⟨⟨rfl, hi⟩, k⟩ := Fi_nx hF
    exact sx_astore_n hi hd k
  · obtain ⟨⟨rfl, hi⟩, k⟩ := Fi_nx hF
    exact sx_astore_nN hi hd k
  · exact hF.1.elim
theorem fx_aload {j : Nat} {len : Nat} (hd : decode (tb_b Y) pc = .ok (.aload j, len)) (hg : gd pc (.aload j) = true) (hF : Fi (SX l base D cA h0) Y pc loc h bc bs Q (stp Y pc (.aload j) len loc stk h)) : SX l base D cA h0 Y pc loc stk h bc bs Q := by
  dsimp only [stp, s_ldA] at hF
  split at hF
  · rename_i x hx
    obtain ⟨rfl, k⟩ := Fi_nx hF
    exact sx_aload hx hd k
  · rename_i hx
    obtain ⟨rfl, k⟩ := Fi_nx hF
    exact sx_aloadN hx hd k
  · exact hF.1.elim
theorem fx_istore {j : Nat} {len : Nat} (hd : decode (tb_b Y) pc = .ok (.istore j, len)) (hg : gd pc (.istore j) = true) (hF : Fi (SX l base D cA h0) Y pc loc h bc bs Q (stp Y pc (.istore j) len loc stk h)) : SX l base D cA h0 Y pc loc stk h bc bs Q := by
  dsimp only [stp, s_stI] at hF
  split at hF
  · obtain ⟨⟨rfl, hi⟩, k⟩ := Fi_nx hF
    exact sx_istore hi hd k
  · exact hF.1.elim
theorem fx_lstore {j : Nat} {len : Nat} (hd : decode (tb_b Y) pc = .ok (.lstore j, len)) (hg : gd pc (.lstore j) = true) (hF : Fi (SX l base D cA h0) Y pc loc h bc bs Q (stp Y pc (.lstore j) len loc stk h)) : SX l base D cA h0 Y pc loc stk h bc bs Q := by
  dsimp only [stp, s_stL] at hF
  split at hF
  · obtain ⟨⟨rfl, hi⟩, k⟩ := Fi_nx hF
    exact sx_lstore hi hd k
  · exact hF.1.elim
theorem fx_astore {j : Nat} {len : Nat} (hd : decode (tb_b Y) pc = .ok (.astore j, len)) (hg : gd pc (.astore j) = true) (hF : Fi (SX l base D cA h0) Y pc loc h bc bs Q (stp Y pc (.astore j) len loc stk h)) : SX l base D cA h0 Y pc loc stk h bc bs Q := by
  dsimp only [stp, s_stA] at hF
  split at hF
  · obtain ⟨⟨rfl, hi⟩, k⟩ := Fi_nx hF
    exact sx_astore hi hd k
  · obtain ⟨⟨rfl, hi⟩, k⟩ := Fi_nx hF
    exact sx_astoreN hi hd k
  · exact hF.1.elim
theorem fx_iinc {i : Nat} {n : Int} {len : Nat} (hd : decode (tb_b Y) pc = .ok (.iinc i n, len)) (hg : gd pc (.iinc i n) = true) (hF : Fi (SX l base D cA h0) Y pc loc h bc bs Q (stp Y pc (.iinc i n) len loc stk h)) : SX l base D cA h0 Y pc loc stk h bc bs Q := by
  dsimp only [stp] at hF
  split at hF
  · rename_i x hx
    obtain ⟨⟨rfl, hi⟩, k⟩ := Fi_nx hF
    exact sx_iinc hi hx hd k
  · exact hF.1.elim
theorem fx_iadd  {len : Nat} (hd : decode (tb_b Y) pc = .ok (.iadd, len)) (hg : gd pc (.iadd) = true) (hF : Fi (SX l base D cA h0) Y pc loc h bc bs Q (stp Y pc (.iadd) len loc stk h)) : SX l base D cA h0 Y pc loc stk h bc bs Q := by
  dsimp only [stp, s_bin] at hF
  split at hF
  · obtain ⟨rfl, k⟩ := Fi_nx hF
    exact sx_iadd hd k
  · exact hF.1.elim
theorem fx_isub  {len : Nat} (hd : decode (tb_b Y) pc = .ok (.isub, len)) (hg : gd pc (.isub) = true) (hF : Fi (SX l base D cA h0) Y pc loc h bc bs Q (stp Y pc (.isub) len loc stk h)) : SX l base D cA h0 Y pc loc stk h bc bs Q := by
  dsimp only [stp, s_bin] at hF
  split at hF
  · obtain ⟨rfl, k⟩ := Fi_nx hF
    exact sx_isub hd k
  · exact hF.1.elim
theorem fx_imul  {len : Nat} (hd : decode (tb_b Y) pc = .ok (.imul, len)) (hg : gd pc (.imul) = true) (hF : Fi (SX l base D cA h0) Y pc loc h bc bs Q (stp Y pc (.imul) len loc stk h)) : SX l base D cA h0 Y pc loc stk h bc bs Q := by
  dsimp only [stp, s_bin] at hF
  split at hF
  · obtain ⟨rfl, k⟩ := Fi_nx hF
    exact sx_imul hd k
  · exact hF.1.elim
theorem fx_iand  {len : Nat} (hd : decode (tb_b Y) pc = .ok (.iand, len)) (hg : gd pc (.iand) = true) (hF : Fi (SX l base D cA h0) Y pc loc h bc bs Q (stp Y pc (.iand) len loc stk h)) : SX l base D cA h0 Y pc loc stk h bc bs Q := by
  dsimp only [stp, s_bin] at hF
  split at hF
  · obtain ⟨rfl, k⟩ := Fi_nx hF
    exact sx_iand hd k
  · exact hF.1.elim
theorem fx_ior  {len : Nat} (hd : decode (tb_b Y) pc = .ok (.ior, len)) (hg : gd pc (.ior) = true) (hF : Fi (SX l base D cA h0) Y pc loc h bc bs Q (stp Y pc (.ior) len loc stk h)) : SX l base D cA h0 Y pc loc stk h bc bs Q := by
  dsimp only [stp, s_bin] at hF
  split at hF
  · obtain ⟨rfl, k⟩ := Fi_nx hF
    exact sx_ior hd k
  · exact hF.1.elim
theorem fx_ixor  {len : Nat} (hd : decode (tb_b Y) pc = .ok (.ixor, len)) (hg : gd pc (.ixor) = true) (hF : Fi (SX l base D cA h0) Y pc loc h bc bs Q (stp Y pc (.ixor) len loc stk h)) : SX l base D cA h0 Y pc loc stk h bc bs Q := by
  dsimp only [stp, s_bin] at hF
  split at hF
  · obtain ⟨rfl, k⟩ := Fi_nx hF
    exact sx_ixor hd k
  · exact hF.1.elim
theorem fx_ishl  {len : Nat} (hd : decode (tb_b Y) pc = .ok (.ishl, len)) (hg : gd pc (.ishl) = true) (hF : Fi (SX l base D cA h0) Y pc loc h bc bs Q (stp Y pc (.ishl) len loc stk h)) : SX l base D cA h0 Y pc loc stk h bc bs Q := by
  dsimp only [stp, s_bin] at hF
  split at hF
  · obtain ⟨rfl, k⟩ := Fi_nx hF
    exact sx_ishl hd k
  · exact hF.1.elim
theorem fx_ishr  {len : Nat} (hd : decode (tb_b Y) pc = .ok (.ishr, len)) (hg : gd pc (.ishr) = true) (hF : Fi (SX l base D cA h0) Y pc loc h bc bs Q (stp Y pc (.ishr) len loc stk h)) : SX l base D cA h0 Y pc loc stk h bc bs Q := by
  dsimp only [stp, s_bin] at hF
  split at hF
  · obtain ⟨rfl, k⟩ := Fi_nx hF
    exact sx_ishr hd k
  · exact hF.1.elim
theorem fx_iushr  {len : Nat} (hd : decode (tb_b Y) pc = .ok (.iushr, len)) (hg : gd pc (.iushr) = true) (hF : Fi (SX l base D cA h0) Y pc loc h bc bs Q (stp Y pc (.iushr) len loc stk h)) : SX l base D cA h0 Y pc loc stk h bc bs Q := by
  dsimp only [stp, s_bin] at hF
  split at hF
  · obtain ⟨rfl, k⟩ := Fi_nx hF
    exact sx_iushr hd k
  · exact hF.1.elim
theorem fx_ladd  {len : Nat} (hd : decode (tb_b Y) pc = .ok (.ladd, len)) (hg : gd pc (.ladd) = true) (hF : Fi (SX l base D cA h0) Y pc loc h bc bs Q (stp Y pc (.ladd) len loc stk h)) : SX l base D cA h0 Y pc loc stk h bc bs Q := by
  dsimp only [stp, s_binL] at hF
  split at hF
  · obtain ⟨rfl, k⟩ := Fi_nx hF
    exact sx_ladd hd k
  · exact hF.1.elim
theorem fx_lsub  {len : Nat} (hd : decode (tb_b Y) pc = .ok (.lsub, len)) (hg : gd pc (.lsub) = true) (hF : Fi (SX l base D cA h0) Y pc loc h bc bs Q (stp Y pc (.lsub) len loc stk h)) : SX l base D cA h0 Y pc loc stk h bc bs Q := by
  dsimp only [stp, s_binL] at hF
  split at hF
  · obtain ⟨rfl, k⟩ := Fi_nx hF
    exact sx_lsub hd k
  · exact hF.1.elim
theorem fx_lmul  {len : Nat} (hd : decode (tb_b Y) pc = .ok (.lmul, len)) (hg : gd pc (.lmul) = true) (hF : Fi (SX l base D cA h0) Y pc loc h bc bs Q (stp Y pc (.lmul) len loc stk h)) : SX l base D cA h0 Y pc loc stk h bc bs Q := by
  dsimp only [stp, s_binL] at hF
  split at hF
  · obtain ⟨rfl, k⟩ := Fi_nx hF
    exact sx_lmul hd k
  · exact hF.1.elim
theorem fx_land  {len : Nat} (hd : decode (tb_b Y) pc = .ok (.land, len)) (hg : gd pc (.land) = true) (hF : Fi (SX l base D cA h0) Y pc loc h bc bs Q (stp Y pc (.land) len loc stk h)) : SX l base D cA h0 Y pc loc stk h bc bs Q := by
  dsimp only [stp, s_binL] at hF
  split at hF
  · obtain ⟨rfl, k⟩ := Fi_nx hF
    exact sx_land hd k
  · exact hF.1.elim
theorem fx_lor  {len : Nat} (hd : decode (tb_b Y) pc = .ok (.lor, len)) (hg : gd pc (.lor) = true) (hF : Fi (SX l base D cA h0) Y pc loc h bc bs Q (stp Y pc (.lor) len loc stk h)) : SX l base D cA h0 Y pc loc stk h bc bs Q := by
  dsimp only [stp, s_binL] at hF
  split at hF
  · obtain ⟨rfl, k⟩ := Fi_nx hF
    exact sx_lor hd k
  · exact hF.1.elim
theorem fx_lxor  {len : Nat} (hd : decode (tb_b Y) pc = .ok (.lxor, len)) (hg : gd pc (.lxor) = true) (hF : Fi (SX l base D cA h0) Y pc loc h bc bs Q (stp Y pc (.lxor) len loc stk h)) : SX l base D cA h0 Y pc loc stk h bc bs Q := by
  dsimp only [stp, s_binL] at hF
  split at hF
  · obtain ⟨rfl, k⟩ := Fi_nx hF
    exact sx_lxor hd k
  · exact hF.1.elim
theorem fx_lshl  {len : Nat} (hd : decode (tb_b Y) pc = .ok (.lshl, len)) (hg : gd pc (.lshl) = true) (hF : Fi (SX l base D cA h0) Y pc loc h bc bs Q (stp Y pc (.lshl) len loc stk h)) : SX l base D cA h0 Y pc loc stk h bc bs Q := by
  dsimp only [stp, s_shL] at hF
  split at hF
  · obtain ⟨rfl, k⟩ := Fi_nx hF
    exact sx_lshl hd k
  · exact hF.1.elim
theorem fx_lshr  {len : Nat} (hd : decode (tb_b Y) pc = .ok (.lshr, len)) (hg : gd pc (.lshr) = true) (hF : Fi (SX l base D cA h0) Y pc loc h bc bs Q (stp Y pc (.lshr) len loc stk h)) : SX l base D cA h0 Y pc loc stk h bc bs Q := by
  dsimp only [stp, s_shL] at hF
  split at hF
  · obtain ⟨rfl, k⟩ := Fi_nx hF
    exact sx_lshr hd k
  · exact hF.1.elim
theorem fx_lushr  {len : Nat} (hd : decode (tb_b Y) pc = .ok (.lushr, len)) (hg : gd pc (.lushr) = true) (hF : Fi (SX l base D cA h0) Y pc loc h bc bs Q (stp Y pc (.lushr) len loc stk h)) : SX l base D cA h0 Y pc loc stk h bc bs Q := by
  dsimp only [stp, s_shL] at hF
  split at hF
  · obtain ⟨rfl, k⟩ := Fi_nx hF
    exact sx_lushr hd k
  · exact hF.1.elim
theorem fx_ineg  {len : Nat} (hd : decode (tb_b Y) pc = .ok (.ineg, len)) (hg : gd pc (.ineg) = true) (hF : Fi (SX l base D cA h0) Y pc loc h bc bs Q (stp Y pc (.ineg) len loc stk h)) : SX l base D cA h0 Y pc loc stk h bc bs Q := by
  dsimp only [stp, s_un] at hF
  split at hF
  · obtain ⟨rfl, k⟩ := Fi_nx hF
    exact sx_ineg hd k
  · exact hF.1.elim
theorem fx_i2l  {len : Nat} (hd : decode (tb_b Y) pc = .ok (.i2l, len)) (hg : gd pc (.i2l) = true) (hF : Fi (SX l base D cA h0) Y pc loc h bc bs Q (stp Y pc (.i2l) len loc stk h)) : SX l base D cA h0 Y pc loc stk h bc bs Q := by
  dsimp only [stp, s_un] at hF
  split at hF
  · obtain ⟨rfl, k⟩ := Fi_nx hF
    exact sx_i2l hd k
  · exact hF.1.elim
theorem fx_i2b  {len : Nat} (hd : decode (tb_b Y) pc = .ok (.i2b, len)) (hg : gd pc (.i2b) = true) (hF : Fi (SX l base D cA h0) Y pc loc h bc bs Q (stp Y pc (.i2b) len loc stk h)) : SX l base D cA h0 Y pc loc stk h bc bs Q := by
  dsimp only [stp, s_un] at hF
  split at hF
  · obtain ⟨rfl, k⟩ := Fi_nx hF
    exact sx_i2b hd k
  · exact hF.1.elim
theorem fx_i2s  {len : Nat} (hd : decode (tb_b Y) pc = .ok (.i2s, len)) (hg : gd pc (.i2s) = true) (hF : Fi (SX l base D cA h0) Y pc loc h bc bs Q (stp Y pc (.i2s) len loc stk h)) : SX l base D cA h0 Y pc loc stk h bc bs Q := by
  dsimp only [stp, s_un] at hF
  split at hF
  · obtain ⟨rfl, k⟩ := Fi_nx hF
    exact sx_i2s hd k
  · exact hF.1.elim
theorem fx_i2c  {len : Nat} (hd : decode (tb_b Y) pc = .ok (.i2c, len)) (hg : gd pc (.i2c) = true) (hF : Fi (SX l base D cA h0) Y pc loc h bc bs Q (stp Y pc (.i2c) len loc stk h)) : SX l base D cA h0 Y pc loc stk h bc bs Q := by
  dsimp only [stp, s_un] at hF
  split at hF
  · obtain ⟨rfl, k⟩ := Fi_nx hF
    exact sx_i2c hd k
  · exact hF.1.elim
theorem fx_l2i  {len : Nat} (hd : decode (tb_b Y) pc = .ok (.l2i, len)) (hg : gd pc (.l2i) = true) (hF : Fi (SX l base D cA h0) Y pc loc h bc bs Q (stp Y pc (.l2i) len loc stk h)) : SX l base D cA h0 Y pc loc stk h bc bs Q := by
  dsimp only [stp, s_unL] at hF
  split at hF
  · obtain ⟨rfl, k⟩ := Fi_nx hF
    exact sx_l2i hd k
  · exact hF.1.elim
theorem fx_lneg  {len : Nat} (hd : decode (tb_b Y) pc = .ok (.lneg, len)) (hg : gd pc (.lneg) = true) (hF : Fi (SX l base D cA h0) Y pc loc h bc bs Q (stp Y pc (.lneg) len loc stk h)) : SX l base D cA h0 Y pc loc stk h bc bs Q := by
  dsimp only [stp, s_unL] at hF
  split at hF
  · obtain ⟨rfl, k⟩ := Fi_nx hF
    exact sx_lneg hd k
  · exact hF.1.elim
theorem fx_idiv  {len : Nat} (hd : decode (tb_b Y) pc = .ok (.idiv, len)) (hg : gd pc (.idiv) = true) (hF : Fi (SX l base D cA h0) Y pc loc h bc bs Q (stp Y pc (.idiv) len loc stk h)) : SX l base D cA h0 Y pc loc stk h bc bs Q := by
  dsimp only [stp] at hF
  split at hF
  · obtain ⟨⟨rfl, hy⟩, k⟩ := Fi_nx hF
    exact sx_idiv hy hd k
  · exact hF.1.elim
theorem fx_irem  {len : Nat} (hd : decode (tb_b Y) pc = .ok (.irem, len)) (hg : gd pc (.irem) = true) (hF : Fi (SX l base D cA h0) Y pc loc h bc bs Q (stp Y pc (.irem) len loc stk h)) : SX l base D cA h0 Y pc loc stk h bc bs Q := by
  dsimp only [stp] at hF
  split at hF
  · obtain ⟨⟨rfl, hy⟩, k⟩ := Fi_nx hF
    exact sx_irem hy hd k
  · exact hF.1.elim
theorem fx_ldiv  {len : Nat} (hd : decode (tb_b Y) pc = .ok (.ldiv, len)) (hg : gd pc (.ldiv) = true) (hF : Fi (SX l base D cA h0) Y pc loc h bc bs Q (stp Y pc (.ldiv) len loc stk h)) : SX l base D cA h0 Y pc loc stk h bc bs Q := by
  dsimp only [stp] at hF
  split at hF
  · obtain ⟨⟨rfl, hy⟩, k⟩ := Fi_nx hF
    exact sx_ldiv hy hd k
  · exact hF.1.elim
theorem fx_lrem  {len : Nat} (hd : decode (tb_b Y) pc = .ok (.lrem, len)) (hg : gd pc (.lrem) = true) (hF : Fi (SX l base D cA h0) Y pc loc h bc bs Q (stp Y pc (.lrem) len loc stk h)) : SX l base D cA h0 Y pc loc stk h bc bs Q := by
  dsimp only [stp] at hF
  split at hF
  · obtain ⟨⟨rfl, hy⟩, k⟩ := Fi_nx hF
    exact sx_lrem hy hd k
  · exact hF.1.elim
theorem fx_lcmp  {len : Nat} (hd : decode (tb_b Y) pc = .ok (.lcmp, len)) (hg : gd pc (.lcmp) = true) (hF : Fi (SX l base D cA h0) Y pc loc h bc bs Q (stp Y pc (.lcmp) len loc stk h)) : SX l base D cA h0 Y pc loc stk h bc bs Q := by
  dsimp only [stp] at hF
  split at hF
  · obtain ⟨rfl, k⟩ := Fi_nx hF
    exact sx_lcmp hd k
  · exact hF.1.elim
theorem fx_pop2  {len : Nat} (hd : decode (tb_b Y) pc = .ok (.pop2, len)) (hg : gd pc (.pop2) = true) (hF : Fi (SX l base D cA h0) Y pc loc h bc bs Q (stp Y pc (.pop2) len loc stk h)) : SX l base D cA h0 Y pc loc stk h bc bs Q := by
  dsimp only [stp] at hF
  split at hF
  · obtain ⟨rfl, k⟩ := Fi_nx hF
    exact sx_pop2 hd k
  · exact hF.1.elim
theorem fx_dup  {len : Nat} (hd : decode (tb_b Y) pc = .ok (.dup, len)) (hg : gd pc (.dup) = true) (hF : Fi (SX l base D cA h0) Y pc loc h bc bs Q (stp Y pc (.dup) len loc stk h)) : SX l base D cA h0 Y pc loc stk h bc bs Q := by
  dsimp only [stp] at hF
  split at hF
  · obtain ⟨⟨rfl, ha⟩, k⟩ := Fi_nx hF
    exact sx_dup ha hd k
  · exact hF.1.elim
theorem fx_pop  {len : Nat} (hd : decode (tb_b Y) pc = .ok (.pop, len)) (hg : gd pc (.pop) = true) (hF : Fi (SX l base D cA h0) Y pc loc h bc bs Q (stp Y pc (.pop) len loc stk h)) : SX l base D cA h0 Y pc loc stk h bc bs Q := by
  dsimp only [stp] at hF
  split at hF
  · obtain ⟨⟨rfl, ha⟩, k⟩ := Fi_nx hF
    exact sx_pop ha hd k
  · exact hF.1.elim
theorem fx_dup_x1  {len : Nat} (hd : decode (tb_b Y) pc = .ok (.dup_x1, len)) (hg : gd pc (.dup_x1) = true) (hF : Fi (SX l base D cA h0) Y pc loc h bc bs Q (stp Y pc (.dup_x1) len loc stk h)) : SX l base D cA h0 Y pc loc stk h bc bs Q := by
  dsimp only [stp] at hF
  split at hF
  · obtain ⟨⟨rfl, ha, hb⟩, k⟩ := Fi_nx hF
    exact sx_dup_x1 ha hb hd k
  · exact hF.1.elim
theorem fx_dup2  {len : Nat} (hd : decode (tb_b Y) pc = .ok (.dup2, len)) (hg : gd pc (.dup2) = true) (hF : Fi (SX l base D cA h0) Y pc loc h bc bs Q (stp Y pc (.dup2) len loc stk h)) : SX l base D cA h0 Y pc loc stk h bc bs Q := by
  dsimp only [stp] at hF
  split at hF
  · obtain ⟨⟨rfl, ha, hb⟩, k⟩ := Fi_nx hF
    exact sx_dup2 ha hb hd k
  · exact hF.1.elim
theorem fx_dup_x2  {len : Nat} (hd : decode (tb_b Y) pc = .ok (.dup_x2, len)) (hg : gd pc (.dup_x2) = true) (hF : Fi (SX l base D cA h0) Y pc loc h bc bs Q (stp Y pc (.dup_x2) len loc stk h)) : SX l base D cA h0 Y pc loc stk h bc bs Q := by
  dsimp only [stp] at hF
  split at hF
  · obtain ⟨⟨rfl, ha, hb, hc⟩, k⟩ := Fi_nx hF
    exact sx_dup_x2 ha hb hc hd k
  · exact hF.1.elim
theorem fx_if {cc : Jvm.ClassFile.Cond} {o : Int} {len : Nat} (hd : decode (tb_b Y) pc = .ok (.ifCond cc o, len)) (hg : gd pc (.ifCond cc o) = true) (hF : Fi (SX l base D cA h0) Y pc loc h bc bs Q (stp Y pc (.ifCond cc o) len loc stk h)) : SX l base D cA h0 Y pc loc stk h bc bs Q := by
  have ho : 0 ≤ (pc : Int) + o := of_decide_eq_true hg
  dsimp only [stp] at hF
  split at hF
  · obtain ⟨rfl, k⟩ := Fi_br hF
    have k1 := k _ List.mem_cons_self
    have k2 := k _ (List.mem_cons_of_mem _ List.mem_cons_self)
    cases cc
    · exact sx_if_eq ho hd k1 k2
    · exact sx_if_ne ho hd k1 k2
    · exact sx_if_lt ho hd k1 k2
    · exact sx_if_ge ho hd k1 k2
    · exact sx_if_gt ho hd k1 k2
    · exact sx_if_le ho hd k1 k2
  · exact hF.1.elim
theorem fx_ic {cc : Jvm.ClassFile.Cond} {o : Int} {len : Nat} (hd : decode (tb_b Y) pc = .ok (.if_icmp cc o, len)) (hg : gd pc (.if_icmp cc o) = true) (hF : Fi (SX l base D cA h0) Y pc loc h bc bs Q (stp Y pc (.if_icmp cc o) len loc stk h)) : SX l base D cA h0 Y pc loc stk h bc bs Q := by
  have ho : 0 ≤ (pc : Int) + o := of_decide_eq_true hg
  dsimp only [stp] at hF
  split at hF
  · obtain ⟨rfl, k⟩ := Fi_br hF
    have k1 := k _ List.mem_cons_self
    have k2 := k _ (List.mem_cons_of_mem _ List.mem_cons_self)
    cases cc
    · exact sx_ic_eq ho hd k1 k2
    · exact sx_ic_ne ho hd k1 k2
    · exact sx_ic_lt ho hd k1 k2
    · exact sx_ic_ge ho hd k1 k2
    · exact sx_ic_gt ho hd k1 k2
    · exact sx_ic_le ho hd k1 k2
  · exact hF.1.elim
theorem fx_ifnull {o : Int} {len : Nat} (hd : decode (tb_b Y) pc = .ok (.ifnull o, len)) (hg : gd pc (.ifnull o) = true) (hF : Fi (SX l base D cA h0) Y pc loc h bc bs Q (stp Y pc (.ifnull o) len loc stk h)) : SX l base D cA h0 Y pc loc stk h bc bs Q := by
  have ho : 0 ≤ (pc : Int) + o := of_decide_eq_true hg
  dsimp only [stp] at hF
  split at hF
  · obtain ⟨rfl, k⟩ := Fi_nx hF
    exact sx_ifnull hd k
  · obtain ⟨rfl, k⟩ := Fi_nx hF
    exact sx_ifnullN ho hd k
  · exact hF.1.elim
theorem fx_ifnonnull {o : Int} {len : Nat} (hd : decode (tb_b Y) pc = .ok (.ifnonnull o, len)) (hg : gd pc (.ifnonnull o) = true) (hF : Fi (SX l base D cA h0) Y pc loc h bc bs Q (stp Y pc (.ifnonnull o) len loc stk h)) : SX l base D cA h0 Y pc loc stk h bc bs Q := by
  have ho : 0 ≤ (pc : Int) + o := of_decide_eq_true hg
  dsimp only [stp] at hF
  split at hF
  · obtain ⟨rfl, k⟩ := Fi_nx hF
    exact sx_ifnonnull ho hd k
  · obtain ⟨rfl, k⟩ := Fi_nx hF
    exact sx_ifnonnullN hd k
  · exact hF.1.elim
theorem fx_goto {o : Int} {len : Nat} (hd : decode (tb_b Y) pc = .ok (.goto o, len)) (hg : gd pc (.goto o) = true) (hF : Fi (SX l base D cA h0) Y pc loc h bc bs Q (stp Y pc (.goto o) len loc stk h)) : SX l base D cA h0 Y pc loc stk h bc bs Q := by
  have ho : 0 ≤ (pc : Int) + o := of_decide_eq_true hg
  dsimp only [stp] at hF
  obtain ⟨rfl, k⟩ := Fi_nx hF
  exact sx_goto ho hd k
theorem fx_ts {d lo hi : Int} {os : Array Int} {len : Nat} (hd : decode (tb_b Y) pc = .ok (.tableswitch d lo hi os, len)) (hg : gd pc (.tableswitch d lo hi os) = true) (hF : Fi (SX l base D cA h0) Y pc loc h bc bs Q (stp Y pc (.tableswitch d lo hi os) len loc stk h)) : SX l base D cA h0 Y pc loc stk h bc bs Q := by
  simp only [gd, Bool.and_eq_true, List.all_eq_true, decide_eq_true_eq] at hg
  dsimp only [stp] at hF
  split at hF
  · obtain ⟨⟨h1, h2⟩, k⟩ := Fi_br hF
    exact sx_ts hd h2 hg.1 hg.2 k
  · exact hF.1.elim
theorem fx_lk {d : Int} {ps : Array (Int × Int)} {len : Nat} (hd : decode (tb_b Y) pc = .ok (.lookupswitch d ps, len)) (hg : gd pc (.lookupswitch d ps) = true) (hF : Fi (SX l base D cA h0) Y pc loc h bc bs Q (stp Y pc (.lookupswitch d ps) len loc stk h)) : SX l base D cA h0 Y pc loc stk h bc bs Q := by
  simp only [gd, Bool.and_eq_true, List.all_eq_true, decide_eq_true_eq] at hg
  dsimp only [stp] at hF
  split at hF
  · obtain ⟨h1, k⟩ := Fi_br hF
    exact sx_lk hd h1 hg.1 hg.2 k
  · exact hF.1.elim
theorem fx_getfield {idx : Nat} {len : Nat} (hd : decode (tb_b Y) pc = .ok (.getfield idx, len)) (hg : gd pc (.getfield idx) = true) (hF : Fi (SX l base D cA h0) Y pc loc h bc bs Q (stp Y pc (.getfield idx) len loc stk h)) : SX l base D cA h0 Y pc loc stk h bc bs Q := by
  have hidx : idx < 65536 := Nat.lt_succ_of_le (Nat.le_of_ble_eq_true hg)
  dsimp only [stp, s_gf, s_gf2] at hF
  split at hF
  · rename_i hf
    obtain ⟨⟨rfl, hc⟩, k⟩ := Fi_nx hF
    exact sx_gf hd hf hidx hc rfl k
  · exact hF.1.elim
theorem fx_putfield {idx : Nat} {len : Nat} (hd : decode (tb_b Y) pc = .ok (.putfield idx, len)) (hg : gd pc (.putfield idx) = true) (hF : Fi (SX l base D cA h0) Y pc loc h bc bs Q (stp Y pc (.putfield idx) len loc stk h)) : SX l base D cA h0 Y pc loc stk h bc bs Q := by
  have hidx : idx < 65536 := Nat.lt_succ_of_le (Nat.le_of_ble_eq_true hg)
  dsimp only [stp, s_pf, s_pf2] at hF
  split at hF
  · rename_i tag kk kd fin v a st hf
    obtain ⟨⟨rfl, hc, hz, hk, h1, h2, hi⟩, k⟩ := Fi_nx hF
    have hfk := tF_kd hf
    exact sx_pf hd hf hidx hc hz hi (fit_k h1 h2 hk) sameB_i (by rw [fv_i hfk h1 h2, i_pi, if_pos ⟨rfl, rfl⟩]) (fun j hj => by unfold fv; simp [i_pi, l_pi, r_pi, hj]) k
  · rename_i tag kk kd fin v a st hf
    obtain ⟨⟨rfl, hc, hz, rfl, hi⟩, k⟩ := Fi_nx hF
    have hfk := tF_kd hf
    exact sx_pf hd hf hidx hc hz hi (fun t ht => by cases t <;> first | exact ⟨rfl, rfl⟩ | cases ht) sameB_l (by rw [fv_l hfk, l_pl, if_pos ⟨rfl, rfl⟩]) (fun j hj => by unfold fv; simp [i_pl, l_pl, r_pl, hj]) k
  · rename_i tag kk kd fin v a st hf
    obtain ⟨⟨rfl, hc, hz, rfl, hi⟩, k⟩ := Fi_nx hF
    have hfk := tF_kd hf
    exact sx_pf hd hf hidx hc hz hi (fun t ht => by cases t <;> first | exact ⟨rfl, rfl⟩ | cases ht) sameB_r (by rw [fv_r hfk, r_pr, if_pos ⟨rfl, rfl⟩]; rfl) (fun j hj => by unfold fv; simp [i_pr, l_pr, r_pr, hj]) k
  · exact hF.1.elim
theorem fx_getstatic {idx : Nat} {len : Nat} (hd : decode (tb_b Y) pc = .ok (.getstatic idx, len)) (hg : gd pc (.getstatic idx) = true) (hF : Fi (SX l base D cA h0) Y pc loc h bc bs Q (stp Y pc (.getstatic idx) len loc stk h)) : SX l base D cA h0 Y pc loc stk h bc bs Q := by
  have hidx : idx < 65536 := Nat.lt_succ_of_le (Nat.le_of_ble_eq_true hg)
  dsimp only [stp] at hF
  split at hF
  · rename_i hf
    obtain ⟨rfl, k⟩ := Fi_nx hF
    exact sx_gets hd hf hidx k
  · rename_i hf
    obtain ⟨rfl, k⟩ := Fi_nx hF
    exact sx_gets hd hf hidx k
  · exact hF.1.elim
theorem fx_ldc {idx : Nat} {len : Nat} (hd : decode (tb_b Y) pc = .ok (.ldc idx, len)) (hg : gd pc (.ldc idx) = true) (hF : Fi (SX l base D cA h0) Y pc loc h bc bs Q (stp Y pc (.ldc idx) len loc stk h)) : SX l base D cA h0 Y pc loc stk h bc bs Q := by
  have hidx : idx < 65536 := Nat.lt_succ_of_le (Nat.le_of_ble_eq_true hg)
  dsimp only [stp] at hF
  split at hF
  · rename_i hf
    obtain ⟨rfl, k⟩ := Fi_nx hF
    exact sx_ldcI hd hf hidx k
  · rename_i hf
    obtain ⟨rfl, k⟩ := Fi_nx hF
    exact sx_ldcS hd hf hidx k
  · exact hF.1.elim
theorem fx_ldc_w {idx : Nat} {len : Nat} (hd : decode (tb_b Y) pc = .ok (.ldc_w idx, len)) (hg : gd pc (.ldc_w idx) = true) (hF : Fi (SX l base D cA h0) Y pc loc h bc bs Q (stp Y pc (.ldc_w idx) len loc stk h)) : SX l base D cA h0 Y pc loc stk h bc bs Q := by
  have hidx : idx < 65536 := Nat.lt_succ_of_le (Nat.le_of_ble_eq_true hg)
  dsimp only [stp] at hF
  split at hF
  · rename_i hf
    obtain ⟨rfl, k⟩ := Fi_nx hF
    exact sx_ldcwI hd hf hidx k
  · exact hF.1.elim
theorem fx_ldc2 {idx : Nat} {len : Nat} (hd : decode (tb_b Y) pc = .ok (.ldc2_w idx, len)) (hg : gd pc (.ldc2_w idx) = true) (hF : Fi (SX l base D cA h0) Y pc loc h bc bs Q (stp Y pc (.ldc2_w idx) len loc stk h)) : SX l base D cA h0 Y pc loc stk h bc bs Q := by
  have hidx : idx < 65536 := Nat.lt_succ_of_le (Nat.le_of_ble_eq_true hg)
  dsimp only [stp] at hF
  split at hF
  · rename_i hf
    obtain ⟨rfl, k⟩ := Fi_nx hF
    exact sx_ldc2 hd hf hidx k
  · exact hF.1.elim
theorem fx_iaload  {len : Nat} (hd : decode (tb_b Y) pc = .ok (.iaload, len)) (hg : gd pc (.iaload) = true) (hF : Fi (SX l base D cA h0) Y pc loc h bc bs Q (stp Y pc (.iaload) len loc stk h)) : SX l base D cA h0 Y pc loc stk h bc bs Q := by
  dsimp only [stp, s_ldx] at hF
  split at hF
  · obtain ⟨⟨rfl, hc, hin⟩, k⟩ := Fi_nx hF
    unfold skd at hc
    cases hY : Nat.beq Y LAW with
    | true => rw [hY] at hc; exact sx_sald hd hc hin k
    | false => rw [hY] at hc; exact sx_iald hd hc hin k
  · exact hF.1.elim
theorem fx_laload  {len : Nat} (hd : decode (tb_b Y) pc = .ok (.laload, len)) (hg : gd pc (.laload) = true) (hF : Fi (SX l base D cA h0) Y pc loc h bc bs Q (stp Y pc (.laload) len loc stk h)) : SX l base D cA h0 Y pc loc stk h bc bs Q := by
  dsimp only [stp, s_ldx] at hF
  split at hF
  · obtain ⟨⟨rfl, hc, hin⟩, k⟩ := Fi_nx hF
    exact sx_lald hd hc hin k
  · exact hF.1.elim
theorem fx_caload  {len : Nat} (hd : decode (tb_b Y) pc = .ok (.caload, len)) (hg : gd pc (.caload) = true) (hF : Fi (SX l base D cA h0) Y pc loc h bc bs Q (stp Y pc (.caload) len loc stk h)) : SX l base D cA h0 Y pc loc stk h bc bs Q := by
  dsimp only [stp, s_ldx] at hF
  split at hF
  · obtain ⟨⟨rfl, hc, hin⟩, k⟩ := Fi_nx hF
    exact sx_cald hd hc hin k
  · exact hF.1.elim
theorem fx_aaload  {len : Nat} (hd : decode (tb_b Y) pc = .ok (.aaload, len)) (hg : gd pc (.aaload) = true) (hF : Fi (SX l base D cA h0) Y pc loc h bc bs Q (stp Y pc (.aaload) len loc stk h)) : SX l base D cA h0 Y pc loc stk h bc bs Q := by
  dsimp only [stp, s_ldx] at hF
  split at hF
  · obtain ⟨⟨rfl, hc, hin⟩, k⟩ := Fi_nx hF
    exact sx_aald hd hc hin k
  · exact hF.1.elim
theorem fx_baload  {len : Nat} (hd : decode (tb_b Y) pc = .ok (.baload, len)) (hg : gd pc (.baload) = true) (hF : Fi (SX l base D cA h0) Y pc loc h bc bs Q (stp Y pc (.baload) len loc stk h)) : SX l base D cA h0 Y pc loc stk h bc bs Q := by
  dsimp only [stp] at hF
  split at hF
  · obtain ⟨⟨rfl, hc, hin⟩, k⟩ := Fi_nx hF
    exact sx_bald hd hc hin k
  · exact hF.1.elim
theorem fx_iastore  {len : Nat} (hd : decode (tb_b Y) pc = .ok (.iastore, len)) (hg : gd pc (.iastore) = true) (hF : Fi (SX l base D cA h0) Y pc loc h bc bs Q (stp Y pc (.iastore) len loc stk h)) : SX l base D cA h0 Y pc loc stk h bc bs Q := by
  dsimp only [stp, s_stx] at hF
  split at hF
  · obtain ⟨⟨rfl, hc, hz, hin⟩, k⟩ := Fi_nx hF
    exact sx_iast hd hc hz hin k
  · exact hF.1.elim
theorem fx_castore  {len : Nat} (hd : decode (tb_b Y) pc = .ok (.castore, len)) (hg : gd pc (.castore) = true) (hF : Fi (SX l base D cA h0) Y pc loc h bc bs Q (stp Y pc (.castore) len loc stk h)) : SX l base D cA h0 Y pc loc stk h bc bs Q := by
  dsimp only [stp, s_stx] at hF
  split at hF
  · obtain ⟨⟨rfl, hc, hz, hin⟩, k⟩ := Fi_nx hF
    exact sx_cast hd hc hz hin k
  · exact hF.1.elim
theorem fx_bastore  {len : Nat} (hd : decode (tb_b Y) pc = .ok (.bastore, len)) (hg : gd pc (.bastore) = true) (hF : Fi (SX l base D cA h0) Y pc loc h bc bs Q (stp Y pc (.bastore) len loc stk h)) : SX l base D cA h0 Y pc loc stk h bc bs Q := by
  dsimp only [stp] at hF
  split at hF
  · obtain ⟨⟨rfl, hc, hz, hin⟩, k⟩ := Fi_nx hF
    rcases hc with hc | hc
    · rw [if_pos hc] at k
      exact sx_bast hd hc hz hin k
    · rw [if_neg (by omega)] at k
      exact sx_zast hd hc hz hin k
  · exact hF.1.elim
theorem fx_lastore  {len : Nat} (hd : decode (tb_b Y) pc = .ok (.lastore, len)) (hg : gd pc (.lastore) = true) (hF : Fi (SX l base D cA h0) Y pc loc h bc bs Q (stp Y pc (.lastore) len loc stk h)) : SX l base D cA h0 Y pc loc stk h bc bs Q := by
  dsimp only [stp] at hF
  split at hF
  · obtain ⟨⟨rfl, hc, hz, hin⟩, k⟩ := Fi_nx hF
    exact sx_last hd hc hz hin k
  · exact hF.1.elim
theorem fx_aastore  {len : Nat} (hd : decode (tb_b Y) pc = .ok (.aastore, len)) (hg : gd pc (.aastore) = true) (hF : Fi (SX l base D cA h0) Y pc loc h bc bs Q (stp Y pc (.aastore) len loc stk h)) : SX l base D cA h0 Y pc loc stk h bc bs Q := by
  dsimp only [stp] at hF
  split at hF
  · obtain ⟨⟨rfl, hc, hz, hv, hin⟩, k⟩ := Fi_nx hF
    exact sx_aast hd hc hz hv hin k
  · exact hF.1.elim
theorem fx_arraylength  {len : Nat} (hd : decode (tb_b Y) pc = .ok (.arraylength, len)) (hg : gd pc (.arraylength) = true) (hF : Fi (SX l base D cA h0) Y pc loc h bc bs Q (stp Y pc (.arraylength) len loc stk h)) : SX l base D cA h0 Y pc loc stk h bc bs Q := by
  dsimp only [stp] at hF
  split at hF
  · obtain ⟨⟨rfl, hc⟩, k⟩ := Fi_nx hF
    exact sx_alen hd hc k
  · exact hF.1.elim
theorem fx_checkcast {idx : Nat} {len : Nat} (hd : decode (tb_b Y) pc = .ok (.checkcast idx, len)) (hg : gd pc (.checkcast idx) = true) (hF : Fi (SX l base D cA h0) Y pc loc h bc bs Q (stp Y pc (.checkcast idx) len loc stk h)) : SX l base D cA h0 Y pc loc stk h bc bs Q := by
  have hidx : idx < 65536 := Nat.lt_succ_of_le (Nat.le_of_ble_eq_true hg)
  dsimp only [stp] at hF
  split at hF
  · obtain ⟨⟨rfl, hf, hc, hz⟩, k⟩ := Fi_nx hF
    exact sx_ckc hd hf hidx hc hz k
  · exact hF.1.elim
theorem fx_newarray {ty : ArrayType} {len : Nat} (hd : decode (tb_b Y) pc = .ok (.newarray ty, len)) (hg : gd pc (.newarray ty) = true) (hF : Fi (SX l base D cA h0) Y pc loc h bc bs Q (stp Y pc (.newarray ty) len loc stk h)) : SX l base D cA h0 Y pc loc stk h bc bs Q := by
  dsimp only [stp] at hF
  split at hF
  · obtain ⟨⟨rfl, hn, hn2, ht⟩, hb, hs, k⟩ := Fi_al hF
    exact sx_newa hd ht hn hn2 hb hs k
  · exact hF.1.elim
theorem fx_anewarray {idx : Nat} {len : Nat} (hd : decode (tb_b Y) pc = .ok (.anewarray idx, len)) (hg : gd pc (.anewarray idx) = true) (hF : Fi (SX l base D cA h0) Y pc loc h bc bs Q (stp Y pc (.anewarray idx) len loc stk h)) : SX l base D cA h0 Y pc loc stk h bc bs Q := by
  have hidx : idx < 65536 := Nat.lt_succ_of_le (Nat.le_of_ble_eq_true hg)
  dsimp only [stp] at hF
  split at hF
  · obtain ⟨⟨rfl, hn, hn2, ht⟩, hb, hs, k⟩ := Fi_al hF
    exact sx_anew hd ht hidx hn hn2 hb hs k
  · exact hF.1.elim
theorem fx_new {idx : Nat} {len : Nat} (hd : decode (tb_b Y) pc = .ok (.new idx, len)) (hg : gd pc (.new idx) = true) (hF : Fi (SX l base D cA h0) Y pc loc h bc bs Q (stp Y pc (.new idx) len loc stk h)) : SX l base D cA h0 Y pc loc stk h bc bs Q := by
  simp only [gd, Bool.and_eq_true] at hg
  have hidx : idx < 65536 := Nat.lt_succ_of_le (Nat.le_of_ble_eq_true hg.1)
  have hpc : pc < 65536 := Nat.lt_succ_of_le (Nat.le_of_ble_eq_true hg.2)
  dsimp only [stp, s_nw, s_nw2] at hF
  split at hF
  · rename_i E hf
    split at hF
    · obtain ⟨rfl, hb, hs, k⟩ := Fi_th hF
      exact sx_th hd hf hpc hb hs k
    · exact hF.1.elim
  · split at hF
    · rename_i hf
      obtain ⟨rfl, hb, hs, k⟩ := Fi_al hF
      exact sx_new hd hf hidx hb hs k
    · exact hF.1.elim
theorem fx_invokestatic {idx : Nat} {len : Nat} (hd : decode (tb_b Y) pc = .ok (.invokestatic idx, len)) (hg : gd pc (.invokestatic idx) = true) (hF : Fi (SX l base D cA h0) Y pc loc h bc bs Q (stp Y pc (.invokestatic idx) len loc stk h)) : SX l base D cA h0 Y pc loc stk h bc bs Q := by
  have hidx : idx < 65536 := Nat.lt_succ_of_le (Nat.le_of_ble_eq_true hg)
  dsimp only [stp, s_inv, s_inv2] at hF
  split at hF
  · rename_i Z kd n tag hf
    by_cases k7 : kd = 7
    · subst k7
      rw [if_pos rfl] at hF
      split at hF
      · obtain ⟨⟨rfl, -, hcs, hca, hcd, hz, g1, g2, g3, g4, g5⟩, k⟩ := Fi_nx hF
        exact SX_rk (fun hrk => sx_copy hd hf hidx (by omega) hcs hca hcd hz g1 g2 g3 g4 g5 k)
      · exact hF.1.elim
    · rw [if_neg k7] at hF
      by_cases k9 : kd = 9
      · subst k9
        rw [if_pos rfl] at hF
        split at hF
        · obtain ⟨⟨rfl, -, hcs⟩, k⟩ := Fi_nx hF
          exact SX_rk (fun hrk => sx_min hd hf hidx (by omega) hcs k)
        · exact hF.1.elim
      · rw [if_neg k9] at hF
        by_cases k10 : kd = 10
        · subst k10
          rw [if_pos rfl] at hF
          split at hF
          · obtain ⟨⟨rfl, -, hcs⟩, k⟩ := Fi_nx hF
            exact SX_rk (fun hrk => sx_max hd hf hidx (by omega) hcs k)
          · exact hF.1.elim
        · rw [if_neg k10] at hF
          by_cases k11 : kd = 11
          · subst k11
            rw [if_pos rfl] at hF
            split at hF
            · obtain ⟨⟨rfl, -, hcs⟩, k⟩ := Fi_nx hF
              exact SX_rk (fun hrk => sx_abs hd hf hidx (by omega) hcs k)
            · exact hF.1.elim
          · rw [if_neg k11] at hF
            by_cases k8 : kd = 8
            · subst k8
              rw [if_pos rfl] at hF
              split at hF
              · obtain ⟨⟨-, z, -⟩, -⟩ := Fi_al hF
                cases z
              · exact hF.1.elim
            · rw [if_neg k8] at hF
              by_cases k0 : kd = 0
              · subst k0
                rw [if_pos rfl] at hF
                split at hF
                · rename_i as st ht
                  obtain ⟨⟨rfl, -⟩, hb, hs, hm, hcs, k⟩ := Fi_ca hF
                  exact sx_cs hd hf hidx ht hm hb hs hcs k
                · exact hF.1.elim
              · rw [if_neg k0] at hF
                split at hF
                · obtain ⟨⟨-, z, -⟩, -⟩ := Fi_ca hF
                  cases z
                · exact hF.1.elim
  · exact hF.1.elim
theorem fx_invokevirtual {idx : Nat} {len : Nat} (hd : decode (tb_b Y) pc = .ok (.invokevirtual idx, len)) (hg : gd pc (.invokevirtual idx) = true) (hF : Fi (SX l base D cA h0) Y pc loc h bc bs Q (stp Y pc (.invokevirtual idx) len loc stk h)) : SX l base D cA h0 Y pc loc stk h bc bs Q := by
  have hidx : idx < 65536 := Nat.lt_succ_of_le (Nat.le_of_ble_eq_true hg)
  dsimp only [stp, s_inv, s_inv2] at hF
  split at hF
  · rename_i Z kd n tag hf
    by_cases k7 : kd = 7
    · rw [if_pos k7] at hF
      split at hF
      · obtain ⟨⟨-, z, -⟩, -⟩ := Fi_nx hF
        cases z
      · exact hF.1.elim
    · rw [if_neg k7] at hF
      by_cases k9 : kd = 9
      · rw [if_pos k9] at hF
        split at hF
        · obtain ⟨⟨-, z, -⟩, -⟩ := Fi_nx hF
          cases z
        · exact hF.1.elim
      · rw [if_neg k9] at hF
        by_cases k10 : kd = 10
        · rw [if_pos k10] at hF
          split at hF
          · obtain ⟨⟨-, z, -⟩, -⟩ := Fi_nx hF
            cases z
          · exact hF.1.elim
        · rw [if_neg k10] at hF
          by_cases k11 : kd = 11
          · rw [if_pos k11] at hF
            split at hF
            · obtain ⟨⟨-, z, -⟩, -⟩ := Fi_nx hF
              cases z
            · exact hF.1.elim
          · rw [if_neg k11] at hF
            by_cases k8 : kd = 8
            · subst k8
              rw [if_pos rfl] at hF
              split at hF
              · obtain ⟨⟨rfl, -, hcs, hca, hz⟩, hb, hs, k⟩ := Fi_al hF
                exact SX_rk (fun hrk => sx_clone hd hf hidx (by omega) hcs hca hz hb hs k)
              · exact hF.1.elim
            · rw [if_neg k8] at hF
              by_cases k0 : kd = 0
              · rw [if_pos k0] at hF
                split at hF
                · obtain ⟨⟨-, z⟩, -⟩ := Fi_ca hF
                  cases z
                · exact hF.1.elim
              · rw [if_neg k0] at hF
                split at hF
                · rename_i as a st ht
                  obtain ⟨⟨rfl, -, hc⟩, hb, hs, hm, hcs, k⟩ := Fi_ca hF
                  exact sx_cv hd hf (by omega) k0 hidx ht hc hm hb hs hcs k
                · exact hF.1.elim
  · exact hF.1.elim
theorem fx_invokespecial {idx : Nat} {len : Nat} (hd : decode (tb_b Y) pc = .ok (.invokespecial idx, len)) (hg : gd pc (.invokespecial idx) = true) (hF : Fi (SX l base D cA h0) Y pc loc h bc bs Q (stp Y pc (.invokespecial idx) len loc stk h)) : SX l base D cA h0 Y pc loc stk h bc bs Q := by
  have hidx : idx < 65536 := Nat.lt_succ_of_le (Nat.le_of_ble_eq_true hg)
  dsimp only [stp, s_spe, s_spe2] at hF
  split at hF
  · rename_i Z kd n tag hf
    by_cases k6 : kd = 6
    · subst k6
      rw [if_pos rfl] at hF
      split at hF
      · obtain ⟨⟨rfl, hcs⟩, k⟩ := Fi_nx hF
        exact SX_rk (fun hrk => sx_obj hd hf hidx (by omega) hcs k)
      · exact hF.1.elim
    · rw [if_neg k6] at hF
      split at hF
      · rename_i as a st ht
        obtain ⟨⟨rfl, hc⟩, hb, hs, hm, hcs, k⟩ := Fi_ca hF
        exact sx_ci hd hf k6 hidx ht hc hm hb hs hcs k
      · exact hF.1.elim
  · exact hF.1.elim
theorem fx_ireturn  {len : Nat} (hd : decode (tb_b Y) pc = .ok (.ireturn, len)) (hg : gd pc (.ireturn) = true) (hF : Fi (SX l base D cA h0) Y pc loc h bc bs Q (stp Y pc (.ireturn) len loc stk h)) : SX l base D cA h0 Y pc loc stk h bc bs Q := by
  dsimp only [stp, s_ret] at hF
  split at hF
  · split at hF
    · obtain ⟨⟨rfl, h1, h2, h9, hk⟩, k⟩ := Fi_re hF
      exact sx_ri hd h1 h2 h9 hk k
    · exact hF.1.elim
  · exact hF.1.elim
theorem fx_lreturn  {len : Nat} (hd : decode (tb_b Y) pc = .ok (.lreturn, len)) (hg : gd pc (.lreturn) = true) (hF : Fi (SX l base D cA h0) Y pc loc h bc bs Q (stp Y pc (.lreturn) len loc stk h)) : SX l base D cA h0 Y pc loc stk h bc bs Q := by
  dsimp only [stp, s_ret] at hF
  split at hF
  · split at hF
    · obtain ⟨⟨rfl, h1⟩, k⟩ := Fi_re hF
      exact sx_rl hd h1 k
    · exact hF.1.elim
  · exact hF.1.elim
theorem fx_areturn  {len : Nat} (hd : decode (tb_b Y) pc = .ok (.areturn, len)) (hg : gd pc (.areturn) = true) (hF : Fi (SX l base D cA h0) Y pc loc h bc bs Q (stp Y pc (.areturn) len loc stk h)) : SX l base D cA h0 Y pc loc stk h bc bs Q := by
  dsimp only [stp, s_ret] at hF
  split at hF
  · split at hF
    · obtain ⟨⟨rfl, h1⟩, k⟩ := Fi_re hF
      exact sx_ra hd h1 k
    · exact hF.1.elim
  · exact hF.1.elim
theorem fx_return  {len : Nat} (hd : decode (tb_b Y) pc = .ok (.return_, len)) (hg : gd pc (.return_) = true) (hF : Fi (SX l base D cA h0) Y pc loc h bc bs Q (stp Y pc (.return_) len loc stk h)) : SX l base D cA h0 Y pc loc stk h bc bs Q := by
  dsimp only [stp, s_ret] at hF
  split at hF
  · obtain ⟨⟨rfl, h1⟩, k⟩ := Fi_re hF
    exact sx_rv hd h1 k
  · exact hF.1.elim
theorem SX_in (hF : Fi (SX l base D cA h0) Y pc loc h bc bs Q (step Y pc loc stk h)) : SX l base D cA h0 Y pc loc stk h bc bs Q := by
  unfold step at hF
  split at hF
  · rename_i ins len hd
    by_cases hg : gd pc ins = true
    · rw [if_pos hg] at hF
      cases ins with
      | iconst => exact fx_iconst hd hg hF
      | bipush => exact fx_bipush hd hg hF
      | sipush => exact fx_sipush hd hg hF
      | lconst => exact fx_lconst hd hg hF
      | aconst_null => exact fx_null hd hg hF
      | iload_n => exact fx_iload_n hd hg hF
      | iload => exact fx_iload hd hg hF
      | lload_n => exact fx_lload_n hd hg hF
      | lload => exact fx_lload hd hg hF
      | aload_n => exact fx_aload_n hd hg hF
      | istore_n => exact fx_istore_n hd hg hF
      | lstore_n => exact fx_lstore_n hd hg hF
      | astore_n => exact fx_astore_n hd hg hF
      | aload => exact fx_aload hd hg hF
      | istore => exact fx_istore hd hg hF
      | lstore => exact fx_lstore hd hg hF
      | astore => exact fx_astore hd hg hF
      | iinc => exact fx_iinc hd hg hF
      | iadd => exact fx_iadd hd hg hF
      | isub => exact fx_isub hd hg hF
      | imul => exact fx_imul hd hg hF
      | iand => exact fx_iand hd hg hF
      | ior => exact fx_ior hd hg hF
      | ixor => exact fx_ixor hd hg hF
      | ishl => exact fx_ishl hd hg hF
      | ishr => exact fx_ishr hd hg hF
      | iushr => exact fx_iushr hd hg hF
      | ladd => exact fx_ladd hd hg hF
      | lsub => exact fx_lsub hd hg hF
      | lmul => exact fx_lmul hd hg hF
      | land => exact fx_land hd hg hF
      | lor => exact fx_lor hd hg hF
      | lxor => exact fx_lxor hd hg hF
      | lshl => exact fx_lshl hd hg hF
      | lshr => exact fx_lshr hd hg hF
      | lushr => exact fx_lushr hd hg hF
      | ineg => exact fx_ineg hd hg hF
      | i2l => exact fx_i2l hd hg hF
      | i2b => exact fx_i2b hd hg hF
      | i2s => exact fx_i2s hd hg hF
      | i2c => exact fx_i2c hd hg hF
      | l2i => exact fx_l2i hd hg hF
      | lneg => exact fx_lneg hd hg hF
      | idiv => exact fx_idiv hd hg hF
      | irem => exact fx_irem hd hg hF
      | ldiv => exact fx_ldiv hd hg hF
      | lrem => exact fx_lrem hd hg hF
      | lcmp => exact fx_lcmp hd hg hF
      | pop2 => exact fx_pop2 hd hg hF
      | dup => exact fx_dup hd hg hF
      | pop => exact fx_pop hd hg hF
      | dup_x1 => exact fx_dup_x1 hd hg hF
      | dup2 => exact fx_dup2 hd hg hF
      | dup_x2 => exact fx_dup_x2 hd hg hF
      | ifCond => exact fx_if hd hg hF
      | if_icmp => exact fx_ic hd hg hF
      | ifnull => exact fx_ifnull hd hg hF
      | ifnonnull => exact fx_ifnonnull hd hg hF
      | goto => exact fx_goto hd hg hF
      | tableswitch => exact fx_ts hd hg hF
      | lookupswitch => exact fx_lk hd hg hF
      | getfield => exact fx_getfield hd hg hF
      | putfield => exact fx_putfield hd hg hF
      | getstatic => exact fx_getstatic hd hg hF
      | ldc => exact fx_ldc hd hg hF
      | ldc_w => exact fx_ldc_w hd hg hF
      | ldc2_w => exact fx_ldc2 hd hg hF
      | iaload => exact fx_iaload hd hg hF
      | laload => exact fx_laload hd hg hF
      | caload => exact fx_caload hd hg hF
      | aaload => exact fx_aaload hd hg hF
      | baload => exact fx_baload hd hg hF
      | iastore => exact fx_iastore hd hg hF
      | castore => exact fx_castore hd hg hF
      | bastore => exact fx_bastore hd hg hF
      | lastore => exact fx_lastore hd hg hF
      | aastore => exact fx_aastore hd hg hF
      | arraylength => exact fx_arraylength hd hg hF
      | checkcast => exact fx_checkcast hd hg hF
      | newarray => exact fx_newarray hd hg hF
      | anewarray => exact fx_anewarray hd hg hF
      | new => exact fx_new hd hg hF
      | invokestatic => exact fx_invokestatic hd hg hF
      | invokevirtual => exact fx_invokevirtual hd hg hF
      | invokespecial => exact fx_invokespecial hd hg hF
      | ireturn => exact fx_ireturn hd hg hF
      | lreturn => exact fx_lreturn hd hg hF
      | areturn => exact fx_areturn hd hg hF
      | return_ => exact fx_return hd hg hF
      | _ => exact hF.1.elim
    · rw [if_neg hg] at hF
      exact hF.1.elim
  · exact hF.1.elim
end SXL
theorem SX_mono {l : Launch} {base : Nat} {D : va_G} {cA : Nat → ClassId} {h0 : MH} : mono (SX l base D cA h0) := by
  intro Y pc loc stk h bc bs Q Q' hQ k p e R s m args below meth c H locs cells slots mc ms ls S h1 h2 hl hr hs T hT X
  obtain ⟨t, a1, o, b1, b2, b3⟩ := k p e R s m args below meth c H locs cells slots mc ms ls S h1 h2 hl hr hs T hT X
  refine ⟨t, a1, o, b1, b2, ?_⟩
  rcases b3 with ⟨⟨v, h', e1, e2, e3⟩, e4⟩ | ⟨q, e1, E, ce, L, ⟨En, h', e2, e3, e4⟩, e5⟩
  · exact Or.inl ⟨⟨v, h', e1, hQ _ _ e2, e3⟩, e4⟩
  · exact Or.inr ⟨q, e1, E, ce, L, ⟨En, h', e2, hQ _ _ e3, e4⟩, e5⟩
/-- what is shown of the small machine holds of the large one -/
theorem Ok_SX {l : Launch} {base : Nat} {D : va_G} {cA : Nat → ClassId} {h0 : MH} {Y pc : Nat} {loc stk : List Value} {h : MH} {bc bs : Nat} {Q : MR → MH → Prop} (k : Ok Y pc loc stk h bc bs Q) : SX l base D cA h0 Y pc loc stk h bc bs Q :=
  k (SX l base D cA h0) SX_mono (fun _ _ _ _ _ _ _ _ hF => SX_in hF)
end

section
/-! ROWS OF THE SMALL MACHINE: a row a kind of instruction, both ways -/
def csum (l : List Value) : Nat := (l.map (fun v => v.category)).sum
theorem csum_rf (x : Option Nat) (l : List Value) : csum (va_rf x :: l) = 1 + csum l := by cases x <;> rfl
section OkRows
variable {Y pc pc' len idx : Nat} {ins : Instr} {loc loc' stk stk' : List Value} {h h' : MH} {bc bs : Nat} {Q : MR → MH → Prop} {c : Prop}
theorem Ok_st (hd : decode (tb_b Y) pc = .ok (ins, len)) (hi0 : gd pc ins = true := by decide) : Ok Y pc loc stk h bc bs Q ↔ Fi Ok Y pc loc h bc bs Q (stp Y pc ins len loc stk h) := by
  rw [Ok_eq, step, hd]
  simp only [if_pos hi0]
theorem Ok_nx (hd : decode (tb_b Y) pc = .ok (ins, len)) (hs : stp Y pc ins len loc stk h = s_nx c pc' loc' stk' h') (hi0 : gd pc ins = true := by decide) : Ok Y pc loc stk h bc bs Q ↔ c ∧ Ok Y pc' loc' stk' h' bc bs Q := by
  rw [Ok_st hd hi0, hs]
  exact ⟨fun k => ⟨k.1, k.2.2.2⟩, fun k => ⟨k.1, Nat.zero_le _, Nat.zero_le _, k.2⟩⟩
theorem Ok_n1 (hd : decode (tb_b Y) pc = .ok (ins, len)) (hs : stp Y pc ins len loc stk h = s_nx c pc' loc' stk' h') (hc : c) (hi0 : gd pc ins = true := by decide) : Ok Y pc loc stk h bc bs Q ↔ Ok Y pc' loc' stk' h' bc bs Q := by
  rw [Ok_nx hd hs hi0]
  exact ⟨fun k => k.2, fun k => ⟨hc, k⟩⟩
/-- with what must hold said plainer -/
theorem Ok_nc {c2 : Prop} (hd : decode (tb_b Y) pc = .ok (ins, len)) (hs : stp Y pc ins len loc stk h = s_nx c pc' loc' stk' h') (hc : c ↔ c2) (hi0 : gd pc ins = true := by decide) : Ok Y pc loc stk h bc bs Q ↔ c2 ∧ Ok Y pc' loc' stk' h' bc bs Q := by
  rw [Ok_nx hd hs hi0, hc]
theorem Ok_al {n : Nat} {c2 : Prop} (hd : decode (tb_b Y) pc = .ok (ins, len)) (hs : stp Y pc ins len loc stk h = s_al c n pc' loc' stk' h') (hc : c ↔ c2) (hi0 : gd pc ins = true := by decide) : Ok Y pc loc stk h bc bs Q ↔ c2 ∧ 1 ≤ bc ∧ n ≤ bs ∧ Ok Y pc' loc' stk' h' (bc - 1) (bs - n) Q := by
  rw [Ok_st hd hi0, hs, ← hc]
  exact Iff.rfl
theorem Ok_b2 {p q : Prop} {t f : Nat} (hd : decode (tb_b Y) pc = .ok (ins, len)) (hs : stp Y pc ins len loc stk h = s_br c [(p, t), (q, f)] loc' stk') (hc : c) (hpq : q = ¬ p) (hi0 : gd pc ins = true := by decide) : Ok Y pc loc stk h bc bs Q ↔ (p → Ok Y t loc' stk' h bc bs Q) ∧ (¬ p → Ok Y f loc' stk' h bc bs Q) := by
  subst hpq
  rw [Ok_st hd hi0, hs]
  refine ⟨fun k => ⟨k.2 (p, t) (by simp), k.2 (¬ p, f) (by simp)⟩, fun k => ⟨hc, fun z hz => ?_⟩⟩
  simp only [List.mem_cons, List.not_mem_nil, or_false] at hz
  rcases hz with rfl | rfl
  · exact k.1
  · exact k.2
theorem Ok_sw {alts : List (Prop × Nat)} (hd : decode (tb_b Y) pc = .ok (ins, len)) (hs : stp Y pc ins len loc stk h = s_br c alts loc' stk') (hc : c) (hi0 : gd pc ins = true := by decide) : Ok Y pc loc stk h bc bs Q ↔ ∀ q ∈ alts, q.1 → Ok Y q.2 loc' stk' h bc bs Q := by
  rw [Ok_st hd hi0, hs]
  exact ⟨fun k => k.2, fun k => ⟨hc, k⟩⟩
theorem Ok_re {v : Option Value} {c2 : Prop} (hd : decode (tb_b Y) pc = .ok (ins, len)) (hs : stp Y pc ins len loc stk h = s_re c v) (hc : c ↔ c2) (hi0 : gd pc ins = true := by decide) : Ok Y pc loc stk h bc bs Q ↔ c2 ∧ Q (.inl v) h := by
  rw [Ok_st hd hi0, hs, ← hc]
  exact Iff.rfl
theorem Ok_r1 {v : Option Value} (hd : decode (tb_b Y) pc = .ok (ins, len)) (hs : stp Y pc ins len loc stk h = s_re c v) (hc : c) (hi0 : gd pc ins = true := by decide) : Ok Y pc loc stk h bc bs Q ↔ Q (.inl v) h := by
  rw [Ok_re hd hs Iff.rfl hi0]
  exact ⟨fun k => k.2, fun k => ⟨hc, k⟩⟩
theorem Ok_th {E : Nat} (hd : decode (tb_b Y) pc = .ok (ins, len)) (hs : stp Y pc ins len loc stk h = s_th c E) (hc : c) (hi0 : gd pc ins = true := by decide) : Ok Y pc loc stk h bc bs Q ↔ 1 ≤ bc ∧ 6 ≤ bs ∧ ∀ t : Nat, g_t h ≤ t → Q (.inr E) (p_T h t) := by
  rw [Ok_st hd hi0, hs]
  exact ⟨fun k => k.2, fun k => ⟨hc, k⟩⟩
/-- behind a call where nothing is caught -/
def Kn (Y pc' : Nat) (loc rest : List Value) (bc bs : Nat) (Q : MR → MH → Prop) : MR → MH → Prop := fun r h => match r with
  | .inl v => Ok Y pc' loc (v.toList ++ rest) h bc bs Q
  | .inr E => Q (.inr E) h
theorem Kn_v {v : Value} {rest : List Value} : Kn Y pc' loc rest bc bs Q (.inl (some v)) h ↔ Ok Y pc' loc (v :: rest) h bc bs Q := Iff.rfl
theorem Kn_0 {rest : List Value} : Kn Y pc' loc rest bc bs Q (.inl none) h ↔ Ok Y pc' loc rest h bc bs Q := Iff.rfl
theorem Kn_x {E : Nat} {rest : List Value} : Kn Y pc' loc rest bc bs Q (.inr E) h ↔ Q (.inr E) h := Iff.rfl
theorem Kc_n {Y pc pc' : Nat} {loc rest : List Value} {bc bs : Nat} {Q : MR → MH → Prop} (h : hhY Y = []) : Kc Ok Y pc pc' loc rest bc bs Q = Kn Y pc' loc rest bc bs Q := by
  funext r h'
  cases r with
  | inl v => rfl
  | inr E => simp only [Kc, Kn, h, if_true]
theorem Ok_ca {Z mc ms : Nat} {as rest zl : List Value} {c2 : Prop} (hd : decode (tb_b Y) pc = .ok (ins, len)) (hs : stp Y pc ins len loc stk h = s_ca c Z mc ms as pc' rest) (hc : c ↔ c2) (hm : (ent as).length ≤ tb_m Z ∧ tb_d Z + 1 ≤ tb_d Y) (hz : entN (tb_m Z) as = zl) (hn : hhY Y = []) (hi0 : gd pc ins = true := by decide) :
    Ok Y pc loc stk h bc bs Q ↔ c2 ∧ mc ≤ bc ∧ ms ≤ bs ∧ csum rest ≤ 8 ∧ Ok Z 0 zl [] h mc ms (Kn Y pc' loc rest (bc - mc) (bs - ms) Q) := by
  rw [Ok_st hd hi0, hs, ← hc, ← hz, ← Kc_n hn]
  exact ⟨fun k => ⟨k.1, k.2.1, k.2.2.1, k.2.2.2.2⟩, fun k => ⟨k.1, k.2.1, k.2.2.1, hm, k.2.2.2⟩⟩
/-- a call that makes nothing -/
theorem Ok_c0 {Z : Nat} {as rest zl : List Value} {c2 : Prop} (hd : decode (tb_b Y) pc = .ok (ins, len)) (hs : stp Y pc ins len loc stk h = s_ca c Z 0 0 as pc' rest) (hc : c ↔ c2) (hm : (ent as).length ≤ tb_m Z ∧ tb_d Z + 1 ≤ tb_d Y) (hz : entN (tb_m Z) as = zl) (hn : hhY Y = []) (hi0 : gd pc ins = true := by decide) :
    Ok Y pc loc stk h bc bs Q ↔ c2 ∧ csum rest ≤ 8 ∧ Ok Z 0 zl [] h 0 0 (Kn Y pc' loc rest bc bs Q) := by
  rw [Ok_ca hd hs hc hm hz hn hi0]
  exact ⟨fun k => ⟨k.1, k.2.2.2⟩, fun k => ⟨k.1, Nat.zero_le _, Nat.zero_le _, k.2⟩⟩
theorem Ok_ch {Z mc ms : Nat} {as rest zl : List Value} {c2 : Prop} (hd : decode (tb_b Y) pc = .ok (ins, len)) (hs : stp Y pc ins len loc stk h = s_ca c Z mc ms as pc' rest) (hc : c ↔ c2) (hm : (ent as).length ≤ tb_m Z ∧ tb_d Z + 1 ≤ tb_d Y) (hz : entN (tb_m Z) as = zl) (hi0 : gd pc ins = true := by decide) :
    Ok Y pc loc stk h bc bs Q ↔ c2 ∧ mc ≤ bc ∧ ms ≤ bs ∧ csum rest ≤ 8 ∧ Ok Z 0 zl [] h mc ms (Kc Ok Y pc pc' loc rest (bc - mc) (bs - ms) Q) := by
  rw [Ok_st hd hi0, hs, ← hc, ← hz]
  exact ⟨fun k => ⟨k.1, k.2.1, k.2.2.1, k.2.2.2.2⟩, fun k => ⟨k.1, k.2.1, k.2.2.1, hm, k.2.2.2⟩⟩
theorem Kc_v {v : Value} {rest : List Value} : Kc Ok Y pc pc' loc rest bc bs Q (.inl (some v)) h ↔ Ok Y pc' loc (v :: rest) h bc bs Q := Iff.rfl
theorem Kc_x {E hp : Nat} {rest : List Value} (hy : ¬ hhY Y = []) (hh : hnd Y pc E = some hp) : Kc Ok Y pc pc' loc rest bc bs Q (.inr E) h ↔ ∀ q : Nat, Ok Y hp loc [.ref q] h bc bs Q := by
  simp only [Kc, if_neg hy, hh]
end OkRows
end

section
section OkRows
variable {Y pc pc' len idx : Nat} {ins : Instr} {loc loc' stk stk' : List Value} {h h' : MH} {bc bs : Nat} {Q : MR → MH → Prop} {c : Prop}
theorem stp_gf : stp Y pc (.getfield idx) len loc stk h = s_gf2 (tF (tb_o Y * 65536 + idx)) len pc loc stk h := rfl
theorem stp_pf : stp Y pc (.putfield idx) len loc stk h = s_pf2 (tF (tb_o Y * 65536 + idx)) len Y pc loc stk h := rfl
theorem stp_iS : stp Y pc (.invokestatic idx) len loc stk h = s_inv2 (tM (tb_o Y * 65536 + idx)) true len pc loc stk h := rfl
theorem stp_iV : stp Y pc (.invokevirtual idx) len loc stk h = s_inv2 (tM (tb_o Y * 65536 + idx)) false len pc loc stk h := rfl
theorem stp_sp : stp Y pc (.invokespecial idx) len loc stk h = s_spe2 (tI (tb_o Y * 65536 + idx)) len pc loc stk h := rfl
theorem stp_nw : stp Y pc (.new idx) len loc stk h = s_nw2 (tE (Y * 65536 + pc)) (tC (tb_o Y * 65536 + idx)) len pc loc stk h := rfl
end OkRows
end

section
section OkRows
variable {Y pc pc' len idx : Nat} {ins : Instr} {loc loc' stk stk' : List Value} {h h' : MH} {bc bs : Nat} {Q : MR → MH → Prop} {c : Prop}
-- what the table-bound instructions come to
theorem sg_I {tag k kd fin a : Nat} {st : List Value} (hf : tF (tb_o Y * 65536 + idx) = some (tag, k, kd, fin)) (h1 : ¬ kd = 1) (h2 : ¬ kd = 2) : stp Y pc (.getfield idx) 3 loc (.ref a :: st) h = s_nx (3 = 3 ∧ g_c h a = tag) (pc + 3) loc (.int (g_i h a k) :: st) h := by
  rw [stp_gf, hf]
  show s_nx _ _ _ ((if kd = 1 then _ else if kd = 2 then _ else _) :: _) _ = _
  rw [if_neg h1, if_neg h2]
theorem sg_R {tag k fin a : Nat} {st : List Value} (hf : tF (tb_o Y * 65536 + idx) = some (tag, k, 2, fin)) : stp Y pc (.getfield idx) 3 loc (.ref a :: st) h = s_nx (3 = 3 ∧ g_c h a = tag) (pc + 3) loc (va_rf (g_r h a k) :: st) h := by
  rw [stp_gf, hf]
  show s_nx _ _ _ ((if (2 : Nat) = 1 then _ else if (2 : Nat) = 2 then _ else _) :: _) _ = _
  rw [if_neg (show ¬ (2 : Nat) = 1 by decide), if_pos rfl]
theorem sp_I {tag k kd fin a : Nat} {v : Int32} {st : List Value} (hf : tF (tb_o Y * 65536 + idx) = some (tag, k, kd, fin)) : stp Y pc (.putfield idx) 3 loc (.int v :: .ref a :: st) h = s_nx (3 = 3 ∧ g_c h a = tag ∧ g_z h ≤ a ∧ kok kd v ∧ ¬ kd = 1 ∧ ¬ kd = 2 ∧ (fin = 1 → okI Y tag k)) (pc + 3) loc st (p_i h a k v) := by
  rw [stp_pf, hf] <;> rfl
theorem sp_L {tag k kd fin a : Nat} {v : Int64} {st : List Value} (hf : tF (tb_o Y * 65536 + idx) = some (tag, k, kd, fin)) : stp Y pc (.putfield idx) 3 loc (.long v :: .ref a :: st) h = s_nx (3 = 3 ∧ g_c h a = tag ∧ g_z h ≤ a ∧ kd = 1 ∧ (fin = 1 → okI Y tag k)) (pc + 3) loc st (p_l h a k v) := by
  rw [stp_pf, hf] <;> rfl
theorem sp_R {tag k kd fin a v : Nat} {st : List Value} (hf : tF (tb_o Y * 65536 + idx) = some (tag, k, kd, fin)) : stp Y pc (.putfield idx) 3 loc (.ref v :: .ref a :: st) h = s_nx (3 = 3 ∧ g_c h a = tag ∧ g_z h ≤ a ∧ kd = 2 ∧ (fin = 1 → okI Y tag k)) (pc + 3) loc st (p_r h a k (some v)) := by
  rw [stp_pf, hf] <;> rfl
theorem kok_0 {v : Int32} : kok 0 v := by simp [kok]
end OkRows
end

section
section OkRows
variable {Y pc pc' len idx : Nat} {ins : Instr} {loc loc' stk stk' : List Value} {h h' : MH} {bc bs : Nat} {Q : MR → MH → Prop} {c : Prop}
/-- putfield of a whole number -/
theorem Ok_pI {tag k kd fin a : Nat} {v : Int32} {st : List Value} (hd : decode (tb_b Y) pc = .ok (.putfield idx, 3)) (hf : tF (tb_o Y * 65536 + idx) = some (tag, k, kd, fin)) (h1 : ¬ kd = 1) (h2 : ¬ kd = 2) (hi : fin = 1 → okI Y tag k) (hi0 : gd pc (.putfield idx) = true := by decide) : Ok Y pc loc (.int v :: .ref a :: st) h bc bs Q ↔ (g_c h a = tag ∧ g_z h ≤ a ∧ kok kd v) ∧ Ok Y (pc + 3) loc st (p_i h a k v) bc bs Q :=
  Ok_nc hd (sp_I hf) ⟨fun k => ⟨k.2.1, k.2.2.1, k.2.2.2.1⟩, fun k => ⟨rfl, k.1, k.2.1, k.2.2, h1, h2, hi⟩⟩ hi0
theorem Ok_pL {tag k fin a : Nat} {v : Int64} {st : List Value} (hd : decode (tb_b Y) pc = .ok (.putfield idx, 3)) (hf : tF (tb_o Y * 65536 + idx) = some (tag, k, 1, fin)) (hi : fin = 1 → okI Y tag k) (hi0 : gd pc (.putfield idx) = true := by decide) : Ok Y pc loc (.long v :: .ref a :: st) h bc bs Q ↔ (g_c h a = tag ∧ g_z h ≤ a) ∧ Ok Y (pc + 3) loc st (p_l h a k v) bc bs Q :=
  Ok_nc hd (sp_L hf) ⟨fun k => ⟨k.2.1, k.2.2.1⟩, fun k => ⟨rfl, k.1, k.2, rfl, hi⟩⟩ hi0
theorem Ok_pR {tag k fin a v : Nat} {st : List Value} (hd : decode (tb_b Y) pc = .ok (.putfield idx, 3)) (hf : tF (tb_o Y * 65536 + idx) = some (tag, k, 2, fin)) (hi : fin = 1 → okI Y tag k) (hi0 : gd pc (.putfield idx) = true := by decide) : Ok Y pc loc (.ref v :: .ref a :: st) h bc bs Q ↔ (g_c h a = tag ∧ g_z h ≤ a) ∧ Ok Y (pc + 3) loc st (p_r h a k (some v)) bc bs Q :=
  Ok_nc hd (sp_R hf) ⟨fun k => ⟨k.2.1, k.2.2.1⟩, fun k => ⟨rfl, k.1, k.2, rfl, hi⟩⟩ hi0
theorem Ok_gI {tag k kd fin a : Nat} {st : List Value} (hd : decode (tb_b Y) pc = .ok (.getfield idx, 3)) (hf : tF (tb_o Y * 65536 + idx) = some (tag, k, kd, fin)) (h1 : ¬ kd = 1) (h2 : ¬ kd = 2) (hi0 : gd pc (.getfield idx) = true := by decide) : Ok Y pc loc (.ref a :: st) h bc bs Q ↔ g_c h a = tag ∧ Ok Y (pc + 3) loc (.int (g_i h a k) :: st) h bc bs Q :=
  Ok_nc hd (sg_I hf h1 h2) ⟨fun k => k.2, fun k => ⟨rfl, k⟩⟩ hi0
theorem Ok_gR {tag k fin a : Nat} {st : List Value} (hd : decode (tb_b Y) pc = .ok (.getfield idx, 3)) (hf : tF (tb_o Y * 65536 + idx) = some (tag, k, 2, fin)) (hi0 : gd pc (.getfield idx) = true := by decide) : Ok Y pc loc (.ref a :: st) h bc bs Q ↔ g_c h a = tag ∧ Ok Y (pc + 3) loc (va_rf (g_r h a k) :: st) h bc bs Q :=
  Ok_nc hd (sg_R hf) ⟨fun k => k.2, fun k => ⟨rfl, k⟩⟩ hi0
end OkRows
end

section
section OkRows
variable {Y pc pc' len idx : Nat} {ins : Instr} {loc loc' stk stk' : List Value} {h h' : MH} {bc bs : Nat} {Q : MR → MH → Prop} {c : Prop}
/-- calls: static; virtual; special -/
theorem si_S {Z n tag : Nat} {as st : List Value} {mc ms : Nat} (hm : tM (tb_o Y * 65536 + idx) = some (Z, 0, n, tag)) (hk : tb_k Z = (mc, ms)) (ht : s_tk n stk = some (as, st)) : stp Y pc (.invokestatic idx) 3 loc stk h = s_ca (3 = 3 ∧ true = true) Z mc ms as (pc + 3) st := by
  rw [stp_iS, hm]; dsimp only [s_inv2]
  rw [if_neg (show ¬ (0 : Nat) = 7 by decide), if_neg (show ¬ (0 : Nat) = 9 by decide), if_neg (show ¬ (0 : Nat) = 10 by decide), if_neg (show ¬ (0 : Nat) = 11 by decide), if_neg (show ¬ (0 : Nat) = 8 by decide), if_pos rfl, ht, hk] <;> rfl
theorem si_V {Z kd n tag a : Nat} {as st : List Value} {mc ms : Nat} (hm : tM (tb_o Y * 65536 + idx) = some (Z, kd, n, tag)) (h7 : ¬ kd = 7 ∧ ¬ kd = 9 ∧ ¬ kd = 10 ∧ ¬ kd = 11) (h8 : ¬ kd = 8) (h0 : ¬ kd = 0) (hk : tb_k Z = (mc, ms)) (ht : s_tk n stk = some (as, .ref a :: st)) : stp Y pc (.invokevirtual idx) 3 loc stk h = s_ca (3 = 3 ∧ false = false ∧ g_c h a = tag) Z mc ms (.ref a :: as) (pc + 3) st := by
  rw [stp_iV, hm]; dsimp only [s_inv2]
  rw [if_neg h7.1, if_neg h7.2.1, if_neg h7.2.2.1, if_neg h7.2.2.2, if_neg h8, if_neg h0, ht, hk] <;> rfl
theorem si_I {Z kd n tag a : Nat} {as st : List Value} {mc ms : Nat} (hm : tI (tb_o Y * 65536 + idx) = some (Z, kd, n, tag)) (h6 : ¬ kd = 6) (hk : tb_k Z = (mc, ms)) (ht : s_tk n stk = some (as, .ref a :: st)) : stp Y pc (.invokespecial idx) 3 loc stk h = s_ca (3 = 3 ∧ g_c h a = tag) Z mc ms (.ref a :: as) (pc + 3) st := by
  rw [stp_sp, hm]; dsimp only [s_spe2]
  rw [if_neg h6, ht, hk] <;> rfl
end OkRows
end

section
section OkRows
variable {Y pc pc' len idx : Nat} {ins : Instr} {loc loc' stk stk' : List Value} {h h' : MH} {bc bs : Nat} {Q : MR → MH → Prop} {c : Prop}
theorem si_9 {Z n tag : Nat} {x y : Int32} {st : List Value} (hm : tM (tb_o Y * 65536 + idx) = some (Z, 9, n, tag)) : stp Y pc (.invokestatic idx) 3 loc (.int y :: .int x :: st) h = s_nx (3 = 3 ∧ true = true ∧ csum st ≤ 8) (pc + 3) loc (.int (if y < x then y else x) :: st) h := by
  rw [stp_iS, hm]; dsimp only [s_inv2]
  rw [if_neg (show ¬ (9 : Nat) = 7 by decide), if_pos rfl] <;> rfl
theorem si_10 {Z n tag : Nat} {x y : Int32} {st : List Value} (hm : tM (tb_o Y * 65536 + idx) = some (Z, 10, n, tag)) : stp Y pc (.invokestatic idx) 3 loc (.int y :: .int x :: st) h = s_nx (3 = 3 ∧ true = true ∧ csum st ≤ 8) (pc + 3) loc (.int (if x < y then y else x) :: st) h := by
  rw [stp_iS, hm]; dsimp only [s_inv2]
  rw [if_neg (show ¬ (10 : Nat) = 7 by decide), if_neg (show ¬ (10 : Nat) = 9 by decide), if_pos rfl] <;> rfl
theorem si_11 {Z n tag : Nat} {x : Int32} {st : List Value} (hm : tM (tb_o Y * 65536 + idx) = some (Z, 11, n, tag)) : stp Y pc (.invokestatic idx) 3 loc (.int x :: st) h = s_nx (3 = 3 ∧ true = true ∧ csum st ≤ 8) (pc + 3) loc (.int (if 0 ≤ x then x else 0 - x) :: st) h := by
  rw [stp_iS, hm]; dsimp only [s_inv2]
  rw [if_neg (show ¬ (11 : Nat) = 7 by decide), if_neg (show ¬ (11 : Nat) = 9 by decide), if_neg (show ¬ (11 : Nat) = 10 by decide), if_pos rfl] <;> rfl
theorem si_7 {Z n9 tag a d : Nat} {n sp dp : Int32} {st : List Value} (hm : tM (tb_o Y * 65536 + idx) = some (Z, 7, n9, tag)) : stp Y pc (.invokestatic idx) 3 loc (.int n :: .int dp :: .ref d :: .int sp :: .ref a :: st) h = s_nx (3 = 3 ∧ true = true ∧ csum st ≤ 8 ∧ g_c h a = 103 ∧ g_c h d = 103 ∧ g_z h ≤ d ∧ ¬ sp < 0 ∧ ¬ dp < 0 ∧ ¬ n < 0 ∧ sp.toNatClampNeg + n.toNatClampNeg ≤ g_n h a ∧ dp.toNatClampNeg + n.toNatClampNeg ≤ g_n h d) (pc + 3) loc st (p_C h d (va_cpy (g_i h a) (g_i h d) sp.toNatClampNeg dp.toNatClampNeg n.toNatClampNeg)) := by
  rw [stp_iS, hm]; dsimp only [s_inv2]
  rw [if_pos rfl] <;> rfl
theorem si_8 {Z n tag a : Nat} {st : List Value} (hm : tM (tb_o Y * 65536 + idx) = some (Z, 8, n, tag)) : stp Y pc (.invokevirtual idx) 3 loc (.ref a :: st) h = s_al (3 = 3 ∧ false = false ∧ csum st ≤ 8 ∧ g_c h a = 103 ∧ g_z h ≤ a) (g_n h a) (pc + 3) loc (.ref (g_t h) :: st) (p_C (p_N h 103 (g_n h a)) (g_t h) (g_i h a)) := by
  rw [stp_iV, hm]; dsimp only [s_inv2]
  rw [if_neg (show ¬ (8 : Nat) = 7 by decide), if_neg (show ¬ (8 : Nat) = 9 by decide), if_neg (show ¬ (8 : Nat) = 10 by decide), if_neg (show ¬ (8 : Nat) = 11 by decide), if_pos rfl] <;> rfl
end OkRows
end

section
section OkRows
variable {Y pc pc' len idx : Nat} {ins : Instr} {loc loc' stk stk' : List Value} {h h' : MH} {bc bs : Nat} {Q : MR → MH → Prop} {c : Prop}
theorem si_O {Z n tag a : Nat} {st : List Value} (hm : tI (tb_o Y * 65536 + idx) = some (Z, 6, n, tag)) : stp Y pc (.invokespecial idx) 3 loc (.ref a :: st) h = s_nx (3 = 3 ∧ csum st ≤ 8) (pc + 3) loc st h := by
  rw [stp_sp, hm]; dsimp only [s_spe2]
  rw [if_pos rfl] <;> rfl
theorem st_th {E : Nat} (he : tE (Y * 65536 + pc) = some E) : stp Y pc (.new idx) 3 loc [] h = s_th (3 = 3) E := by
  rw [stp_nw, he] <;> rfl
theorem st_nw {tag n : Nat} (he : tE (Y * 65536 + pc) = none) (hc : tC (tb_o Y * 65536 + idx) = some (tag, n)) : stp Y pc (.new idx) 3 loc stk h = s_al (3 = 3) n (pc + 3) loc (.ref (g_t h) :: stk) (p_N h tag 0) := by
  rw [stp_nw, he, hc] <;> rfl
theorem kok_of0 {kd : Nat} {x : Int32} (hk : kd = 0) : kok kd x := by subst hk; exact kok_0
theorem kok_to {kd k2 : Nat} {x : Int32} (hk : kd = k2) (k : kok kd x) : kok k2 x := hk ▸ k
theorem kok_fr {kd k2 : Nat} {x : Int32} (hk : kd = k2) (k : kok k2 x) : kok kd x := hk ▸ k
end OkRows
end

section
set_option maxRecDepth 16384
/-! SOUNDNESS -/
theorem qpe2 : ((0 : Int32) = 1) = False ∧ ((1 : Int32) = 0) = False ∧ ((0 : Int32) = 2) = False ∧ ((1 : Int32) = 2) = False := ⟨by decide, by decide, by decide, by decide⟩
theorem nm_nat (a b c d : Int32) : (nmM a b c d).toBitVec.toNat = (((a.toBitVec.toNat % 65536) * 65536 + b.toBitVec.toNat % 65536) * 65536 + c.toBitVec.toNat % 65536) * 65536 + d.toBitVec.toNat % 65536 := by
  have ez : ∀ x : Int32, (x &&& 65535).toInt64.toBitVec.toNat = x.toBitVec.toNat % 65536 := fun x => by
    rw [i64_ofi (x &&& 65535) (by rw [i32_mask x]; omega), i32_mask x]
    omega
  have e0 : (0 : Int64).toBitVec.toNat = 0 := rfl
  have e1 : (65536 : Int64).toBitVec.toNat = 65536 := rfl
  unfold nmM
  simp only [Int64.toBitVec_add, Int64.toBitVec_mul, BitVec.toNat_add, BitVec.toNat_mul, ez, e0, e1]
  omega
theorem fo_bits {V sh : Int64} {x : Int32} {s : Nat} (hs : s ≤ 48) (hsh : (sh.toBitVec.smod 64).toNat = s) (e : V.toBitVec.toNat / 2 ^ s % 65536 = x.toBitVec.toNat % 65536) (hx : x.toInt16.toInt32 = x) : (V >>> sh).toInt32.toInt16.toInt32 = x := by
  have h : (V >>> sh).toInt32.toInt16 = x.toInt16 := by
    apply Int16.toBitVec_inj.mp
    rw [Int32.toBitVec_toInt16, Int32.toBitVec_toInt16, Int64.toBitVec_toInt32, BitVec.signExtend_eq_setWidth_of_le _ (by decide), BitVec.signExtend_eq_setWidth_of_le _ (by decide), BitVec.signExtend_eq_setWidth_of_le _ (by decide), Int64.toBitVec_shiftRight]
    apply BitVec.eq_of_getLsbD_eq
    intro i hi
    have e2 := congrArg (fun n => n.testBit i) e
    simp only [show (65536 : Nat) = 2 ^ 16 from rfl, Nat.testBit_mod_two_pow, Nat.testBit_div_two_pow, hi, decide_true, Bool.true_and] at e2
    rw [BitVec.getLsbD_setWidth, BitVec.getLsbD_setWidth, BitVec.getLsbD_setWidth, BitVec.getLsbD_sshiftRight']
    erw [hsh]
    have h1 : i < 32 := by omega
    have h2 : ¬ 64 ≤ i := by omega
    have h3 : s + i < 64 := by omega
    simp only [hi, h1, h2, h3, decide_true, decide_false, Bool.true_and, Bool.not_false, if_true]
    rw [BitVec.getLsbD, BitVec.getLsbD, Nat.add_comm]
    exact e2
  rw [h]
  exact hx
theorem sh_k : ((16 * (3 - (0 : Int32))).toInt64 &&& 63).toBitVec.smod 64 = 48#64 ∧ ((16 * (3 - (1 : Int32))).toInt64 &&& 63).toBitVec.smod 64 = 32#64 ∧ ((16 * (3 - (2 : Int32))).toInt64 &&& 63).toBitVec.smod 64 = 16#64 ∧ ((16 * (3 - (3 : Int32))).toInt64 &&& 63).toBitVec.smod 64 = 0#64 := by decide
theorem fo_nm {a b c d : Int32} (ha : a.toInt16.toInt32 = a) (hb : b.toInt16.toInt32 = b) (hc : c.toInt16.toInt32 = c) (hd : d.toInt16.toInt32 = d) : foC (nmC a b c d) 0 = a ∧ foC (nmC a b c d) 1 = b ∧ foC (nmC a b c d) 2 = c ∧ foC (nmC a b c d) 3 = d := by
  have e := nm_nat a b c d
  obtain ⟨s0, s1, s2, s3⟩ := sh_k
  rw [nm_eq]
  unfold foC
  refine ⟨fo_bits (s := 48) (by decide) (by rw [s0]; rfl) ?_ ha, fo_bits (s := 32) (by decide) (by rw [s1]; rfl) ?_ hb, fo_bits (s := 16) (by decide) (by rw [s2]; rfl) ?_ hc, fo_bits (s := 0) (by decide) (by rw [s3]; rfl) ?_ hd⟩ <;> (rw [e]; omega)
theorem ra_loop {w rw cs F N n : Nat} {h : MH} {Q : MR → MH → Prop} (w1 : g_c h w = 4) (w3 : g_r h w 0 = some rw) (r1 : g_c h rw = 3) (r2 : g_r h rw 0 = some cs) (r3 : g_c h cs = 102) (r4 : g_n h cs = n) (a1 : g_i h w 1 = Int32.ofNat F) (a2 : g_i h w 2 = Int32.ofNat N) (hn : F + N ≤ n) (hn2 : n ≤ 1000) : ∀ (d j : Nat), j + d = N → (Ok 50 2 [.ref w, .ref rw, .int (Int32.ofNat j)] [] h 0 0 Q ↔ Q (.inl (some (.int 1))) h)
  | 0, j, hj => by
    have : j = N := by omega
    subst this
    rw [o50_2]
    simp only [o50_3, o50_4, o50_7, o50_10, o50_11, o50_12, o50_37, o50_38, mcs_0, true_and, and_true, not_true_eq_false, not_false_eq_true, false_implies, forall_const, Nat.zero_le, kz1, lt_le, w1, a2, n_irr]
  | d + 1, j, hj => by
    have c1 : (Int32.ofNat j < Int32.ofNat N) = True := by rw [n_lt (by omega) (by omega)]; exact eq_true (by omega)
    have c2 : (Int32.ofNat j < 0) = False := n_z (by omega)
    have c4 : Int32.ofNat F + Int32.ofNat j = Int32.ofNat (F + j) := n_add F j
    have c5 : rdy n (Int32.ofNat (F + j)) := n_rdy (by omega) (by omega)
    have c6 : Int32.ofNat j + 1 = Int32.ofNat (j + 1) := n_add j 1
    refine Iff.trans ?_ (ra_loop (Q := Q) w1 w3 r1 r2 r3 r4 a1 a2 hn hn2 d (j + 1) (by omega))
    rw [o50_2]
    simp only [o50_3, o50_4, o50_7, o50_10, o50_11, o50_12, o50_15, o50_16, o50_17, o50_20, o50_21, o50_22, o50_25, o50_26, o50_29, o50_30, o50_31, o50_34, o50_37, o50_38, c_X3_readAt (rw := rw) (cs := cs) (n := n), c_X2_read (cs := cs) (n := n), mcs_0, mcs_l, Kn_v, true_and, and_true, not_true_eq_false, not_false_eq_true, false_implies, forall_const, Nat.reduceLeDiff, Nat.reduceAdd, Nat.zero_le, kz0, kz1, lt_le, lg_cmp_eq, w1, w3, r1, r2, r3, r4, a1, a2, c1, c2, c4, c5, c6]
theorem c_ra {w rw cs F N n : Nat} {h : MH} {Q : MR → MH → Prop} (w1 : g_c h w = 4) (w3 : g_r h w 0 = some rw) (r1 : g_c h rw = 3) (r2 : g_r h rw 0 = some cs) (r3 : g_c h cs = 102) (r4 : g_n h cs = n) (a1 : g_i h w 1 = Int32.ofNat F) (a2 : g_i h w 2 = Int32.ofNat N) (hn : F + N ≤ n) (hn2 : n ≤ 1000) : Ok 50 0 [.ref w, .ref rw, mk0] [] h 0 0 Q ↔ Q (.inl (some (.int 1))) h := by
  have lp := ra_loop (Q := Q) w1 w3 r1 r2 r3 r4 a1 a2 hn hn2 N 0 (by omega)
  simp only [o50_0, o50_1]
  exact lp

set_option maxRecDepth 100000 in
theorem qS_0 : ∀ t ∈ QS0, ((¬ t.2.2.1 < -1 ∧ ¬ t.1 < t.2.2.1 ∧ ¬ t.2.1 < t.1 ∧ ¬ 5 < t.2.1) ∧ (¬ t.2.2.2.2.2.1 < -1 ∧ ¬ t.2.2.2.1 < t.2.2.2.2.2.1 ∧ ¬ t.2.2.2.2.1 < t.2.2.2.1 ∧ ¬ 5 < t.2.2.2.2.1) ∧ t.2.2.1 < 0) ∧ ((t.2.1 = 5 ∧ ¬ t.2.2.2.2.1 = 5) ∨ (¬ t.2.1 = 5 ∧ t.2.2.2.2.1 = 5)) ∧ ((¬ t.2.2.2.2.1 - t.2.2.2.1 = 0 ∧ 0 < t.2.2.2.2.1 - t.2.2.2.1) ∨ (t.2.2.2.2.1 - t.2.2.2.1 = 0 ∧ ¬ t.2.1 - t.1 = 0 ∧ 0 < t.2.1 - t.1 ∧ ¬ 0 < t.2.2.2.2.1 - t.2.2.2.1)) ∧ lyF t + (t.2.2.2.1 - olF t) + frF 1 t = 5 := by decide +kernel
theorem qo_0 {A : Nat → Nat} {h : MH} {Q : MR → MH → Prop} (R : Rl A h) : (Ok 24 0 [.ref (A 5)] [] h 0 0 Q ↔ Q (.inl (some (.int 1))) h) ∧ (Ok 240 0 [.ref (A 22), .int 0, mk0, mk0, mk0] [] h 0 0 Q ↔ Q (.inl (some (.int 1))) h) := by
  have R0 := R
  obtain ⟨vk, vcn, v0, v1, v2, vp, vl0, vl1, vlr, vsr, vc, tx⟩ := R0
  have vk0 := vk
  have vcn0 := vcn
  (refine K_el vk0 ?_; intros hA kc0 kc1 kc2 kc3 kc4 kc5 kc6 kc7 kc8 kc9 kc10 kc11 kc12 kc13 kc14 kc15 kc16 kc17 kc18 kc19 kc20 kc21 kc22 kc23 kc24 kc25 kc26 kc27 kc28 kc29 kc30 kc31 kc32 kc33 kc34 kc35 kc36 kc37 kc38 kc39 kz kt kn3 kn4 kn18 kn21 kn23 kn24 kn25 kn26 kn27 kn29 kn30 kr0_0 kr0_1 kr0_2 kr0_3 kr0_4 kr0_5 kr0_7 kr0_8 kr0_9 kr0_10 kr1_0 kr2_0 kr5_0 kr5_1 kr6_0 kr6_1 kr7_0 kr7_1 kr8_0 kr9_0 kr10_0 kr11_0 kr12_0 kr13_0 kr14_0 kr15_0 kr16_0 kr17_0 kr19_0 kr19_1 kr22_0 kr22_1 kr22_2 kr22_3 kr22_4 kr22_5 kr22_7 kr22_8 kr25_0 kr25_1 kr25_2 kr26_0 kr26_1 kr26_2 kr29_0 kr29_1)
  (refine Cn_el vcn0 ?_; intros ki5_2 ki6_2 ki7_2 ki8_1 ki8_2 ki8_3 ki9_1 ki9_2 ki9_3 ki10_1 ki10_2 ki10_3 ki11_1 ki11_2 ki11_3 ki12_1 ki12_2 ki12_3 ki13_1 ki13_2 ki13_3 ki14_1 ki14_2 ki14_3 ki28_0 ki28_1 ki31_0 ki31_1 ki32_0 ki32_1 ki33_0 ki33_1 ki34_0 ki34_1 ki35_0 ki35_1 ki36_0 ki36_1)
  have hAe : ∀ i j, i < 40 → j < 40 → (A i = A j ↔ i = j) := hA
  have hm := R.2.2.1.2
  have he := R.2.2.1.1
  have hT : mT h (A 27) 0 (A 31) (A 34) = cT h (A 5) (A 8) (A 9) := he.symm
  obtain ⟨⟨ow, orr, omk⟩, orest⟩ := qS_0 _ hm
  replace ow : ¬ g_i h (A 8) 6 < -1 ∧ ¬ g_i h (A 8) 4 < g_i h (A 8) 6 ∧ ¬ g_i h (A 8) 5 < g_i h (A 8) 4 ∧ ¬ 5 < g_i h (A 8) 5 := ow
  replace orr : ¬ g_i h (A 9) 6 < -1 ∧ ¬ g_i h (A 9) 4 < g_i h (A 9) 6 ∧ ¬ g_i h (A 9) 5 < g_i h (A 9) 4 ∧ ¬ 5 < g_i h (A 9) 5 := orr
  replace omk : g_i h (A 8) 6 < 0 := omk
  have ow2 := ow
  have orr2 := orr
  obtain ⟨p1, p2, p3, p4⟩ := ow2
  obtain ⟨p5, p6, p7, p8⟩ := orr2
  have he2 := he
  simp only [cT, mT, Prod.mk.injEq] at he2
  obtain ⟨g1, g2, g3, g4, g5, g6, g7⟩ := he2
  replace g1 := g1.symm
  replace g2 := g2.symm
  replace g3 := g3.symm
  replace g4 := g4.symm
  replace g5 := g5.symm
  replace g6 := g6.symm
  replace g7 := g7.symm
  obtain ⟨oa, ob, os⟩ := orest
  replace oa : (g_i h (A 8) 5 = 5 ∧ ¬ g_i h (A 9) 5 = 5) ∨ (¬ g_i h (A 8) 5 = 5 ∧ g_i h (A 9) 5 = 5) := oa
  replace ob : (¬ g_i h (A 9) 5 - g_i h (A 9) 4 = 0 ∧ 0 < g_i h (A 9) 5 - g_i h (A 9) 4) ∨ (g_i h (A 9) 5 - g_i h (A 9) 4 = 0 ∧ ¬ g_i h (A 8) 5 - g_i h (A 8) 4 = 0 ∧ 0 < g_i h (A 8) 5 - g_i h (A 8) 4 ∧ ¬ 0 < g_i h (A 9) 5 - g_i h (A 9) 4) := ob
  replace os : lyF (cT h (A 5) (A 8) (A 9)) + (g_i h (A 9) 4 - olF (cT h (A 5) (A 8) (A 9))) + frF 1 (cT h (A 5) (A 8) (A 9)) = 5 := os
  have wz : (0 < g_i h (A 8) 5 - g_i h (A 8) 4) = True ∨ (0 < g_i h (A 8) 5 - g_i h (A 8) 4) = False := by
    by_cases z : 0 < g_i h (A 8) 5 - g_i h (A 8) 4
    · exact Or.inl (eq_true z)
    · exact Or.inr (eq_false z)
  rcases oa with ⟨a1, a2⟩ | ⟨a1, a2⟩ <;> rcases ob with ⟨b1, b2⟩ | ⟨b1, b2, b3, b4⟩ <;> rcases wz with wz | wz <;> (first | (exfalso; rw [wz] at b3; exact b3) | skip) <;> (refine ⟨?_, ?_⟩)
  · simp only [a1] at p1 p2 p3 p4 p5 p6 p7 p8 b1 b2 wz
    simp only [o24_0, o24_1, o24_4, o24_7, o24_10, o24_11, o24_14, o24_17, o24_20, o24_21, o24_24, o24_27, o24_28, o24_31, o24_34, o24_37, o24_38, o24_41, o24_44, o24_45, o24_48, o24_49, o26_0, o26_1, o26_4, o26_7, o26_8, o26_11, o26_14, o26_17, o26_18, o26_21, o26_22, o26_23, o26_24, o26_27, o26_30, o26_31, o26_34, o26_37, o26_40, o26_41, o26_44, o26_45, o26_46, o26_47, o26_50, o26_53, o26_54, o26_57, o26_60, o26_61, o26_62, o26_65, o26_66, o26_69, o26_70, o26_73, o26_74, o26_75, o26_78, o26_79, o26_80, o26_83, o26_86, o26_89, o26_90, o26_93, o26_94, o27_0, o27_1, o27_4, o27_5, o27_8, o27_9, o27_10, o27_13, o27_16, o27_17, o27_18, o27_21, o27_24, o27_27, o27_28, o27_31, o27_32, c_X3_isOrdered, c_X1_lying (w := A 8) (r := A 9), c_X1_kept (w := A 8) (r := A 9), c_X1_freeCells (w := A 8) (r := A 9), c_X1_hasNone (w := A 8) (r := A 9), c_X1_hasNoRest (w := A 8) (r := A 9), mcs_0, mcs_i, Kn_v, mrf_some, true_and, and_true, not_true_eq_false, not_false_eq_true, false_implies, forall_const, if_true, if_false, and_self, Nat.reduceLeDiff, Nat.reduceAdd, Nat.zero_le, i10, i01, kz0, kz1, lt_le, kc5, kc8, kc9, kr5_0, kr5_1, ki5_2, ki8_2, ki9_2, p1, p2, p3, p4, p5, p6, p7, p8, a1, a2, b1, os]
  · simp only [a1] at p1 p2 p3 p4 p5 p6 p7 p8 b1 b2 wz
    simp only [o240_0, o240_1, o240_4, o240_5, o240_6, o240_7, o240_8, o240_11, o240_12, o240_13, o240_14, o240_15, o240_18, o240_21, o240_22, o240_25, o240_28, o240_29, o240_32, o240_35, o240_36, o240_37, o240_38, o240_41, o240_42, o240_43, o240_46, o240_47, o240_49, o240_50, o240_51, o240_54, o240_55, o240_56, o240_81, o240_82, o240_85, o240_88, o240_89, o240_92, o240_95, o240_96, o240_99, o240_100, o240_103, o240_106, o240_107, o240_110, o240_111, o240_112, o240_115, o240_116, o240_119, o240_122, o240_123, o240_126, o240_127, o240_130, o240_131, o240_132, o240_135, o240_137, o240_138, o240_139, o240_140, o240_143, o240_144, o240_145, o240_148, o240_151, o240_152, o240_155, o240_156, c_X7_isRight, c_X8_oldest (x2 := A 25) (x3 := A 26) (a := A 27) (w := A 31) (r := A 34), c_X8_liesOf (x2 := A 25) (x3 := A 26) (a := A 27) (w := A 31) (r := A 34), c_X8_roomOf (x2 := A 25) (x3 := A 26) (a := A 27) (w := A 31) (r := A 34), c_X7_rests, mcs_0, mcs_i, Kn_v, mrf_some, true_and, and_true, not_true_eq_false, not_false_eq_true, false_implies, forall_const, if_true, and_self, Nat.reduceLeDiff, Nat.reduceAdd, Nat.zero_le, i10, i01, kz0, kz1, lt_le, Int32.reduceLT, cl0, kc22, kc25, kc26, kc27, kc31, kc34, kn25, kn26, kn27, kr22_2, kr22_3, kr22_4, kr25_0, kr26_0, ki31_1, ki34_1, p1, p2, p3, p4, p5, p6, p7, p8, g1, g2, g3, g4, g5, g6, omk, a1, a2, b2, hT, os, vq3, cl0, wz, qpe2, Int32.reduceLT]
  · simp only [a1] at p1 p2 p3 p4 p5 p6 p7 p8 b1 b2 wz
    simp only [o24_0, o24_1, o24_4, o24_7, o24_10, o24_11, o24_14, o24_17, o24_20, o24_21, o24_24, o24_27, o24_28, o24_31, o24_34, o24_37, o24_38, o24_41, o24_44, o24_45, o24_48, o24_49, o26_0, o26_1, o26_4, o26_7, o26_8, o26_11, o26_14, o26_17, o26_18, o26_21, o26_22, o26_23, o26_24, o26_27, o26_30, o26_31, o26_34, o26_37, o26_40, o26_41, o26_44, o26_45, o26_46, o26_47, o26_50, o26_53, o26_54, o26_57, o26_60, o26_61, o26_62, o26_65, o26_66, o26_69, o26_70, o26_73, o26_74, o26_75, o26_78, o26_79, o26_80, o26_83, o26_86, o26_89, o26_90, o26_93, o26_94, o27_0, o27_1, o27_4, o27_5, o27_8, o27_9, o27_10, o27_13, o27_16, o27_17, o27_18, o27_21, o27_24, o27_27, o27_28, o27_31, o27_32, c_X3_isOrdered, c_X1_lying (w := A 8) (r := A 9), c_X1_kept (w := A 8) (r := A 9), c_X1_freeCells (w := A 8) (r := A 9), c_X1_hasNone (w := A 8) (r := A 9), c_X1_hasNoRest (w := A 8) (r := A 9), mcs_0, mcs_i, Kn_v, mrf_some, true_and, and_true, not_true_eq_false, not_false_eq_true, false_implies, forall_const, if_true, if_false, and_self, Nat.reduceLeDiff, Nat.reduceAdd, Nat.zero_le, i10, i01, kz0, kz1, lt_le, kc5, kc8, kc9, kr5_0, kr5_1, ki5_2, ki8_2, ki9_2, p1, p2, p3, p4, p5, p6, p7, p8, a1, a2, b1, os]
  · simp only [a1] at p1 p2 p3 p4 p5 p6 p7 p8 b1 b2 wz
    simp only [o240_0, o240_1, o240_4, o240_5, o240_6, o240_7, o240_8, o240_11, o240_12, o240_13, o240_14, o240_15, o240_18, o240_21, o240_22, o240_25, o240_28, o240_29, o240_32, o240_35, o240_36, o240_37, o240_38, o240_41, o240_42, o240_43, o240_46, o240_47, o240_49, o240_50, o240_51, o240_54, o240_55, o240_56, o240_81, o240_82, o240_85, o240_88, o240_89, o240_92, o240_95, o240_96, o240_99, o240_100, o240_103, o240_106, o240_107, o240_110, o240_111, o240_112, o240_115, o240_116, o240_119, o240_122, o240_123, o240_126, o240_127, o240_130, o240_131, o240_132, o240_135, o240_137, o240_138, o240_139, o240_140, o240_143, o240_144, o240_145, o240_148, o240_151, o240_152, o240_155, o240_156, c_X7_isRight, c_X8_oldest (x2 := A 25) (x3 := A 26) (a := A 27) (w := A 31) (r := A 34), c_X8_liesOf (x2 := A 25) (x3 := A 26) (a := A 27) (w := A 31) (r := A 34), c_X8_roomOf (x2 := A 25) (x3 := A 26) (a := A 27) (w := A 31) (r := A 34), c_X7_rests, mcs_0, mcs_i, Kn_v, mrf_some, true_and, and_true, not_true_eq_false, not_false_eq_true, false_implies, forall_const, if_true, and_self, Nat.reduceLeDiff, Nat.reduceAdd, Nat.zero_le, i10, i01, kz0, kz1, lt_le, Int32.reduceLT, cl0, kc22, kc25, kc26, kc27, kc31, kc34, kn25, kn26, kn27, kr22_2, kr22_3, kr22_4, kr25_0, kr26_0, ki31_1, ki34_1, p1, p2, p3, p4, p5, p6, p7, p8, g1, g2, g3, g4, g5, g6, omk, a1, a2, b2, hT, os, vq3, cl0, wz, qpe2, Int32.reduceLT]
  · simp only [a1] at p1 p2 p3 p4 p5 p6 p7 p8 b1 b2 b3 b4 wz
    simp only [o24_0, o24_1, o24_4, o24_7, o24_10, o24_11, o24_14, o24_17, o24_20, o24_21, o24_24, o24_27, o24_28, o24_31, o24_34, o24_37, o24_38, o24_41, o24_44, o24_45, o24_48, o24_49, o26_0, o26_1, o26_4, o26_7, o26_8, o26_11, o26_14, o26_17, o26_18, o26_21, o26_22, o26_23, o26_24, o26_27, o26_30, o26_31, o26_34, o26_37, o26_40, o26_41, o26_44, o26_45, o26_46, o26_47, o26_50, o26_53, o26_54, o26_57, o26_60, o26_61, o26_62, o26_65, o26_66, o26_69, o26_70, o26_73, o26_74, o26_75, o26_78, o26_79, o26_80, o26_83, o26_86, o26_89, o26_90, o26_93, o26_94, o27_0, o27_1, o27_4, o27_5, o27_8, o27_9, o27_10, o27_13, o27_16, o27_17, o27_18, o27_21, o27_24, o27_27, o27_28, o27_31, o27_32, c_X3_isOrdered, c_X1_lying (w := A 8) (r := A 9), c_X1_kept (w := A 8) (r := A 9), c_X1_freeCells (w := A 8) (r := A 9), c_X1_hasNone (w := A 8) (r := A 9), c_X1_hasNoRest (w := A 8) (r := A 9), mcs_0, mcs_i, Kn_v, mrf_some, true_and, and_true, not_true_eq_false, not_false_eq_true, false_implies, forall_const, if_true, if_false, and_self, Nat.reduceLeDiff, Nat.reduceAdd, Nat.zero_le, i10, i01, kz0, kz1, lt_le, kc5, kc8, kc9, kr5_0, kr5_1, ki5_2, ki8_2, ki9_2, p1, p2, p3, p4, p5, p6, p7, p8, a1, a2, b1, b2, os]
  · simp only [a1] at p1 p2 p3 p4 p5 p6 p7 p8 b1 b2 b3 b4 wz
    simp only [o240_0, o240_1, o240_4, o240_5, o240_6, o240_7, o240_8, o240_11, o240_12, o240_13, o240_14, o240_15, o240_18, o240_21, o240_22, o240_25, o240_28, o240_29, o240_32, o240_35, o240_36, o240_37, o240_38, o240_41, o240_42, o240_43, o240_46, o240_47, o240_49, o240_50, o240_51, o240_54, o240_55, o240_56, o240_81, o240_82, o240_85, o240_88, o240_89, o240_92, o240_95, o240_96, o240_99, o240_100, o240_103, o240_106, o240_107, o240_110, o240_111, o240_112, o240_115, o240_116, o240_119, o240_122, o240_123, o240_126, o240_127, o240_130, o240_131, o240_132, o240_135, o240_137, o240_138, o240_139, o240_140, o240_143, o240_144, o240_145, o240_148, o240_151, o240_152, o240_155, o240_156, c_X7_isRight, c_X8_oldest (x2 := A 25) (x3 := A 26) (a := A 27) (w := A 31) (r := A 34), c_X8_liesOf (x2 := A 25) (x3 := A 26) (a := A 27) (w := A 31) (r := A 34), c_X8_roomOf (x2 := A 25) (x3 := A 26) (a := A 27) (w := A 31) (r := A 34), c_X7_rests, mcs_0, mcs_i, Kn_v, mrf_some, true_and, and_true, not_true_eq_false, not_false_eq_true, false_implies, forall_const, if_true, and_self, Nat.reduceLeDiff, Nat.reduceAdd, Nat.zero_le, i10, i01, kz0, kz1, lt_le, Int32.reduceLT, cl0, kc22, kc25, kc26, kc27, kc31, kc34, kn25, kn26, kn27, kr22_2, kr22_3, kr22_4, kr25_0, kr26_0, ki31_1, ki34_1, p1, p2, p3, p4, p5, p6, p7, p8, g1, g2, g3, g4, g5, g6, omk, a1, a2, b1, b3, hT, os, vq3, cl0, qpe2, Int32.reduceLT]
  · simp only [a2] at p1 p2 p3 p4 p5 p6 p7 p8 b1 b2 wz
    simp only [o24_0, o24_1, o24_4, o24_7, o24_10, o24_11, o24_14, o24_17, o24_20, o24_21, o24_24, o24_27, o24_28, o24_31, o24_34, o24_37, o24_38, o24_41, o24_44, o24_45, o24_48, o24_49, o26_0, o26_1, o26_4, o26_7, o26_8, o26_11, o26_14, o26_17, o26_18, o26_21, o26_22, o26_23, o26_24, o26_27, o26_30, o26_31, o26_34, o26_37, o26_40, o26_41, o26_44, o26_45, o26_46, o26_47, o26_50, o26_53, o26_54, o26_57, o26_60, o26_61, o26_62, o26_65, o26_66, o26_69, o26_70, o26_73, o26_74, o26_75, o26_78, o26_79, o26_80, o26_83, o26_86, o26_89, o26_90, o26_93, o26_94, o27_0, o27_1, o27_4, o27_5, o27_8, o27_9, o27_10, o27_13, o27_16, o27_17, o27_18, o27_21, o27_24, o27_27, o27_28, o27_31, o27_32, c_X3_isOrdered, c_X1_lying (w := A 8) (r := A 9), c_X1_kept (w := A 8) (r := A 9), c_X1_freeCells (w := A 8) (r := A 9), c_X1_hasNone (w := A 8) (r := A 9), c_X1_hasNoRest (w := A 8) (r := A 9), mcs_0, mcs_i, Kn_v, mrf_some, true_and, and_true, not_true_eq_false, not_false_eq_true, false_implies, forall_const, if_true, if_false, and_self, Nat.reduceLeDiff, Nat.reduceAdd, Nat.zero_le, i10, i01, kz0, kz1, lt_le, kc5, kc8, kc9, kr5_0, kr5_1, ki5_2, ki8_2, ki9_2, p1, p2, p3, p4, p5, p6, p7, p8, a1, a2, b1, os]
  · simp only [a2] at p1 p2 p3 p4 p5 p6 p7 p8 b1 b2 wz
    simp only [o240_0, o240_1, o240_4, o240_5, o240_6, o240_7, o240_8, o240_11, o240_12, o240_13, o240_14, o240_15, o240_18, o240_21, o240_22, o240_25, o240_28, o240_29, o240_32, o240_35, o240_36, o240_37, o240_38, o240_41, o240_42, o240_43, o240_46, o240_47, o240_49, o240_50, o240_51, o240_54, o240_55, o240_56, o240_81, o240_82, o240_85, o240_88, o240_89, o240_92, o240_95, o240_96, o240_99, o240_100, o240_103, o240_106, o240_107, o240_110, o240_111, o240_112, o240_115, o240_116, o240_119, o240_122, o240_123, o240_126, o240_127, o240_130, o240_131, o240_132, o240_135, o240_137, o240_138, o240_139, o240_140, o240_143, o240_144, o240_145, o240_148, o240_151, o240_152, o240_155, o240_156, c_X7_isRight, c_X8_oldest (x2 := A 25) (x3 := A 26) (a := A 27) (w := A 31) (r := A 34), c_X8_liesOf (x2 := A 25) (x3 := A 26) (a := A 27) (w := A 31) (r := A 34), c_X8_roomOf (x2 := A 25) (x3 := A 26) (a := A 27) (w := A 31) (r := A 34), c_X7_rests, mcs_0, mcs_i, Kn_v, mrf_some, true_and, and_true, not_true_eq_false, not_false_eq_true, false_implies, forall_const, if_true, and_self, Nat.reduceLeDiff, Nat.reduceAdd, Nat.zero_le, i10, i01, kz0, kz1, lt_le, Int32.reduceLT, cl0, kc22, kc25, kc26, kc27, kc31, kc34, kn25, kn26, kn27, kr22_2, kr22_3, kr22_4, kr25_0, kr26_0, ki31_1, ki34_1, p1, p2, p3, p4, p5, p6, p7, p8, g1, g2, g3, g4, g5, g6, omk, a1, a2, b2, hT, os, vq3, cl0, wz, qpe2, Int32.reduceLT]
  · simp only [a2] at p1 p2 p3 p4 p5 p6 p7 p8 b1 b2 wz
    simp only [o24_0, o24_1, o24_4, o24_7, o24_10, o24_11, o24_14, o24_17, o24_20, o24_21, o24_24, o24_27, o24_28, o24_31, o24_34, o24_37, o24_38, o24_41, o24_44, o24_45, o24_48, o24_49, o26_0, o26_1, o26_4, o26_7, o26_8, o26_11, o26_14, o26_17, o26_18, o26_21, o26_22, o26_23, o26_24, o26_27, o26_30, o26_31, o26_34, o26_37, o26_40, o26_41, o26_44, o26_45, o26_46, o26_47, o26_50, o26_53, o26_54, o26_57, o26_60, o26_61, o26_62, o26_65, o26_66, o26_69, o26_70, o26_73, o26_74, o26_75, o26_78, o26_79, o26_80, o26_83, o26_86, o26_89, o26_90, o26_93, o26_94, o27_0, o27_1, o27_4, o27_5, o27_8, o27_9, o27_10, o27_13, o27_16, o27_17, o27_18, o27_21, o27_24, o27_27, o27_28, o27_31, o27_32, c_X3_isOrdered, c_X1_lying (w := A 8) (r := A 9), c_X1_kept (w := A 8) (r := A 9), c_X1_freeCells (w := A 8) (r := A 9), c_X1_hasNone (w := A 8) (r := A 9), c_X1_hasNoRest (w := A 8) (r := A 9), mcs_0, mcs_i, Kn_v, mrf_some, true_and, and_true, not_true_eq_false, not_false_eq_true, false_implies, forall_const, if_true, if_false, and_self, Nat.reduceLeDiff, Nat.reduceAdd, Nat.zero_le, i10, i01, kz0, kz1, lt_le, kc5, kc8, kc9, kr5_0, kr5_1, ki5_2, ki8_2, ki9_2, p1, p2, p3, p4, p5, p6, p7, p8, a1, a2, b1, os]
  · simp only [a2] at p1 p2 p3 p4 p5 p6 p7 p8 b1 b2 wz
    simp only [o240_0, o240_1, o240_4, o240_5, o240_6, o240_7, o240_8, o240_11, o240_12, o240_13, o240_14, o240_15, o240_18, o240_21, o240_22, o240_25, o240_28, o240_29, o240_32, o240_35, o240_36, o240_37, o240_38, o240_41, o240_42, o240_43, o240_46, o240_47, o240_49, o240_50, o240_51, o240_54, o240_55, o240_56, o240_81, o240_82, o240_85, o240_88, o240_89, o240_92, o240_95, o240_96, o240_99, o240_100, o240_103, o240_106, o240_107, o240_110, o240_111, o240_112, o240_115, o240_116, o240_119, o240_122, o240_123, o240_126, o240_127, o240_130, o240_131, o240_132, o240_135, o240_137, o240_138, o240_139, o240_140, o240_143, o240_144, o240_145, o240_148, o240_151, o240_152, o240_155, o240_156, c_X7_isRight, c_X8_oldest (x2 := A 25) (x3 := A 26) (a := A 27) (w := A 31) (r := A 34), c_X8_liesOf (x2 := A 25) (x3 := A 26) (a := A 27) (w := A 31) (r := A 34), c_X8_roomOf (x2 := A 25) (x3 := A 26) (a := A 27) (w := A 31) (r := A 34), c_X7_rests, mcs_0, mcs_i, Kn_v, mrf_some, true_and, and_true, not_true_eq_false, not_false_eq_true, false_implies, forall_const, if_true, and_self, Nat.reduceLeDiff, Nat.reduceAdd, Nat.zero_le, i10, i01, kz0, kz1, lt_le, Int32.reduceLT, cl0, kc22, kc25, kc26, kc27, kc31, kc34, kn25, kn26, kn27, kr22_2, kr22_3, kr22_4, kr25_0, kr26_0, ki31_1, ki34_1, p1, p2, p3, p4, p5, p6, p7, p8, g1, g2, g3, g4, g5, g6, omk, a1, a2, b2, hT, os, vq3, cl0, wz, qpe2, Int32.reduceLT]
  · simp only [a2] at p1 p2 p3 p4 p5 p6 p7 p8 b1 b2 b3 b4 wz
    simp only [o24_0, o24_1, o24_4, o24_7, o24_10, o24_11, o24_14, o24_17, o24_20, o24_21, o24_24, o24_27, o24_28, o24_31, o24_34, o24_37, o24_38, o24_41, o24_44, o24_45, o24_48, o24_49, o26_0, o26_1, o26_4, o26_7, o26_8, o26_11, o26_14, o26_17, o26_18, o26_21, o26_22, o26_23, o26_24, o26_27, o26_30, o26_31, o26_34, o26_37, o26_40, o26_41, o26_44, o26_45, o26_46, o26_47, o26_50, o26_53, o26_54, o26_57, o26_60, o26_61, o26_62, o26_65, o26_66, o26_69, o26_70, o26_73, o26_74, o26_75, o26_78, o26_79, o26_80, o26_83, o26_86, o26_89, o26_90, o26_93, o26_94, o27_0, o27_1, o27_4, o27_5, o27_8, o27_9, o27_10, o27_13, o27_16, o27_17, o27_18, o27_21, o27_24, o27_27, o27_28, o27_31, o27_32, c_X3_isOrdered, c_X1_lying (w := A 8) (r := A 9), c_X1_kept (w := A 8) (r := A 9), c_X1_freeCells (w := A 8) (r := A 9), c_X1_hasNone (w := A 8) (r := A 9), c_X1_hasNoRest (w := A 8) (r := A 9), mcs_0, mcs_i, Kn_v, mrf_some, true_and, and_true, not_true_eq_false, not_false_eq_true, false_implies, forall_const, if_true, if_false, and_self, Nat.reduceLeDiff, Nat.reduceAdd, Nat.zero_le, i10, i01, kz0, kz1, lt_le, kc5, kc8, kc9, kr5_0, kr5_1, ki5_2, ki8_2, ki9_2, p1, p2, p3, p4, p5, p6, p7, p8, a1, a2, b1, b2, os]
  · simp only [a2] at p1 p2 p3 p4 p5 p6 p7 p8 b1 b2 b3 b4 wz
    simp only [o240_0, o240_1, o240_4, o240_5, o240_6, o240_7, o240_8, o240_11, o240_12, o240_13, o240_14, o240_15, o240_18, o240_21, o240_22, o240_25, o240_28, o240_29, o240_32, o240_35, o240_36, o240_37, o240_38, o240_41, o240_42, o240_43, o240_46, o240_47, o240_49, o240_50, o240_51, o240_54, o240_55, o240_56, o240_81, o240_82, o240_85, o240_88, o240_89, o240_92, o240_95, o240_96, o240_99, o240_100, o240_103, o240_106, o240_107, o240_110, o240_111, o240_112, o240_115, o240_116, o240_119, o240_122, o240_123, o240_126, o240_127, o240_130, o240_131, o240_132, o240_135, o240_137, o240_138, o240_139, o240_140, o240_143, o240_144, o240_145, o240_148, o240_151, o240_152, o240_155, o240_156, c_X7_isRight, c_X8_oldest (x2 := A 25) (x3 := A 26) (a := A 27) (w := A 31) (r := A 34), c_X8_liesOf (x2 := A 25) (x3 := A 26) (a := A 27) (w := A 31) (r := A 34), c_X8_roomOf (x2 := A 25) (x3 := A 26) (a := A 27) (w := A 31) (r := A 34), c_X7_rests, mcs_0, mcs_i, Kn_v, mrf_some, true_and, and_true, not_true_eq_false, not_false_eq_true, false_implies, forall_const, if_true, and_self, Nat.reduceLeDiff, Nat.reduceAdd, Nat.zero_le, i10, i01, kz0, kz1, lt_le, Int32.reduceLT, cl0, kc22, kc25, kc26, kc27, kc31, kc34, kn25, kn26, kn27, kr22_2, kr22_3, kr22_4, kr25_0, kr26_0, ki31_1, ki34_1, p1, p2, p3, p4, p5, p6, p7, p8, g1, g2, g3, g4, g5, g6, omk, a1, a2, b1, b3, hT, os, vq3, cl0, qpe2, Int32.reduceLT]

set_option maxRecDepth 100000 in
theorem qS_1 : ∀ t ∈ QS1, ((¬ t.2.2.1 < -1 ∧ ¬ t.1 < t.2.2.1 ∧ ¬ t.2.1 < t.1 ∧ ¬ 3 < t.2.1) ∧ (¬ t.2.2.2.2.2.1 < -1 ∧ ¬ t.2.2.2.1 < t.2.2.2.2.2.1 ∧ ¬ t.2.2.2.2.1 < t.2.2.2.1 ∧ ¬ 3 < t.2.2.2.2.1) ∧ t.2.2.1 < 0) ∧ ((t.2.1 = 3 ∧ ¬ t.2.2.2.2.1 = 3) ∨ (¬ t.2.1 = 3 ∧ t.2.2.2.2.1 = 3)) ∧ ((¬ t.2.2.2.2.1 - t.2.2.2.1 = 0 ∧ 0 < t.2.2.2.2.1 - t.2.2.2.1) ∨ (t.2.2.2.2.1 - t.2.2.2.1 = 0 ∧ ¬ t.2.1 - t.1 = 0 ∧ 0 < t.2.1 - t.1 ∧ ¬ 0 < t.2.2.2.2.1 - t.2.2.2.1)) ∧ lyF t + (t.2.2.2.1 - olF t) + frF 1 t = 3 := by decide +kernel
theorem qo_1 {A : Nat → Nat} {h : MH} {Q : MR → MH → Prop} (R : Rl A h) : (Ok 24 0 [.ref (A 6)] [] h 0 0 Q ↔ Q (.inl (some (.int 1))) h) ∧ (Ok 240 0 [.ref (A 22), .int 1, mk0, mk0, mk0] [] h 0 0 Q ↔ Q (.inl (some (.int 1))) h) := by
  have R0 := R
  obtain ⟨vk, vcn, v0, v1, v2, vp, vl0, vl1, vlr, vsr, vc, tx⟩ := R0
  have vk0 := vk
  have vcn0 := vcn
  (refine K_el vk0 ?_; intros hA kc0 kc1 kc2 kc3 kc4 kc5 kc6 kc7 kc8 kc9 kc10 kc11 kc12 kc13 kc14 kc15 kc16 kc17 kc18 kc19 kc20 kc21 kc22 kc23 kc24 kc25 kc26 kc27 kc28 kc29 kc30 kc31 kc32 kc33 kc34 kc35 kc36 kc37 kc38 kc39 kz kt kn3 kn4 kn18 kn21 kn23 kn24 kn25 kn26 kn27 kn29 kn30 kr0_0 kr0_1 kr0_2 kr0_3 kr0_4 kr0_5 kr0_7 kr0_8 kr0_9 kr0_10 kr1_0 kr2_0 kr5_0 kr5_1 kr6_0 kr6_1 kr7_0 kr7_1 kr8_0 kr9_0 kr10_0 kr11_0 kr12_0 kr13_0 kr14_0 kr15_0 kr16_0 kr17_0 kr19_0 kr19_1 kr22_0 kr22_1 kr22_2 kr22_3 kr22_4 kr22_5 kr22_7 kr22_8 kr25_0 kr25_1 kr25_2 kr26_0 kr26_1 kr26_2 kr29_0 kr29_1)
  (refine Cn_el vcn0 ?_; intros ki5_2 ki6_2 ki7_2 ki8_1 ki8_2 ki8_3 ki9_1 ki9_2 ki9_3 ki10_1 ki10_2 ki10_3 ki11_1 ki11_2 ki11_3 ki12_1 ki12_2 ki12_3 ki13_1 ki13_2 ki13_3 ki14_1 ki14_2 ki14_3 ki28_0 ki28_1 ki31_0 ki31_1 ki32_0 ki32_1 ki33_0 ki33_1 ki34_0 ki34_1 ki35_0 ki35_1 ki36_0 ki36_1)
  have hAe : ∀ i j, i < 40 → j < 40 → (A i = A j ↔ i = j) := hA
  have hm := R.2.2.2.1.2
  have he := R.2.2.2.1.1
  have hT : mT h (A 27) 1 (A 32) (A 35) = cT h (A 6) (A 10) (A 11) := he.symm
  obtain ⟨⟨ow, orr, omk⟩, orest⟩ := qS_1 _ hm
  replace ow : ¬ g_i h (A 10) 6 < -1 ∧ ¬ g_i h (A 10) 4 < g_i h (A 10) 6 ∧ ¬ g_i h (A 10) 5 < g_i h (A 10) 4 ∧ ¬ 3 < g_i h (A 10) 5 := ow
  replace orr : ¬ g_i h (A 11) 6 < -1 ∧ ¬ g_i h (A 11) 4 < g_i h (A 11) 6 ∧ ¬ g_i h (A 11) 5 < g_i h (A 11) 4 ∧ ¬ 3 < g_i h (A 11) 5 := orr
  replace omk : g_i h (A 10) 6 < 0 := omk
  have ow2 := ow
  have orr2 := orr
  obtain ⟨p1, p2, p3, p4⟩ := ow2
  obtain ⟨p5, p6, p7, p8⟩ := orr2
  have he2 := he
  simp only [cT, mT, Prod.mk.injEq] at he2
  obtain ⟨g1, g2, g3, g4, g5, g6, g7⟩ := he2
  replace g1 := g1.symm
  replace g2 := g2.symm
  replace g3 := g3.symm
  replace g4 := g4.symm
  replace g5 := g5.symm
  replace g6 := g6.symm
  replace g7 := g7.symm
  obtain ⟨oa, ob, os⟩ := orest
  replace oa : (g_i h (A 10) 5 = 3 ∧ ¬ g_i h (A 11) 5 = 3) ∨ (¬ g_i h (A 10) 5 = 3 ∧ g_i h (A 11) 5 = 3) := oa
  replace ob : (¬ g_i h (A 11) 5 - g_i h (A 11) 4 = 0 ∧ 0 < g_i h (A 11) 5 - g_i h (A 11) 4) ∨ (g_i h (A 11) 5 - g_i h (A 11) 4 = 0 ∧ ¬ g_i h (A 10) 5 - g_i h (A 10) 4 = 0 ∧ 0 < g_i h (A 10) 5 - g_i h (A 10) 4 ∧ ¬ 0 < g_i h (A 11) 5 - g_i h (A 11) 4) := ob
  replace os : lyF (cT h (A 6) (A 10) (A 11)) + (g_i h (A 11) 4 - olF (cT h (A 6) (A 10) (A 11))) + frF 1 (cT h (A 6) (A 10) (A 11)) = 3 := os
  have wz : (0 < g_i h (A 10) 5 - g_i h (A 10) 4) = True ∨ (0 < g_i h (A 10) 5 - g_i h (A 10) 4) = False := by
    by_cases z : 0 < g_i h (A 10) 5 - g_i h (A 10) 4
    · exact Or.inl (eq_true z)
    · exact Or.inr (eq_false z)
  rcases oa with ⟨a1, a2⟩ | ⟨a1, a2⟩ <;> rcases ob with ⟨b1, b2⟩ | ⟨b1, b2, b3, b4⟩ <;> rcases wz with wz | wz <;> (first | (exfalso; rw [wz] at b3; exact b3) | skip) <;> (refine ⟨?_, ?_⟩)
  · simp only [a1] at p1 p2 p3 p4 p5 p6 p7 p8 b1 b2 wz
    simp only [o24_0, o24_1, o24_4, o24_7, o24_10, o24_11, o24_14, o24_17, o24_20, o24_21, o24_24, o24_27, o24_28, o24_31, o24_34, o24_37, o24_38, o24_41, o24_44, o24_45, o24_48, o24_49, o26_0, o26_1, o26_4, o26_7, o26_8, o26_11, o26_14, o26_17, o26_18, o26_21, o26_22, o26_23, o26_24, o26_27, o26_30, o26_31, o26_34, o26_37, o26_40, o26_41, o26_44, o26_45, o26_46, o26_47, o26_50, o26_53, o26_54, o26_57, o26_60, o26_61, o26_62, o26_65, o26_66, o26_69, o26_70, o26_73, o26_74, o26_75, o26_78, o26_79, o26_80, o26_83, o26_86, o26_89, o26_90, o26_93, o26_94, o27_0, o27_1, o27_4, o27_5, o27_8, o27_9, o27_10, o27_13, o27_16, o27_17, o27_18, o27_21, o27_24, o27_27, o27_28, o27_31, o27_32, c_X3_isOrdered, c_X1_lying (w := A 10) (r := A 11), c_X1_kept (w := A 10) (r := A 11), c_X1_freeCells (w := A 10) (r := A 11), c_X1_hasNone (w := A 10) (r := A 11), c_X1_hasNoRest (w := A 10) (r := A 11), mcs_0, mcs_i, Kn_v, mrf_some, true_and, and_true, not_true_eq_false, not_false_eq_true, false_implies, forall_const, if_true, if_false, and_self, Nat.reduceLeDiff, Nat.reduceAdd, Nat.zero_le, i10, i01, kz0, kz1, lt_le, kc6, kc10, kc11, kr6_0, kr6_1, ki6_2, ki10_2, ki11_2, p1, p2, p3, p4, p5, p6, p7, p8, a1, a2, b1, os]
  · simp only [a1] at p1 p2 p3 p4 p5 p6 p7 p8 b1 b2 wz
    simp only [o240_0, o240_1, o240_4, o240_5, o240_6, o240_7, o240_8, o240_11, o240_12, o240_13, o240_14, o240_15, o240_18, o240_21, o240_22, o240_25, o240_28, o240_29, o240_32, o240_35, o240_36, o240_37, o240_38, o240_41, o240_42, o240_43, o240_46, o240_47, o240_49, o240_50, o240_51, o240_54, o240_55, o240_56, o240_81, o240_82, o240_85, o240_88, o240_89, o240_92, o240_95, o240_96, o240_99, o240_100, o240_103, o240_106, o240_107, o240_110, o240_111, o240_112, o240_115, o240_116, o240_119, o240_122, o240_123, o240_126, o240_127, o240_130, o240_131, o240_132, o240_135, o240_137, o240_138, o240_139, o240_140, o240_143, o240_144, o240_145, o240_148, o240_151, o240_152, o240_155, o240_156, c_X7_isRight, c_X8_oldest (x2 := A 25) (x3 := A 26) (a := A 27) (w := A 32) (r := A 35), c_X8_liesOf (x2 := A 25) (x3 := A 26) (a := A 27) (w := A 32) (r := A 35), c_X8_roomOf (x2 := A 25) (x3 := A 26) (a := A 27) (w := A 32) (r := A 35), c_X7_rests, mcs_0, mcs_i, Kn_v, mrf_some, true_and, and_true, not_true_eq_false, not_false_eq_true, false_implies, forall_const, if_true, and_self, Nat.reduceLeDiff, Nat.reduceAdd, Nat.zero_le, i10, i01, kz0, kz1, lt_le, Int32.reduceLT, cl1, kc22, kc25, kc26, kc27, kc32, kc35, kn25, kn26, kn27, kr22_2, kr22_3, kr22_4, kr25_1, kr26_1, ki32_1, ki35_1, p1, p2, p3, p4, p5, p6, p7, p8, g1, g2, g3, g4, g5, g6, omk, a1, a2, b2, hT, os, vq3, cl1, wz, qpe2, Int32.reduceLT]
  · simp only [a1] at p1 p2 p3 p4 p5 p6 p7 p8 b1 b2 wz
    simp only [o24_0, o24_1, o24_4, o24_7, o24_10, o24_11, o24_14, o24_17, o24_20, o24_21, o24_24, o24_27, o24_28, o24_31, o24_34, o24_37, o24_38, o24_41, o24_44, o24_45, o24_48, o24_49, o26_0, o26_1, o26_4, o26_7, o26_8, o26_11, o26_14, o26_17, o26_18, o26_21, o26_22, o26_23, o26_24, o26_27, o26_30, o26_31, o26_34, o26_37, o26_40, o26_41, o26_44, o26_45, o26_46, o26_47, o26_50, o26_53, o26_54, o26_57, o26_60, o26_61, o26_62, o26_65, o26_66, o26_69, o26_70, o26_73, o26_74, o26_75, o26_78, o26_79, o26_80, o26_83, o26_86, o26_89, o26_90, o26_93, o26_94, o27_0, o27_1, o27_4, o27_5, o27_8, o27_9, o27_10, o27_13, o27_16, o27_17, o27_18, o27_21, o27_24, o27_27, o27_28, o27_31, o27_32, c_X3_isOrdered, c_X1_lying (w := A 10) (r := A 11), c_X1_kept (w := A 10) (r := A 11), c_X1_freeCells (w := A 10) (r := A 11), c_X1_hasNone (w := A 10) (r := A 11), c_X1_hasNoRest (w := A 10) (r := A 11), mcs_0, mcs_i, Kn_v, mrf_some, true_and, and_true, not_true_eq_false, not_false_eq_true, false_implies, forall_const, if_true, if_false, and_self, Nat.reduceLeDiff, Nat.reduceAdd, Nat.zero_le, i10, i01, kz0, kz1, lt_le, kc6, kc10, kc11, kr6_0, kr6_1, ki6_2, ki10_2, ki11_2, p1, p2, p3, p4, p5, p6, p7, p8, a1, a2, b1, os]
  · simp only [a1] at p1 p2 p3 p4 p5 p6 p7 p8 b1 b2 wz
    simp only [o240_0, o240_1, o240_4, o240_5, o240_6, o240_7, o240_8, o240_11, o240_12, o240_13, o240_14, o240_15, o240_18, o240_21, o240_22, o240_25, o240_28, o240_29, o240_32, o240_35, o240_36, o240_37, o240_38, o240_41, o240_42, o240_43, o240_46, o240_47, o240_49, o240_50, o240_51, o240_54, o240_55, o240_56, o240_81, o240_82, o240_85, o240_88, o240_89, o240_92, o240_95, o240_96, o240_99, o240_100, o240_103, o240_106, o240_107, o240_110, o240_111, o240_112, o240_115, o240_116, o240_119, o240_122, o240_123, o240_126, o240_127, o240_130, o240_131, o240_132, o240_135, o240_137, o240_138, o240_139, o240_140, o240_143, o240_144, o240_145, o240_148, o240_151, o240_152, o240_155, o240_156, c_X7_isRight, c_X8_oldest (x2 := A 25) (x3 := A 26) (a := A 27) (w := A 32) (r := A 35), c_X8_liesOf (x2 := A 25) (x3 := A 26) (a := A 27) (w := A 32) (r := A 35), c_X8_roomOf (x2 := A 25) (x3 := A 26) (a := A 27) (w := A 32) (r := A 35), c_X7_rests, mcs_0, mcs_i, Kn_v, mrf_some, true_and, and_true, not_true_eq_false, not_false_eq_true, false_implies, forall_const, if_true, and_self, Nat.reduceLeDiff, Nat.reduceAdd, Nat.zero_le, i10, i01, kz0, kz1, lt_le, Int32.reduceLT, cl1, kc22, kc25, kc26, kc27, kc32, kc35, kn25, kn26, kn27, kr22_2, kr22_3, kr22_4, kr25_1, kr26_1, ki32_1, ki35_1, p1, p2, p3, p4, p5, p6, p7, p8, g1, g2, g3, g4, g5, g6, omk, a1, a2, b2, hT, os, vq3, cl1, wz, qpe2, Int32.reduceLT]
  · simp only [a1] at p1 p2 p3 p4 p5 p6 p7 p8 b1 b2 b3 b4 wz
    simp only [o24_0, o24_1, o24_4, o24_7, o24_10, o24_11, o24_14, o24_17, o24_20, o24_21, o24_24, o24_27, o24_28, o24_31, o24_34, o24_37, o24_38, o24_41, o24_44, o24_45, o24_48, o24_49, o26_0, o26_1, o26_4, o26_7, o26_8, o26_11, o26_14, o26_17, o26_18, o26_21, o26_22, o26_23, o26_24, o26_27, o26_30, o26_31, o26_34, o26_37, o26_40, o26_41, o26_44, o26_45, o26_46, o26_47, o26_50, o26_53, o26_54, o26_57, o26_60, o26_61, o26_62, o26_65, o26_66, o26_69, o26_70, o26_73, o26_74, o26_75, o26_78, o26_79, o26_80, o26_83, o26_86, o26_89, o26_90, o26_93, o26_94, o27_0, o27_1, o27_4, o27_5, o27_8, o27_9, o27_10, o27_13, o27_16, o27_17, o27_18, o27_21, o27_24, o27_27, o27_28, o27_31, o27_32, c_X3_isOrdered, c_X1_lying (w := A 10) (r := A 11), c_X1_kept (w := A 10) (r := A 11), c_X1_freeCells (w := A 10) (r := A 11), c_X1_hasNone (w := A 10) (r := A 11), c_X1_hasNoRest (w := A 10) (r := A 11), mcs_0, mcs_i, Kn_v, mrf_some, true_and, and_true, not_true_eq_false, not_false_eq_true, false_implies, forall_const, if_true, if_false, and_self, Nat.reduceLeDiff, Nat.reduceAdd, Nat.zero_le, i10, i01, kz0, kz1, lt_le, kc6, kc10, kc11, kr6_0, kr6_1, ki6_2, ki10_2, ki11_2, p1, p2, p3, p4, p5, p6, p7, p8, a1, a2, b1, b2, os]
  · simp only [a1] at p1 p2 p3 p4 p5 p6 p7 p8 b1 b2 b3 b4 wz
    simp only [o240_0, o240_1, o240_4, o240_5, o240_6, o240_7, o240_8, o240_11, o240_12, o240_13, o240_14, o240_15, o240_18, o240_21, o240_22, o240_25, o240_28, o240_29, o240_32, o240_35, o240_36, o240_37, o240_38, o240_41, o240_42, o240_43, o240_46, o240_47, o240_49, o240_50, o240_51, o240_54, o240_55, o240_56, o240_81, o240_82, o240_85, o240_88, o240_89, o240_92, o240_95, o240_96, o240_99, o240_100, o240_103, o240_106, o240_107, o240_110, o240_111, o240_112, o240_115, o240_116, o240_119, o240_122, o240_123, o240_126, o240_127, o240_130, o240_131, o240_132, o240_135, o240_137, o240_138, o240_139, o240_140, o240_143, o240_144, o240_145, o240_148, o240_151, o240_152, o240_155, o240_156, c_X7_isRight, c_X8_oldest (x2 := A 25) (x3 := A 26) (a := A 27) (w := A 32) (r := A 35), c_X8_liesOf (x2 := A 25) (x3 := A 26) (a := A 27) (w := A 32) (r := A 35), c_X8_roomOf (x2 := A 25) (x3 := A 26) (a := A 27) (w := A 32) (r := A 35), c_X7_rests, mcs_0, mcs_i, Kn_v, mrf_some, true_and, and_true, not_true_eq_false, not_false_eq_true, false_implies, forall_const, if_true, and_self, Nat.reduceLeDiff, Nat.reduceAdd, Nat.zero_le, i10, i01, kz0, kz1, lt_le, Int32.reduceLT, cl1, kc22, kc25, kc26, kc27, kc32, kc35, kn25, kn26, kn27, kr22_2, kr22_3, kr22_4, kr25_1, kr26_1, ki32_1, ki35_1, p1, p2, p3, p4, p5, p6, p7, p8, g1, g2, g3, g4, g5, g6, omk, a1, a2, b1, b3, hT, os, vq3, cl1, qpe2, Int32.reduceLT]
  · simp only [a2] at p1 p2 p3 p4 p5 p6 p7 p8 b1 b2 wz
    simp only [o24_0, o24_1, o24_4, o24_7, o24_10, o24_11, o24_14, o24_17, o24_20, o24_21, o24_24, o24_27, o24_28, o24_31, o24_34, o24_37, o24_38, o24_41, o24_44, o24_45, o24_48, o24_49, o26_0, o26_1, o26_4, o26_7, o26_8, o26_11, o26_14, o26_17, o26_18, o26_21, o26_22, o26_23, o26_24, o26_27, o26_30, o26_31, o26_34, o26_37, o26_40, o26_41, o26_44, o26_45, o26_46, o26_47, o26_50, o26_53, o26_54, o26_57, o26_60, o26_61, o26_62, o26_65, o26_66, o26_69, o26_70, o26_73, o26_74, o26_75, o26_78, o26_79, o26_80, o26_83, o26_86, o26_89, o26_90, o26_93, o26_94, o27_0, o27_1, o27_4, o27_5, o27_8, o27_9, o27_10, o27_13, o27_16, o27_17, o27_18, o27_21, o27_24, o27_27, o27_28, o27_31, o27_32, c_X3_isOrdered, c_X1_lying (w := A 10) (r := A 11), c_X1_kept (w := A 10) (r := A 11), c_X1_freeCells (w := A 10) (r := A 11), c_X1_hasNone (w := A 10) (r := A 11), c_X1_hasNoRest (w := A 10) (r := A 11), mcs_0, mcs_i, Kn_v, mrf_some, true_and, and_true, not_true_eq_false, not_false_eq_true, false_implies, forall_const, if_true, if_false, and_self, Nat.reduceLeDiff, Nat.reduceAdd, Nat.zero_le, i10, i01, kz0, kz1, lt_le, kc6, kc10, kc11, kr6_0, kr6_1, ki6_2, ki10_2, ki11_2, p1, p2, p3, p4, p5, p6, p7, p8, a1, a2, b1, os]
  · simp only [a2] at p1 p2 p3 p4 p5 p6 p7 p8 b1 b2 wz
    simp only [o240_0, o240_1, o240_4, o240_5, o240_6, o240_7, o240_8, o240_11, o240_12, o240_13, o240_14, o240_15, o240_18, o240_21, o240_22, o240_25, o240_28, o240_29, o240_32, o240_35, o240_36, o240_37, o240_38, o240_41, o240_42, o240_43, o240_46, o240_47, o240_49, o240_50, o240_51, o240_54, o240_55, o240_56, o240_81, o240_82, o240_85, o240_88, o240_89, o240_92, o240_95, o240_96, o240_99, o240_100, o240_103, o240_106, o240_107, o240_110, o240_111, o240_112, o240_115, o240_116, o240_119, o240_122, o240_123, o240_126, o240_127, o240_130, o240_131, o240_132, o240_135, o240_137, o240_138, o240_139, o240_140, o240_143, o240_144, o240_145, o240_148, o240_151, o240_152, o240_155, o240_156, c_X7_isRight, c_X8_oldest (x2 := A 25) (x3 := A 26) (a := A 27) (w := A 32) (r := A 35), c_X8_liesOf (x2 := A 25) (x3 := A 26) (a := A 27) (w := A 32) (r := A 35), c_X8_roomOf (x2 := A 25) (x3 := A 26) (a := A 27) (w := A 32) (r := A 35), c_X7_rests, mcs_0, mcs_i, Kn_v, mrf_some, true_and, and_true, not_true_eq_false, not_false_eq_true, false_implies, forall_const, if_true, and_self, Nat.reduceLeDiff, Nat.reduceAdd, Nat.zero_le, i10, i01, kz0, kz1, lt_le, Int32.reduceLT, cl1, kc22, kc25, kc26, kc27, kc32, kc35, kn25, kn26, kn27, kr22_2, kr22_3, kr22_4, kr25_1, kr26_1, ki32_1, ki35_1, p1, p2, p3, p4, p5, p6, p7, p8, g1, g2, g3, g4, g5, g6, omk, a1, a2, b2, hT, os, vq3, cl1, wz, qpe2, Int32.reduceLT]
  · simp only [a2] at p1 p2 p3 p4 p5 p6 p7 p8 b1 b2 wz
    simp only [o24_0, o24_1, o24_4, o24_7, o24_10, o24_11, o24_14, o24_17, o24_20, o24_21, o24_24, o24_27, o24_28, o24_31, o24_34, o24_37, o24_38, o24_41, o24_44, o24_45, o24_48, o24_49, o26_0, o26_1, o26_4, o26_7, o26_8, o26_11, o26_14, o26_17, o26_18, o26_21, o26_22, o26_23, o26_24, o26_27, o26_30, o26_31, o26_34, o26_37, o26_40, o26_41, o26_44, o26_45, o26_46, o26_47, o26_50, o26_53, o26_54, o26_57, o26_60, o26_61, o26_62, o26_65, o26_66, o26_69, o26_70, o26_73, o26_74, o26_75, o26_78, o26_79, o26_80, o26_83, o26_86, o26_89, o26_90, o26_93, o26_94, o27_0, o27_1, o27_4, o27_5, o27_8, o27_9, o27_10, o27_13, o27_16, o27_17, o27_18, o27_21, o27_24, o27_27, o27_28, o27_31, o27_32, c_X3_isOrdered, c_X1_lying (w := A 10) (r := A 11), c_X1_kept (w := A 10) (r := A 11), c_X1_freeCells (w := A 10) (r := A 11), c_X1_hasNone (w := A 10) (r := A 11), c_X1_hasNoRest (w := A 10) (r := A 11), mcs_0, mcs_i, Kn_v, mrf_some, true_and, and_true, not_true_eq_false, not_false_eq_true, false_implies, forall_const, if_true, if_false, and_self, Nat.reduceLeDiff, Nat.reduceAdd, Nat.zero_le, i10, i01, kz0, kz1, lt_le, kc6, kc10, kc11, kr6_0, kr6_1, ki6_2, ki10_2, ki11_2, p1, p2, p3, p4, p5, p6, p7, p8, a1, a2, b1, os]
  · simp only [a2] at p1 p2 p3 p4 p5 p6 p7 p8 b1 b2 wz
    simp only [o240_0, o240_1, o240_4, o240_5, o240_6, o240_7, o240_8, o240_11, o240_12, o240_13, o240_14, o240_15, o240_18, o240_21, o240_22, o240_25, o240_28, o240_29, o240_32, o240_35, o240_36, o240_37, o240_38, o240_41, o240_42, o240_43, o240_46, o240_47, o240_49, o240_50, o240_51, o240_54, o240_55, o240_56, o240_81, o240_82, o240_85, o240_88, o240_89, o240_92, o240_95, o240_96, o240_99, o240_100, o240_103, o240_106, o240_107, o240_110, o240_111, o240_112, o240_115, o240_116, o240_119, o240_122, o240_123, o240_126, o240_127, o240_130, o240_131, o240_132, o240_135, o240_137, o240_138, o240_139, o240_140, o240_143, o240_144, o240_145, o240_148, o240_151, o240_152, o240_155, o240_156, c_X7_isRight, c_X8_oldest (x2 := A 25) (x3 := A 26) (a := A 27) (w := A 32) (r := A 35), c_X8_liesOf (x2 := A 25) (x3 := A 26) (a := A 27) (w := A 32) (r := A 35), c_X8_roomOf (x2 := A 25) (x3 := A 26) (a := A 27) (w := A 32) (r := A 35), c_X7_rests, mcs_0, mcs_i, Kn_v, mrf_some, true_and, and_true, not_true_eq_false, not_false_eq_true, false_implies, forall_const, if_true, and_self, Nat.reduceLeDiff, Nat.reduceAdd, Nat.zero_le, i10, i01, kz0, kz1, lt_le, Int32.reduceLT, cl1, kc22, kc25, kc26, kc27, kc32, kc35, kn25, kn26, kn27, kr22_2, kr22_3, kr22_4, kr25_1, kr26_1, ki32_1, ki35_1, p1, p2, p3, p4, p5, p6, p7, p8, g1, g2, g3, g4, g5, g6, omk, a1, a2, b2, hT, os, vq3, cl1, wz, qpe2, Int32.reduceLT]
  · simp only [a2] at p1 p2 p3 p4 p5 p6 p7 p8 b1 b2 b3 b4 wz
    simp only [o24_0, o24_1, o24_4, o24_7, o24_10, o24_11, o24_14, o24_17, o24_20, o24_21, o24_24, o24_27, o24_28, o24_31, o24_34, o24_37, o24_38, o24_41, o24_44, o24_45, o24_48, o24_49, o26_0, o26_1, o26_4, o26_7, o26_8, o26_11, o26_14, o26_17, o26_18, o26_21, o26_22, o26_23, o26_24, o26_27, o26_30, o26_31, o26_34, o26_37, o26_40, o26_41, o26_44, o26_45, o26_46, o26_47, o26_50, o26_53, o26_54, o26_57, o26_60, o26_61, o26_62, o26_65, o26_66, o26_69, o26_70, o26_73, o26_74, o26_75, o26_78, o26_79, o26_80, o26_83, o26_86, o26_89, o26_90, o26_93, o26_94, o27_0, o27_1, o27_4, o27_5, o27_8, o27_9, o27_10, o27_13, o27_16, o27_17, o27_18, o27_21, o27_24, o27_27, o27_28, o27_31, o27_32, c_X3_isOrdered, c_X1_lying (w := A 10) (r := A 11), c_X1_kept (w := A 10) (r := A 11), c_X1_freeCells (w := A 10) (r := A 11), c_X1_hasNone (w := A 10) (r := A 11), c_X1_hasNoRest (w := A 10) (r := A 11), mcs_0, mcs_i, Kn_v, mrf_some, true_and, and_true, not_true_eq_false, not_false_eq_true, false_implies, forall_const, if_true, if_false, and_self, Nat.reduceLeDiff, Nat.reduceAdd, Nat.zero_le, i10, i01, kz0, kz1, lt_le, kc6, kc10, kc11, kr6_0, kr6_1, ki6_2, ki10_2, ki11_2, p1, p2, p3, p4, p5, p6, p7, p8, a1, a2, b1, b2, os]
  · simp only [a2] at p1 p2 p3 p4 p5 p6 p7 p8 b1 b2 b3 b4 wz
    simp only [o240_0, o240_1, o240_4, o240_5, o240_6, o240_7, o240_8, o240_11, o240_12, o240_13, o240_14, o240_15, o240_18, o240_21, o240_22, o240_25, o240_28, o240_29, o240_32, o240_35, o240_36, o240_37, o240_38, o240_41, o240_42, o240_43, o240_46, o240_47, o240_49, o240_50, o240_51, o240_54, o240_55, o240_56, o240_81, o240_82, o240_85, o240_88, o240_89, o240_92, o240_95, o240_96, o240_99, o240_100, o240_103, o240_106, o240_107, o240_110, o240_111, o240_112, o240_115, o240_116, o240_119, o240_122, o240_123, o240_126, o240_127, o240_130, o240_131, o240_132, o240_135, o240_137, o240_138, o240_139, o240_140, o240_143, o240_144, o240_145, o240_148, o240_151, o240_152, o240_155, o240_156, c_X7_isRight, c_X8_oldest (x2 := A 25) (x3 := A 26) (a := A 27) (w := A 32) (r := A 35), c_X8_liesOf (x2 := A 25) (x3 := A 26) (a := A 27) (w := A 32) (r := A 35), c_X8_roomOf (x2 := A 25) (x3 := A 26) (a := A 27) (w := A 32) (r := A 35), c_X7_rests, mcs_0, mcs_i, Kn_v, mrf_some, true_and, and_true, not_true_eq_false, not_false_eq_true, false_implies, forall_const, if_true, and_self, Nat.reduceLeDiff, Nat.reduceAdd, Nat.zero_le, i10, i01, kz0, kz1, lt_le, Int32.reduceLT, cl1, kc22, kc25, kc26, kc27, kc32, kc35, kn25, kn26, kn27, kr22_2, kr22_3, kr22_4, kr25_1, kr26_1, ki32_1, ki35_1, p1, p2, p3, p4, p5, p6, p7, p8, g1, g2, g3, g4, g5, g6, omk, a1, a2, b1, b3, hT, os, vq3, cl1, qpe2, Int32.reduceLT]

set_option maxRecDepth 100000 in
theorem qS_2 : ∀ t ∈ QS2, ((¬ t.2.2.1 < -1 ∧ ¬ t.1 < t.2.2.1 ∧ ¬ t.2.1 < t.1 ∧ ¬ 6 < t.2.1) ∧ (¬ t.2.2.2.2.2.1 < -1 ∧ ¬ t.2.2.2.1 < t.2.2.2.2.2.1 ∧ ¬ t.2.2.2.2.1 < t.2.2.2.1 ∧ ¬ 6 < t.2.2.2.2.1) ∧ t.2.2.1 < 0) ∧ lyF t + frF 0 t + t.2.2.2.1 = 6 := by decide +kernel
theorem qo_2 {A : Nat → Nat} {h : MH} {Q : MR → MH → Prop} (R : Rl A h) : (Ok 24 0 [.ref (A 7)] [] h 0 0 Q ↔ Q (.inl (some (.int 1))) h) ∧ (Ok 240 0 [.ref (A 22), .int 2, mk0, mk0, mk0] [] h 0 0 Q ↔ Q (.inl (some (.int 1))) h) := by
  have R0 := R
  obtain ⟨vk, vcn, v0, v1, v2, vp, vl0, vl1, vlr, vsr, vc, tx⟩ := R0
  have vk0 := vk
  have vcn0 := vcn
  (refine K_el vk0 ?_; intros hA kc0 kc1 kc2 kc3 kc4 kc5 kc6 kc7 kc8 kc9 kc10 kc11 kc12 kc13 kc14 kc15 kc16 kc17 kc18 kc19 kc20 kc21 kc22 kc23 kc24 kc25 kc26 kc27 kc28 kc29 kc30 kc31 kc32 kc33 kc34 kc35 kc36 kc37 kc38 kc39 kz kt kn3 kn4 kn18 kn21 kn23 kn24 kn25 kn26 kn27 kn29 kn30 kr0_0 kr0_1 kr0_2 kr0_3 kr0_4 kr0_5 kr0_7 kr0_8 kr0_9 kr0_10 kr1_0 kr2_0 kr5_0 kr5_1 kr6_0 kr6_1 kr7_0 kr7_1 kr8_0 kr9_0 kr10_0 kr11_0 kr12_0 kr13_0 kr14_0 kr15_0 kr16_0 kr17_0 kr19_0 kr19_1 kr22_0 kr22_1 kr22_2 kr22_3 kr22_4 kr22_5 kr22_7 kr22_8 kr25_0 kr25_1 kr25_2 kr26_0 kr26_1 kr26_2 kr29_0 kr29_1)
  (refine Cn_el vcn0 ?_; intros ki5_2 ki6_2 ki7_2 ki8_1 ki8_2 ki8_3 ki9_1 ki9_2 ki9_3 ki10_1 ki10_2 ki10_3 ki11_1 ki11_2 ki11_3 ki12_1 ki12_2 ki12_3 ki13_1 ki13_2 ki13_3 ki14_1 ki14_2 ki14_3 ki28_0 ki28_1 ki31_0 ki31_1 ki32_0 ki32_1 ki33_0 ki33_1 ki34_0 ki34_1 ki35_0 ki35_1 ki36_0 ki36_1)
  have hAe : ∀ i j, i < 40 → j < 40 → (A i = A j ↔ i = j) := hA
  have hm := R.2.2.2.2.1.2
  have he := R.2.2.2.2.1.1
  have hT : mT h (A 27) 2 (A 33) (A 36) = cT h (A 7) (A 12) (A 13) := he.symm
  obtain ⟨⟨ow, orr, omk⟩, orest⟩ := qS_2 _ hm
  replace ow : ¬ g_i h (A 12) 6 < -1 ∧ ¬ g_i h (A 12) 4 < g_i h (A 12) 6 ∧ ¬ g_i h (A 12) 5 < g_i h (A 12) 4 ∧ ¬ 6 < g_i h (A 12) 5 := ow
  replace orr : ¬ g_i h (A 13) 6 < -1 ∧ ¬ g_i h (A 13) 4 < g_i h (A 13) 6 ∧ ¬ g_i h (A 13) 5 < g_i h (A 13) 4 ∧ ¬ 6 < g_i h (A 13) 5 := orr
  replace omk : g_i h (A 12) 6 < 0 := omk
  have ow2 := ow
  have orr2 := orr
  obtain ⟨p1, p2, p3, p4⟩ := ow2
  obtain ⟨p5, p6, p7, p8⟩ := orr2
  have he2 := he
  simp only [cT, mT, Prod.mk.injEq] at he2
  obtain ⟨g1, g2, g3, g4, g5, g6, g7⟩ := he2
  replace g1 := g1.symm
  replace g2 := g2.symm
  replace g3 := g3.symm
  replace g4 := g4.symm
  replace g5 := g5.symm
  replace g6 := g6.symm
  replace g7 := g7.symm
  have os : lyF (cT h (A 7) (A 12) (A 13)) + frF 0 (cT h (A 7) (A 12) (A 13)) + g_i h (A 13) 4 = 6 := orest
  refine ⟨?_, ?_⟩
  · simp only [o24_0, o24_1, o24_4, o24_7, o24_10, o24_11, o24_14, o24_17, o24_20, o24_21, o24_24, o24_27, o24_28, o24_31, o24_34, o24_37, o24_38, o24_41, o24_44, o24_45, o24_48, o24_49, o26_0, o26_1, o26_4, o26_7, o26_8, o26_11, o26_14, o26_17, o26_18, o26_21, o26_22, o26_23, o26_24, o26_27, o26_30, o26_31, o26_34, o26_37, o26_40, o26_41, o26_44, o26_45, o26_46, o26_47, o26_50, o26_53, o26_54, o26_57, o26_60, o26_61, o26_62, o26_65, o26_66, o26_69, o26_70, o26_73, o26_74, o26_75, o26_78, o26_79, o26_80, o26_83, o26_86, o26_89, o26_90, o26_93, o26_94, o27_0, o27_1, o27_4, o27_5, o27_8, o27_9, o27_10, o27_13, o27_16, o27_17, o27_18, o27_21, o27_24, o27_27, o27_28, o27_31, o27_32, c_X3_isOrdered, c_X1_lying (w := A 12) (r := A 13), c_X1_kept (w := A 12) (r := A 13), c_X1_freeCells (w := A 12) (r := A 13), c_X1_hasNone (w := A 12) (r := A 13), c_X1_hasNoRest (w := A 12) (r := A 13), mcs_0, mcs_i, Kn_v, mrf_some, true_and, and_true, not_true_eq_false, not_false_eq_true, false_implies, forall_const, if_true, and_self, Nat.reduceLeDiff, Nat.reduceAdd, Nat.zero_le, i10, i01, kz0, kz1, lt_le, kc7, kc12, kc13, kr7_0, kr7_1, ki7_2, ki12_2, ki13_2, p1, p2, p3, p4, p5, p6, p7, p8, os]
  · simp only [o240_0, o240_1, o240_4, o240_5, o240_6, o240_7, o240_8, o240_11, o240_12, o240_13, o240_14, o240_15, o240_18, o240_21, o240_22, o240_25, o240_28, o240_29, o240_32, o240_35, o240_36, o240_37, o240_38, o240_41, o240_42, o240_43, o240_46, o240_47, o240_49, o240_50, o240_51, o240_54, o240_55, o240_56, o240_59, o240_60, o240_61, o240_64, o240_65, o240_66, o240_69, o240_70, o240_72, o240_75, o240_76, o240_79, o240_80, o240_81, o240_82, o240_85, o240_88, o240_89, o240_92, o240_95, o240_96, o240_99, o240_100, o240_103, o240_106, o240_107, o240_110, o240_111, o240_112, o240_115, o240_116, o240_119, o240_122, o240_123, o240_126, o240_127, o240_130, o240_131, o240_132, o240_135, o240_137, o240_138, o240_139, o240_140, o240_143, o240_144, o240_145, o240_148, o240_151, o240_152, o240_155, o240_156, c_X7_isRight, c_X8_oldest (x2 := A 25) (x3 := A 26) (a := A 27) (w := A 33) (r := A 36), c_X8_liesOf (x2 := A 25) (x3 := A 26) (a := A 27) (w := A 33) (r := A 36), c_X8_roomOf (x2 := A 25) (x3 := A 26) (a := A 27) (w := A 33) (r := A 36), c_X7_rests, mcs_0, mcs_i, Kn_v, mrf_some, true_and, and_true, not_true_eq_false, not_false_eq_true, false_implies, forall_const, if_true, if_false, and_self, Nat.reduceLeDiff, Nat.reduceAdd, Nat.zero_le, i10, i01, kz0, kz1, lt_le, Classical.not_not, Int32.reduceLT, cl2, kc22, kc25, kc26, kc27, kc33, kc36, kn25, kn26, kn27, kr22_2, kr22_3, kr22_4, kr25_2, kr26_2, ki33_1, ki36_1, p1, p2, p3, p4, p5, p6, p7, p8, g1, g2, g3, g4, g5, g6, omk, hT, os, vq3, cl2, Int32.reduceLT]
end

section
set_option maxRecDepth 16384
theorem sl_loop {A : Nat → Nat} {h : MH} {Q : MR → MH → Prop} (R : Rl A h) : ∀ (d s : Nat) (a2 a4 : Value), s + d = 6 → (Ok 140 2 [.ref (A 0), .int (Int32.ofNat s), a2, mk0, a4] [] h 0 0 Q ↔ Q (.inl (some (.int 1))) h)
  | 0, s, a2, a4, hs => by
    have : s = 6 := by omega
    subst this
    have c1 : (Int32.ofNat 6 < (6 : Int32)) = False := by decide
    rw [o140_2]
    simp only [o140_3, o140_5, o140_8, o140_9, o140_10, o140_61, o140_62, mcs_0, true_and, and_true, not_true_eq_false, not_false_eq_true, false_implies, forall_const, Nat.zero_le, kz1, lt_le, c1]
  | d + 1, s, a2, a4, hs => by
    have ih := sl_loop (Q := Q) R d (s + 1)
    have R0 := R
    obtain ⟨vk, vcn, v0, v1, v2, vp, vl0, vl1, vlr, vsr, vc, tx⟩ := R0
    have vk0 := vk
    have vcn0 := vcn
    (refine K_el vk0 ?_; intros hA kc0 kc1 kc2 kc3 kc4 kc5 kc6 kc7 kc8 kc9 kc10 kc11 kc12 kc13 kc14 kc15 kc16 kc17 kc18 kc19 kc20 kc21 kc22 kc23 kc24 kc25 kc26 kc27 kc28 kc29 kc30 kc31 kc32 kc33 kc34 kc35 kc36 kc37 kc38 kc39 kz kt kn3 kn4 kn18 kn21 kn23 kn24 kn25 kn26 kn27 kn29 kn30 kr0_0 kr0_1 kr0_2 kr0_3 kr0_4 kr0_5 kr0_7 kr0_8 kr0_9 kr0_10 kr1_0 kr2_0 kr5_0 kr5_1 kr6_0 kr6_1 kr7_0 kr7_1 kr8_0 kr9_0 kr10_0 kr11_0 kr12_0 kr13_0 kr14_0 kr15_0 kr16_0 kr17_0 kr19_0 kr19_1 kr22_0 kr22_1 kr22_2 kr22_3 kr22_4 kr22_5 kr22_7 kr22_8 kr25_0 kr25_1 kr25_2 kr26_0 kr26_1 kr26_2 kr29_0 kr29_1)
    (refine Cn_el vcn0 ?_; intros ki5_2 ki6_2 ki7_2 ki8_1 ki8_2 ki8_3 ki9_1 ki9_2 ki9_3 ki10_1 ki10_2 ki10_3 ki11_1 ki11_2 ki11_3 ki12_1 ki12_2 ki12_3 ki13_1 ki13_2 ki13_3 ki14_1 ki14_2 ki14_3 ki28_0 ki28_1 ki31_0 ki31_1 ki32_0 ki32_1 ki33_0 ki33_1 ki34_0 ki34_1 ki35_0 ki35_1 ki36_0 ki36_1)
    have hAe : ∀ i j, i < 40 → j < 40 → (A i = A j ↔ i = j) := hA
    have c1 : (Int32.ofNat s < (6 : Int32)) = True := by
      rw [show (6 : Int32) = Int32.ofNat 6 by decide, n_lt (by omega) (by omega)]
      exact eq_true (by omega)
    have hx := ix_ok (s := Int32.ofNat s) (by rw [n_z (by omega)]; exact fun z => z) (by rw [show (6 : Int32) = Int32.ofNat 6 from rfl, n_lt (by omega) (by omega)]; omega)
    have hx2 := hx
    obtain ⟨⟨j0, j1, j2, j3⟩, -⟩ := hx2
    obtain ⟨l0, l1, l2, l3⟩ := ix_lt hx
    obtain ⟨u0, t0⟩ := vsr _ l0
    obtain ⟨u1, t1⟩ := vsr _ l1
    obtain ⟨u2, t2⟩ := vsr _ l2
    obtain ⟨u3, t3⟩ := vsr _ l3
    obtain ⟨f0, f1, f2, f3⟩ := fo_nm t0 t1 t2 t3
    have c6 : Int32.ofNat s + 1 = Int32.ofNat (s + 1) := n_add s 1
    rw [← ih _ _ (by omega), o140_2]
    simp only [o140_3, o140_5, o140_8, o140_9, o140_10, o140_13, o140_14, o140_15, o140_17, o140_19, o140_20, o140_23, o140_24, o140_26, o140_29, o140_30, o140_31, o140_34, o140_35, o140_37, o140_40, o140_43, o140_44, o140_47, o140_48, o140_49, o140_52, o140_55, o140_58, o140_61, o140_62, c_X5_numberIn (rw := A 2) (cs := A 4), c_X5_fourthOf, c_X5_cellOf, c_X2_read (cs := A 4) (n := 36), mcs_0, mcs_l, mcs_r, Kn_v, mrf_some, true_and, and_true, not_true_eq_false, not_false_eq_true, false_implies, forall_const, Nat.reduceLeDiff, Nat.reduceAdd, Nat.zero_le, kz0, kz1, lt_le, Int32.reduceLT, Int32.reduceAdd, lg_cmp_eq, kc0, kc2, kc4, kn4, kr0_1, kr2_0, c1, hx, j0, j1, j2, j3, u0, u1, u2, u3, i64_back, f0, f1, f2, f3, c6]
    all_goals exact Iff.rfl
theorem c_slots {A : Nat → Nat} {h : MH} {Q : MR → MH → Prop} (R : Rl A h) : Ok 140 0 [.ref (A 0), mk0, mk0, mk0, mk0] [] h 0 0 Q ↔ Q (.inl (some (.int 1))) h := by
  have lp := sl_loop (Q := Q) R 6 0 mk0 mk0 rfl
  simp only [o140_0, o140_1]
  exact lp
/-- what lnOk says, as the code asks -/
theorem ln_ord {lo hi : Int} {x : Nat} {f n s p l m : Int32} (o : lnOk lo hi x f n s p l m) : ¬ m < -1 ∧ ¬ p < m ∧ ¬ l < p ∧ ¬ n < l := by
  obtain ⟨o1, o2, o3, o4, o5, o6, o7, o8, o9, o10⟩ := o
  rw [Int32.lt_iff_toInt_lt, Int32.lt_iff_toInt_lt, Int32.lt_iff_toInt_lt, Int32.lt_iff_toInt_lt, show (-1 : Int32).toInt = -1 from rfl]
  omega
set_option maxRecDepth 100000 in
theorem pS_ord : ∀ t ∈ PS, ¬ t.2.2.1 < -1 ∧ ¬ t.1 < t.2.2.1 ∧ ¬ t.2.1 < t.1 ∧ ¬ 10 < t.2.1 := by decide +kernel
theorem zz64 (x : Int32) : (x.toInt64 = 0) = (x = 0) := by
  rw [show (0 : Int64) = (0 : Int32).toInt64 from rfl, i64_inj]
def edg (A : Nat → Nat) (h : MH) : Prop := g_l h (A 23) 0 = 0 ∧ g_l h (A 23) 15 = 0 ∧ g_i h (A 24) 0 = 0 ∧ g_i h (A 24) 35 = 0
theorem c_wins {A : Nat → Nat} {h : MH} {Q : MR → MH → Prop} (R : Rl A h) : Ok 138 0 [.ref (A 0)] [] h 0 0 Q ↔ Q (.inl (some (.int 1))) h := by
  have R0 := R
  obtain ⟨vk, vcn, v0, v1, v2, vp, vl0, vl1, vlr, vsr, vc, tx⟩ := R0
  have vk0 := vk
  have vcn0 := vcn
  (refine K_el vk0 ?_; intros hA kc0 kc1 kc2 kc3 kc4 kc5 kc6 kc7 kc8 kc9 kc10 kc11 kc12 kc13 kc14 kc15 kc16 kc17 kc18 kc19 kc20 kc21 kc22 kc23 kc24 kc25 kc26 kc27 kc28 kc29 kc30 kc31 kc32 kc33 kc34 kc35 kc36 kc37 kc38 kc39 kz kt kn3 kn4 kn18 kn21 kn23 kn24 kn25 kn26 kn27 kn29 kn30 kr0_0 kr0_1 kr0_2 kr0_3 kr0_4 kr0_5 kr0_7 kr0_8 kr0_9 kr0_10 kr1_0 kr2_0 kr5_0 kr5_1 kr6_0 kr6_1 kr7_0 kr7_1 kr8_0 kr9_0 kr10_0 kr11_0 kr12_0 kr13_0 kr14_0 kr15_0 kr16_0 kr17_0 kr19_0 kr19_1 kr22_0 kr22_1 kr22_2 kr22_3 kr22_4 kr22_5 kr22_7 kr22_8 kr25_0 kr25_1 kr25_2 kr26_0 kr26_1 kr26_2 kr29_0 kr29_1)
  (refine Cn_el vcn0 ?_; intros ki5_2 ki6_2 ki7_2 ki8_1 ki8_2 ki8_3 ki9_1 ki9_2 ki9_3 ki10_1 ki10_2 ki10_3 ki11_1 ki11_2 ki11_3 ki12_1 ki12_2 ki12_3 ki13_1 ki13_2 ki13_3 ki14_1 ki14_2 ki14_3 ki28_0 ki28_1 ki31_0 ki31_1 ki32_0 ki32_1 ki33_0 ki33_1 ki34_0 ki34_1 ki35_0 ki35_1 ki36_0 ki36_1)
  have hAe : ∀ i j, i < 40 → j < 40 → (A i = A j ↔ i = j) := hA
  obtain ⟨⟨p1, p2, p3, p4⟩, pm⟩ := vp
  obtain ⟨q1, q2, q3, q4⟩ := pS_ord _ pm
  simp only at q1 q2 q3 q4
  obtain ⟨⟨x1, x2, x3, x4, x5, x6⟩, ln⟩ := vl0
  obtain ⟨⟨y1, y2, y3, y4, y5, y6⟩, lm⟩ := vl1
  obtain ⟨a1, a2, a3, a4⟩ := ln_ord ln
  obtain ⟨b1, b2, b3, b4⟩ := ln_ord lm
  simp only [o138_0, o138_1, o138_4, o138_7, o138_10, o138_11, o138_14, o138_17, o138_20, o138_21, o138_24, o138_27, o138_30, o138_31, o138_34, o138_35, c_X3_isOrdered, mcs_0, Kn_v, mrf_some, true_and, not_false_eq_true, false_implies, forall_const, if_true, and_self, Nat.zero_le, i10, kz0, kz1, lt_le, kc0, kc14, kc15, kc16, kr0_5, kr0_7, kr0_8, ki14_2, p1, p2, p3, q1, q2, q3, q4, x2, x4, x5, x6, y2, y4, y5, y6, a1, a2, a3, a4, b1, b2, b3, b4]
theorem c_lsound {A : Nat → Nat} {h : MH} {Q : MR → MH → Prop} (R : Rl A h) : Ok 141 0 [.ref (A 0)] [] h 0 0 Q ↔ Q (.inl (some (.int 1))) h := by
  have R0 := R
  obtain ⟨vk, vcn, v0, v1, v2, vp, vl0, vl1, vlr, vsr, vc, tx⟩ := R0
  have vk0 := vk
  have vcn0 := vcn
  (refine K_el vk0 ?_; intros hA kc0 kc1 kc2 kc3 kc4 kc5 kc6 kc7 kc8 kc9 kc10 kc11 kc12 kc13 kc14 kc15 kc16 kc17 kc18 kc19 kc20 kc21 kc22 kc23 kc24 kc25 kc26 kc27 kc28 kc29 kc30 kc31 kc32 kc33 kc34 kc35 kc36 kc37 kc38 kc39 kz kt kn3 kn4 kn18 kn21 kn23 kn24 kn25 kn26 kn27 kn29 kn30 kr0_0 kr0_1 kr0_2 kr0_3 kr0_4 kr0_5 kr0_7 kr0_8 kr0_9 kr0_10 kr1_0 kr2_0 kr5_0 kr5_1 kr6_0 kr6_1 kr7_0 kr7_1 kr8_0 kr9_0 kr10_0 kr11_0 kr12_0 kr13_0 kr14_0 kr15_0 kr16_0 kr17_0 kr19_0 kr19_1 kr22_0 kr22_1 kr22_2 kr22_3 kr22_4 kr22_5 kr22_7 kr22_8 kr25_0 kr25_1 kr25_2 kr26_0 kr26_1 kr26_2 kr29_0 kr29_1)
  (refine Cn_el vcn0 ?_; intros ki5_2 ki6_2 ki7_2 ki8_1 ki8_2 ki8_3 ki9_1 ki9_2 ki9_3 ki10_1 ki10_2 ki10_3 ki11_1 ki11_2 ki11_3 ki12_1 ki12_2 ki12_3 ki13_1 ki13_2 ki13_3 ki14_1 ki14_2 ki14_3 ki28_0 ki28_1 ki31_0 ki31_1 ki32_0 ki32_1 ki33_0 ki33_1 ki34_0 ki34_1 ki35_0 ki35_1 ki36_0 ki36_1)
  have hAe : ∀ i j, i < 40 → j < 40 → (A i = A j ↔ i = j) := hA
  obtain ⟨⟨p1, p2, p3, p4⟩, pm⟩ := vp
  obtain ⟨q1, q2, q3, q4⟩ := pS_ord _ pm
  simp only at q1 q2 q3 q4
  obtain ⟨⟨x1, x2, x3, x4, x5, x6⟩, ln⟩ := vl0
  obtain ⟨⟨y1, y2, y3, y4, y5, y6⟩, lm⟩ := vl1
  obtain ⟨a1, a2, a3, a4⟩ := ln_ord ln
  obtain ⟨b1, b2, b3, b4⟩ := ln_ord lm
  obtain ⟨o1, o2, o3, o4, o5, o6, o7, o8, o9, o10⟩ := lm
  have e1 : g_i h (A 16) 1 = Int32.ofNat (g_i h (A 38) 0).toInt.toNat := by rw [y1]; exact toNat_of (by omega)
  have e2 : g_i h (A 16) 2 = Int32.ofNat (g_i h (A 38) 1).toInt.toNat := by rw [y2]; exact toNat_of (by omega)
  rcases o4 with s0 | s0
  · rw [s0] at y3
    simp only [o141_0, o141_1, o141_4, o141_7, o141_10, o141_11, o141_14, o141_15, o141_18, o141_21, o141_24, o141_25, o141_28, o141_29, c_ra (rw := A 2) (cs := A 4) (F := (g_i h (A 38) 0).toInt.toNat) (N := (g_i h (A 38) 1).toInt.toNat) (n := 36) kc16 kr16_0 kc2 kr2_0 kc4 kn4 e1 e2 (by omega) (by decide), mcs_0, Kn_v, mrf_some, true_and, not_true_eq_false, not_false_eq_true, false_implies, forall_const, Nat.zero_le, i10, kz0, kz1, kc0, kc16, kr0_1, kr0_8, y3]
  · rw [s0] at y3
    simp only [o141_0, o141_1, o141_4, o141_7, o141_10, o141_11, o141_14, o141_15, o141_18, o141_24, o141_25, o141_29, mcs_0, mrf_some, true_and, and_true, not_false_eq_true, false_implies, forall_const, Nat.zero_le, i10, kz1, kc0, kc16, kr0_1, kr0_8, y3]

theorem c_qsound {A : Nat → Nat} {h : MH} {Q : MR → MH → Prop} (R : Rl A h) : Ok 139 0 [.ref (A 0)] [] h 0 0 Q ↔ Q (.inl (some (.int 1))) h := by
  have q0 := fun {Q : MR → MH → Prop} => (qo_0 (Q := Q) R).1
  have q1 := fun {Q : MR → MH → Prop} => (qo_1 (Q := Q) R).1
  have q2 := fun {Q : MR → MH → Prop} => (qo_2 (Q := Q) R).1
  have R0 := R
  obtain ⟨vk, vcn, v0, v1, v2, vp, vl0, vl1, vlr, vsr, vc, tx⟩ := R0
  have vk0 := vk
  have vcn0 := vcn
  (refine K_el vk0 ?_; intros hA kc0 kc1 kc2 kc3 kc4 kc5 kc6 kc7 kc8 kc9 kc10 kc11 kc12 kc13 kc14 kc15 kc16 kc17 kc18 kc19 kc20 kc21 kc22 kc23 kc24 kc25 kc26 kc27 kc28 kc29 kc30 kc31 kc32 kc33 kc34 kc35 kc36 kc37 kc38 kc39 kz kt kn3 kn4 kn18 kn21 kn23 kn24 kn25 kn26 kn27 kn29 kn30 kr0_0 kr0_1 kr0_2 kr0_3 kr0_4 kr0_5 kr0_7 kr0_8 kr0_9 kr0_10 kr1_0 kr2_0 kr5_0 kr5_1 kr6_0 kr6_1 kr7_0 kr7_1 kr8_0 kr9_0 kr10_0 kr11_0 kr12_0 kr13_0 kr14_0 kr15_0 kr16_0 kr17_0 kr19_0 kr19_1 kr22_0 kr22_1 kr22_2 kr22_3 kr22_4 kr22_5 kr22_7 kr22_8 kr25_0 kr25_1 kr25_2 kr26_0 kr26_1 kr26_2 kr29_0 kr29_1)
  (refine Cn_el vcn0 ?_; intros ki5_2 ki6_2 ki7_2 ki8_1 ki8_2 ki8_3 ki9_1 ki9_2 ki9_3 ki10_1 ki10_2 ki10_3 ki11_1 ki11_2 ki11_3 ki12_1 ki12_2 ki12_3 ki13_1 ki13_2 ki13_3 ki14_1 ki14_2 ki14_3 ki28_0 ki28_1 ki31_0 ki31_1 ki32_0 ki32_1 ki33_0 ki33_1 ki34_0 ki34_1 ki35_0 ki35_1 ki36_0 ki36_1)
  have hAe : ∀ i j, i < 40 → j < 40 → (A i = A j ↔ i = j) := hA
  have r0_0 := fun {Q : MR → MH → Prop} => c_ra (w := A 8) (Q := Q) (rw := A 1) (cs := A 3) (F := 1) (N := 5) (n := 16) kc8 kr8_0 kc1 kr1_0 kc3 kn3 ki8_1 ki8_2 (by decide) (by decide)
  have r0_1 := fun {Q : MR → MH → Prop} => c_ra (w := A 9) (Q := Q) (rw := A 1) (cs := A 3) (F := 1) (N := 5) (n := 16) kc9 kr9_0 kc1 kr1_0 kc3 kn3 ki9_1 ki9_2 (by decide) (by decide)
  have r1_0 := fun {Q : MR → MH → Prop} => c_ra (w := A 10) (Q := Q) (rw := A 1) (cs := A 3) (F := 6) (N := 3) (n := 16) kc10 kr10_0 kc1 kr1_0 kc3 kn3 ki10_1 ki10_2 (by decide) (by decide)
  have r1_1 := fun {Q : MR → MH → Prop} => c_ra (w := A 11) (Q := Q) (rw := A 1) (cs := A 3) (F := 6) (N := 3) (n := 16) kc11 kr11_0 kc1 kr1_0 kc3 kn3 ki11_1 ki11_2 (by decide) (by decide)
  have r2_0 := fun {Q : MR → MH → Prop} => c_ra (w := A 12) (Q := Q) (rw := A 1) (cs := A 3) (F := 9) (N := 6) (n := 16) kc12 kr12_0 kc1 kr1_0 kc3 kn3 ki12_1 ki12_2 (by decide) (by decide)
  have r2_1 := fun {Q : MR → MH → Prop} => c_ra (w := A 13) (Q := Q) (rw := A 1) (cs := A 3) (F := 9) (N := 6) (n := 16) kc13 kr13_0 kc1 kr1_0 kc3 kn3 ki13_1 ki13_2 (by decide) (by decide)
  simp only [o139_0, o139_1, o139_4, o139_7, o139_10, o139_11, o139_14, o139_17, o139_20, o139_21, o139_24, o139_27, o139_30, o139_31, o139_34, o139_35, o139_38, o139_41, o139_44, o139_45, o139_48, o139_49, o139_52, o139_55, o139_58, o139_59, o139_62, o139_63, o139_66, o139_69, o139_72, o139_73, o139_76, o139_77, o25_0, o25_1, o25_4, o25_5, o25_8, o25_11, o25_12, o25_15, o25_16, o25_19, o25_22, o25_23, o25_26, o25_27, q0, q1, q2, r0_0, r0_1, r1_0, r1_1, r2_0, r2_1, mcs_0, Kn_v, mrf_some, true_and, and_true, not_true_eq_false, not_false_eq_true, false_implies, forall_const, Nat.zero_le, i10, kz0, kz1, kc0, kc5, kc6, kc7, kc8, kc9, kc10, kc11, kc12, kc13, kr0_0, kr0_2, kr0_3, kr0_4, kr5_0, kr5_1, kr6_0, kr6_1, kr7_0, kr7_1]
theorem c_edges {A : Nat → Nat} {h : MH} {Q : MR → MH → Prop} (R : Rl A h) : (edg A h → (Ok 142 0 [.ref (A 0)] [] h 0 0 Q ↔ Q (.inl (some (.int 1))) h)) ∧ (¬ edg A h → (Ok 142 0 [.ref (A 0)] [] h 0 0 Q ↔ Q (.inl (some (.int 0))) h)) := by
  have R0 := R
  obtain ⟨vk, vcn, v0, v1, v2, vp, vl0, vl1, vlr, vsr, vc, tx⟩ := R0
  have vk0 := vk
  have vcn0 := vcn
  (refine K_el vk0 ?_; intros hA kc0 kc1 kc2 kc3 kc4 kc5 kc6 kc7 kc8 kc9 kc10 kc11 kc12 kc13 kc14 kc15 kc16 kc17 kc18 kc19 kc20 kc21 kc22 kc23 kc24 kc25 kc26 kc27 kc28 kc29 kc30 kc31 kc32 kc33 kc34 kc35 kc36 kc37 kc38 kc39 kz kt kn3 kn4 kn18 kn21 kn23 kn24 kn25 kn26 kn27 kn29 kn30 kr0_0 kr0_1 kr0_2 kr0_3 kr0_4 kr0_5 kr0_7 kr0_8 kr0_9 kr0_10 kr1_0 kr2_0 kr5_0 kr5_1 kr6_0 kr6_1 kr7_0 kr7_1 kr8_0 kr9_0 kr10_0 kr11_0 kr12_0 kr13_0 kr14_0 kr15_0 kr16_0 kr17_0 kr19_0 kr19_1 kr22_0 kr22_1 kr22_2 kr22_3 kr22_4 kr22_5 kr22_7 kr22_8 kr25_0 kr25_1 kr25_2 kr26_0 kr26_1 kr26_2 kr29_0 kr29_1)
  (refine Cn_el vcn0 ?_; intros ki5_2 ki6_2 ki7_2 ki8_1 ki8_2 ki8_3 ki9_1 ki9_2 ki9_3 ki10_1 ki10_2 ki10_3 ki11_1 ki11_2 ki11_3 ki12_1 ki12_2 ki12_3 ki13_1 ki13_2 ki13_3 ki14_1 ki14_2 ki14_3 ki28_0 ki28_1 ki31_0 ki31_1 ki32_0 ki32_1 ki33_0 ki33_1 ki34_0 ki34_1 ki35_0 ki35_1 ki36_0 ki36_1)
  have hAe : ∀ i j, i < 40 → j < 40 → (A i = A j ↔ i = j) := hA
  have e0 := vlr 0 (by decide)
  have e15 := vlr 15 (by decide)
  have s0 := (vsr 0 (by decide)).1
  have s35 := (vsr 35 (by decide)).1
  have r0 : rdy 16 0 := by unfold rdy vp_in; decide
  have r15 : rdy 16 (15 : Int32) := by unfold rdy vp_in; decide
  have t0 : rdy 36 0 := by unfold rdy vp_in; decide
  have t35 : rdy 36 (35 : Int32) := by unfold rdy vp_in; decide
  have n15 : (15 : Int32).toNatClampNeg = 15 := by decide
  have n35 : (35 : Int32).toNatClampNeg = 35 := by decide
  unfold edg
  refine ⟨fun z => ?_, fun z => ?_⟩
  · obtain ⟨z1, z2, z3, z4⟩ := z
    simp only [o142_0, o142_1, o142_4, o142_5, o142_8, o142_9, o142_10, o142_13, o142_14, o142_17, o142_19, o142_22, o142_23, o142_24, o142_27, o142_28, o142_31, o142_32, o142_35, o142_36, o142_37, o142_40, o142_41, o142_44, o142_46, o142_49, o142_50, o142_51, o142_54, o142_55, o142_58, o142_59, c_X2_read (cs := A 3) (n := 16), c_X2_read (cs := A 4) (n := 36), mcs_0, Kn_v, mrf_some, true_and, not_true_eq_false, false_implies, forall_const, Nat.zero_le, kz0, kz1, cl0, lg_cmp_eq, kc0, kc1, kc2, kc3, kc4, kn3, kn4, kr0_0, kr0_1, kr1_0, kr2_0, r0, r15, t0, t35, n15, n35, e0, e15, s0, s35, z1, z2, z3, z4, zz64]
  · by_cases z1 : g_l h (A 23) 0 = 0 <;> by_cases z2 : g_l h (A 23) 15 = 0 <;> by_cases z3 : g_i h (A 24) 0 = 0 <;> by_cases z4 : g_i h (A 24) 35 = 0 <;> first | (exfalso; apply z; refine ⟨?_, ?_, ?_, ?_⟩ <;> assumption) | simp only [o142_0, o142_1, o142_4, o142_5, o142_8, o142_9, o142_10, o142_13, o142_14, o142_17, o142_19, o142_22, o142_23, o142_24, o142_27, o142_28, o142_31, o142_32, o142_35, o142_36, o142_37, o142_40, o142_41, o142_44, o142_46, o142_49, o142_50, o142_51, o142_54, o142_55, o142_58, o142_59, c_X2_read (cs := A 3) (n := 16), c_X2_read (cs := A 4) (n := 36), mcs_0, Kn_v, mrf_some, true_and, and_true, not_true_eq_false, not_false_eq_true, false_implies, forall_const, Nat.zero_le, kz0, kz1, cl0, lg_cmp_eq, kc0, kc1, kc2, kc3, kc4, kn3, kn4, kr0_0, kr0_1, kr1_0, kr2_0, r0, r15, t0, t35, n15, n35, e0, e15, s0, s35, z1, z2, z3, z4, zz64]
def edV (A : Nat → Nat) (h : MH) (v : Int32) : Prop := (edg A h ∧ v = 1) ∨ (¬ edg A h ∧ v = 0)
theorem c_sound {A : Nat → Nat} {h : MH} {v : Int32} {Q : MR → MH → Prop} (R : Rl A h) (hv : edV A h v) : Ok 106 0 [.ref (A 0)] [] h 0 0 Q ↔ Q (.inl (some (.int v))) h := by
  have R0 := R
  obtain ⟨vk, vcn, v0, v1, v2, vp, vl0, vl1, vlr, vsr, vc, tx⟩ := R0
  have vk0 := vk
  have vcn0 := vcn
  (refine K_el vk0 ?_; intros hA kc0 kc1 kc2 kc3 kc4 kc5 kc6 kc7 kc8 kc9 kc10 kc11 kc12 kc13 kc14 kc15 kc16 kc17 kc18 kc19 kc20 kc21 kc22 kc23 kc24 kc25 kc26 kc27 kc28 kc29 kc30 kc31 kc32 kc33 kc34 kc35 kc36 kc37 kc38 kc39 kz kt kn3 kn4 kn18 kn21 kn23 kn24 kn25 kn26 kn27 kn29 kn30 kr0_0 kr0_1 kr0_2 kr0_3 kr0_4 kr0_5 kr0_7 kr0_8 kr0_9 kr0_10 kr1_0 kr2_0 kr5_0 kr5_1 kr6_0 kr6_1 kr7_0 kr7_1 kr8_0 kr9_0 kr10_0 kr11_0 kr12_0 kr13_0 kr14_0 kr15_0 kr16_0 kr17_0 kr19_0 kr19_1 kr22_0 kr22_1 kr22_2 kr22_3 kr22_4 kr22_5 kr22_7 kr22_8 kr25_0 kr25_1 kr25_2 kr26_0 kr26_1 kr26_2 kr29_0 kr29_1)
  (refine Cn_el vcn0 ?_; intros ki5_2 ki6_2 ki7_2 ki8_1 ki8_2 ki8_3 ki9_1 ki9_2 ki9_3 ki10_1 ki10_2 ki10_3 ki11_1 ki11_2 ki11_3 ki12_1 ki12_2 ki12_3 ki13_1 ki13_2 ki13_3 ki14_1 ki14_2 ki14_3 ki28_0 ki28_1 ki31_0 ki31_1 ki32_0 ki32_1 ki33_0 ki33_1 ki34_0 ki34_1 ki35_0 ki35_1 ki36_0 ki36_1)
  have hAe : ∀ i j, i < 40 → j < 40 → (A i = A j ↔ i = j) := hA
  have ce := fun {Q : MR → MH → Prop} => c_edges (Q := Q) R
  rcases hv with ⟨z, rfl⟩ | ⟨z, rfl⟩
  · have ce1 := fun {Q : MR → MH → Prop} => (ce (Q := Q)).1 z
    simp only [o106_0, o106_1, o106_4, o106_7, o106_8, o106_11, o106_14, o106_15, o106_18, o106_21, o106_22, o106_25, o106_28, o106_29, o106_32, o106_35, o106_36, o106_39, o106_40, c_wins R, c_qsound R, c_slots R, c_lsound R, ce1, mcs_0, Kn_v, true_and, not_false_eq_true, false_implies, forall_const, Nat.zero_le, i10, kz0, kz1, kc0]
  · have ce1 := fun {Q : MR → MH → Prop} => (ce (Q := Q)).2 z
    simp only [o106_0, o106_1, o106_4, o106_7, o106_8, o106_11, o106_14, o106_15, o106_18, o106_21, o106_22, o106_25, o106_28, o106_29, o106_32, o106_35, o106_36, o106_39, o106_40, c_wins R, c_qsound R, c_slots R, c_lsound R, ce1, mcs_0, Kn_v, true_and, and_true, not_true_eq_false, not_false_eq_true, false_implies, forall_const, Nat.zero_le, i10, kz0, kz1, kc0]
end

section
set_option maxRecDepth 16384
theorem sh_ok {v : Int32} (h : v.toInt16.toInt32 = v) : (¬ v < -32768 ∧ v < 32768) = True := by
  have h1 := v.toInt16.toInt_lt
  have h2 := v.toInt16.le_toInt
  have e : v.toInt = v.toInt16.toInt := by
    have := congrArg Int32.toInt h
    rw [Int16.toInt_toInt32] at this
    exact this.symm
  apply eq_true
  rw [Int32.lt_iff_toInt_lt, Int32.lt_iff_toInt_lt, show (-32768 : Int32).toInt = -32768 from rfl, show (32768 : Int32).toInt = 32768 from rfl]
  omega
theorem and11 : (1 : Int32) &&& 1 = 1 ∧ (0 : Int32) &&& 1 = 0 := by decide
theorem v_and {v : Int32} (h : v = 1 ∨ v = 0) : v &&& 1 = v := by
  rcases h with rfl | rfl <;> decide
theorem ms_loop {A : Nat → Nat} {h : MH} {v : Int32} {Q : MR → MH → Prop} (R : Rl A h) (hv : v = 1 ∨ v = 0) : ∀ (d j : Nat) (a5 : Value), j + d = 36 → (Ok 241 114 [.ref (A 22), .int v, .ref (A 24), .int (Int32.ofNat 36), .int (Int32.ofNat j), a5] [] h 0 0 Q ↔ Q (.inl (some (.int v))) h)
  | 0, j, a5, hj => by
    have : j = 36 := by omega
    subst this
    have kz3 : kok 3 v = True := by rcases hv with rfl | rfl <;> simp [kok]
    rw [o241_114]
    simp only [o241_116, o241_117, o241_120, o241_121, o241_123, o241_124, o241_126, o241_127, o241_129, o241_140, o241_141, mcs_0, mcs_i, true_and, and_true, not_true_eq_false, not_false_eq_true, false_implies, forall_const, Nat.reduceLeDiff, Nat.reduceAdd, lt_le, n_irr, kz3]
  | d + 1, j, a5, hj => by
    have ih := ms_loop (Q := Q) R hv d (j + 1)
    have R0 := R
    obtain ⟨vk, vcn, v0, v1, v2, vp, vl0, vl1, vlr, vsr, vc, tx⟩ := R0
    have vk0 := vk
    have vcn0 := vcn
    (refine K_el vk0 ?_; intros hA kc0 kc1 kc2 kc3 kc4 kc5 kc6 kc7 kc8 kc9 kc10 kc11 kc12 kc13 kc14 kc15 kc16 kc17 kc18 kc19 kc20 kc21 kc22 kc23 kc24 kc25 kc26 kc27 kc28 kc29 kc30 kc31 kc32 kc33 kc34 kc35 kc36 kc37 kc38 kc39 kz kt kn3 kn4 kn18 kn21 kn23 kn24 kn25 kn26 kn27 kn29 kn30 kr0_0 kr0_1 kr0_2 kr0_3 kr0_4 kr0_5 kr0_7 kr0_8 kr0_9 kr0_10 kr1_0 kr2_0 kr5_0 kr5_1 kr6_0 kr6_1 kr7_0 kr7_1 kr8_0 kr9_0 kr10_0 kr11_0 kr12_0 kr13_0 kr14_0 kr15_0 kr16_0 kr17_0 kr19_0 kr19_1 kr22_0 kr22_1 kr22_2 kr22_3 kr22_4 kr22_5 kr22_7 kr22_8 kr25_0 kr25_1 kr25_2 kr26_0 kr26_1 kr26_2 kr29_0 kr29_1)
    (refine Cn_el vcn0 ?_; intros ki5_2 ki6_2 ki7_2 ki8_1 ki8_2 ki8_3 ki9_1 ki9_2 ki9_3 ki10_1 ki10_2 ki10_3 ki11_1 ki11_2 ki11_3 ki12_1 ki12_2 ki12_3 ki13_1 ki13_2 ki13_3 ki14_1 ki14_2 ki14_3 ki28_0 ki28_1 ki31_0 ki31_1 ki32_0 ki32_1 ki33_0 ki33_1 ki34_0 ki34_1 ki35_0 ki35_1 ki36_0 ki36_1)
    have hAe : ∀ i j, i < 40 → j < 40 → (A i = A j ↔ i = j) := hA
    have c1 : (Int32.ofNat j < Int32.ofNat 36) = True := by rw [n_lt (by omega) (by omega)]; exact eq_true (by omega)
    have c2 : vp_in (Int32.ofNat j) 36 := vp_of (by omega) (by omega)
    have c3 : (Int32.ofNat j).toNatClampNeg = j := n_cl (by omega)
    have c4 := sh_ok (vsr j (by omega)).2
    have c5 := v_and hv
    have c6 : Int32.ofNat j + 1 = Int32.ofNat (j + 1) := n_add j 1
    rw [← ih (.int (g_i h (A 24) j)) (by omega), o241_114]
    simp only [o241_116, o241_117, o241_120, o241_121, o241_123, o241_124, o241_126, o241_127, o241_129, o241_132, o241_133, o241_134, o241_137, o241_140, o241_141, c_X8_isShort, mcs_0, mcs_i, Kn_v, true_and, not_true_eq_false, not_false_eq_true, false_implies, forall_const, if_true, and_self, Nat.reduceLeDiff, Nat.reduceAdd, lt_le, kc24, kn24, c1, c2, c3, c4, c5, c6]

theorem m_soundNow {A : Nat → Nat} {h : MH} {v : Int32} {Q : MR → MH → Prop} (R : Rl A h) (hv : edV A h v) : Ok 241 0 [.ref (A 22), mk0, mk0, mk0, mk0, mk0] [] h 0 0 Q ↔ Q (.inl (some (.int v))) h := by
  have q0 := fun {Q : MR → MH → Prop} => (qo_0 (Q := Q) R).2
  have q1 := fun {Q : MR → MH → Prop} => (qo_1 (Q := Q) R).2
  have q2 := fun {Q : MR → MH → Prop} => (qo_2 (Q := Q) R).2
  have lp1 := fun {Q : MR → MH → Prop} a5 => ms_loop (Q := Q) R (Or.inl rfl) 36 0 a5 rfl
  have lp0 := fun {Q : MR → MH → Prop} a5 => ms_loop (Q := Q) R (Or.inr rfl) 36 0 a5 rfl
  have z0 : (0 : Int32) = Int32.ofNat 0 := rfl
  have R0 := R
  obtain ⟨vk, vcn, v0, v1, v2, vp, vl0, vl1, vlr, vsr, vc, tx⟩ := R0
  have vk0 := vk
  have vcn0 := vcn
  (refine K_el vk0 ?_; intros hA kc0 kc1 kc2 kc3 kc4 kc5 kc6 kc7 kc8 kc9 kc10 kc11 kc12 kc13 kc14 kc15 kc16 kc17 kc18 kc19 kc20 kc21 kc22 kc23 kc24 kc25 kc26 kc27 kc28 kc29 kc30 kc31 kc32 kc33 kc34 kc35 kc36 kc37 kc38 kc39 kz kt kn3 kn4 kn18 kn21 kn23 kn24 kn25 kn26 kn27 kn29 kn30 kr0_0 kr0_1 kr0_2 kr0_3 kr0_4 kr0_5 kr0_7 kr0_8 kr0_9 kr0_10 kr1_0 kr2_0 kr5_0 kr5_1 kr6_0 kr6_1 kr7_0 kr7_1 kr8_0 kr9_0 kr10_0 kr11_0 kr12_0 kr13_0 kr14_0 kr15_0 kr16_0 kr17_0 kr19_0 kr19_1 kr22_0 kr22_1 kr22_2 kr22_3 kr22_4 kr22_5 kr22_7 kr22_8 kr25_0 kr25_1 kr25_2 kr26_0 kr26_1 kr26_2 kr29_0 kr29_1)
  (refine Cn_el vcn0 ?_; intros ki5_2 ki6_2 ki7_2 ki8_1 ki8_2 ki8_3 ki9_1 ki9_2 ki9_3 ki10_1 ki10_2 ki10_3 ki11_1 ki11_2 ki11_3 ki12_1 ki12_2 ki12_3 ki13_1 ki13_2 ki13_3 ki14_1 ki14_2 ki14_3 ki28_0 ki28_1 ki31_0 ki31_1 ki32_0 ki32_1 ki33_0 ki33_1 ki34_0 ki34_1 ki35_0 ki35_1 ki36_0 ki36_1)
  have hAe : ∀ i j, i < 40 → j < 40 → (A i = A j ↔ i = j) := hA
  obtain ⟨⟨p1, p2, p3, p4⟩, pm⟩ := vp
  obtain ⟨qq1, qq2, qq3, qq4⟩ := pS_ord _ pm
  simp only at qq1 qq2 qq3 qq4
  obtain ⟨⟨x1, x2, x3, x4, x5, x6⟩, ln⟩ := vl0
  obtain ⟨⟨y1, y2, y3, y4, y5, y6⟩, lm⟩ := vl1
  obtain ⟨a1, a2, a3, a4⟩ := ln_ord ln
  obtain ⟨b1, b2, b3, b4⟩ := ln_ord lm
  have v15 : vp_in (15 : Int32) 16 := by unfold vp_in; decide
  have v0 : vp_in 0 16 := by unfold vp_in; decide
  have v35 : vp_in (35 : Int32) 36 := by unfold vp_in; decide
  have v036 : vp_in 0 36 := by unfold vp_in; decide
  have v02 : vp_in 0 2 := by unfold vp_in; decide
  have v12 : vp_in 1 2 := by unfold vp_in; decide
  have n15 : (15 : Int32).toNatClampNeg = 15 := by decide
  have n35 : (35 : Int32).toNatClampNeg = 35 := by decide
  obtain ⟨and1, and0⟩ := and11
  unfold edV edg at hv
  rcases hv with ⟨⟨z1, z2, z3, z4⟩, rfl⟩ | ⟨z, rfl⟩
  · refine Iff.trans ?_ (lp1 mk0)
    simp only [o241_0, o241_1, o241_4, o241_7, o241_10, o241_11, o241_14, o241_15, o241_16, o241_19, o241_22, o241_23, o241_26, o241_27, o241_28, o241_31, o241_34, o241_35, o241_38, o241_39, o241_40, o241_41, o241_42, o241_45, o241_46, o241_49, o241_51, o241_52, o241_53, o241_54, o241_57, o241_58, o241_61, o241_62, o241_63, o241_66, o241_67, o241_70, o241_72, o241_73, o241_76, o241_77, o241_80, o241_81, o241_82, o241_83, o241_84, o241_85, o241_86, o241_89, o241_90, o241_91, o241_92, o241_95, o241_96, o241_97, o241_100, o241_103, o241_104, o241_107, o241_108, o241_109, o241_110, o241_111, o241_112, q0, q1, q2, c_X7_isRight, mcs_0, mcs_i, Kn_v, mrf_some, true_and, and_true, not_true_eq_false, not_false_eq_true, false_implies, forall_const, if_true, and_self, Nat.reduceLeDiff, Nat.reduceAdd, Nat.zero_le, Nat.le_refl, i10, lt_le, Int32.reduceLT, Int32.reduceAdd, cl0, cl1, lg_cmp_eq, kc22, kc23, kc24, kc28, kc29, kc37, kc38, kn23, kn24, kn29, kr22_0, kr22_1, kr22_5, kr22_7, kr29_0, kr29_1, ki28_1, qq1, qq2, qq3, qq4, a1, a2, a3, a4, b1, b2, b3, b4, v15, v0, v35, v036, v02, v12, n15, n35, and1, and0, z1, z2, z3, z4]
    all_goals exact Iff.rfl
  · refine Iff.trans ?_ (lp0 mk0)
    by_cases z1 : g_l h (A 23) 0 = 0 <;> by_cases z2 : g_l h (A 23) 15 = 0 <;> by_cases z3 : g_i h (A 24) 0 = 0 <;> by_cases z4 : g_i h (A 24) 35 = 0 <;> first | (exfalso; apply z; refine ⟨?_, ?_, ?_, ?_⟩ <;> assumption) | (simp only [o241_0, o241_1, o241_4, o241_7, o241_10, o241_11, o241_14, o241_15, o241_16, o241_19, o241_22, o241_23, o241_26, o241_27, o241_28, o241_31, o241_34, o241_35, o241_38, o241_39, o241_40, o241_41, o241_42, o241_45, o241_46, o241_49, o241_51, o241_52, o241_53, o241_54, o241_57, o241_58, o241_61, o241_62, o241_63, o241_66, o241_67, o241_70, o241_72, o241_73, o241_76, o241_77, o241_80, o241_81, o241_82, o241_83, o241_84, o241_85, o241_86, o241_89, o241_90, o241_91, o241_92, o241_95, o241_96, o241_97, o241_100, o241_103, o241_104, o241_107, o241_108, o241_109, o241_110, o241_111, o241_112, q0, q1, q2, c_X7_isRight, mc_pi, mc_pl, mc_pr, mc_pN, mc_pT, mc_pC, mn_pi, mn_pl, mn_pr, mn_pN, mn_pT, mn_pC, mi_pi, mi_pl, mi_pr, mi_pN, mi_pT, mi_pC, ml_pi, ml_pl, ml_pr, ml_pN, ml_pT, ml_pC, mr_pi, mr_pl, mr_pr, mr_pN, mr_pT, mr_pC, mt_pi, mt_pl, mt_pr, mt_pN, mt_pT, mt_pC, mz_pi, mz_pl, mz_pr, mz_pN, mz_pT, mz_pC, ma_pi, ma_pl, ma_pr, ma_pN, ma_pT, ma_pC, mcs_0, mcs_i, mcs_l, mcs_r, mcs_n, csum_rf, Kn_v, Kn_0, Kn_x, mrf_some, kok_0, true_and, and_true, false_and, and_false, true_or, or_true, or_false, false_or, not_true_eq_false, not_false_eq_true, true_implies, false_implies, implies_true, forall_const, if_true, if_false, and_self, Nat.reduceEqDiff, Nat.reduceLeDiff, Nat.reduceSub, Nat.reduceAdd, Nat.zero_le, Nat.le_refl, i10, i01, kz0, kz1, eq_self, lt_le, Classical.not_not, Int32.reduceLT, Int32.reduceAdd, Int32.reduceSub, Int32.reduceMul, cl0, cl1, cl2, cl3, cl4, cl5, cl6, cl7, cl8, cl9, cl10, cl11, cl12, cl13, cl14, cl15, cl16, cl17, cl18, cl19, cl20, cl21, cl22, cl23, cl24, cl25, cl26, cl27, cl28, cl29, cl30, cl31, cl32, cl33, cl34, cl35, cl36, cl37, cl38, cl39, lg_cmp_eq, kc0, kc1, kc2, kc3, kc4, kc5, kc6, kc7, kc8, kc9, kc10, kc11, kc12, kc13, kc14, kc15, kc16, kc17, kc18, kc19, kc20, kc21, kc22, kc23, kc24, kc25, kc26, kc27, kc28, kc29, kc30, kc31, kc32, kc33, kc34, kc35, kc36, kc37, kc38, kc39, kn3, kn4, kn18, kn21, kn23, kn24, kn25, kn26, kn27, kn29, kn30, kr0_0, kr0_1, kr0_2, kr0_3, kr0_4, kr0_5, kr0_7, kr0_8, kr0_9, kr0_10, kr1_0, kr2_0, kr5_0, kr5_1, kr6_0, kr6_1, kr7_0, kr7_1, kr8_0, kr9_0, kr10_0, kr11_0, kr12_0, kr13_0, kr14_0, kr15_0, kr16_0, kr17_0, kr19_0, kr19_1, kr22_0, kr22_1, kr22_2, kr22_3, kr22_4, kr22_5, kr22_7, kr22_8, kr25_0, kr25_1, kr25_2, kr26_0, kr26_1, kr26_2, kr29_0, kr29_1, kz, ki5_2, ki6_2, ki7_2, ki8_1, ki8_2, ki8_3, ki9_1, ki9_2, ki9_3, ki10_1, ki10_2, ki10_3, ki11_1, ki11_2, ki11_3, ki12_1, ki12_2, ki12_3, ki13_1, ki13_2, ki13_3, ki14_1, ki14_2, ki14_3, ki28_0, ki28_1, ki31_0, ki31_1, ki32_0, ki32_1, ki33_0, ki33_1, ki34_0, ki34_1, ki35_0, ki35_1, ki36_0, ki36_1, qq1, qq2, qq3, qq4, a1, a2, a3, a4, b1, b2, b3, b4, v15, v0, v35, v036, v02, v12, n15, n35, and1, and0, z1, z2, z3, z4]; done) | (simp only [o241_0, o241_1, o241_4, o241_7, o241_10, o241_11, o241_14, o241_15, o241_16, o241_19, o241_22, o241_23, o241_26, o241_27, o241_28, o241_31, o241_34, o241_35, o241_38, o241_39, o241_40, o241_41, o241_42, o241_45, o241_46, o241_49, o241_51, o241_52, o241_53, o241_54, o241_57, o241_58, o241_61, o241_62, o241_63, o241_66, o241_67, o241_70, o241_72, o241_73, o241_76, o241_77, o241_80, o241_81, o241_82, o241_83, o241_84, o241_85, o241_86, o241_89, o241_90, o241_91, o241_92, o241_95, o241_96, o241_97, o241_100, o241_103, o241_104, o241_107, o241_108, o241_109, o241_110, o241_111, o241_112, q0, q1, q2, c_X7_isRight, mcs_0, mcs_i, Kn_v, mrf_some, true_and, and_true, not_true_eq_false, not_false_eq_true, false_implies, forall_const, if_true, and_self, Nat.reduceLeDiff, Nat.reduceAdd, Nat.zero_le, Nat.le_refl, i10, lt_le, Int32.reduceLT, Int32.reduceAdd, cl0, cl1, lg_cmp_eq, kc22, kc23, kc24, kc28, kc29, kc37, kc38, kn23, kn24, kn29, kr22_0, kr22_1, kr22_5, kr22_7, kr29_0, kr29_1, ki28_1, qq1, qq2, qq3, qq4, a1, a2, a3, a4, b1, b2, b3, b4, v15, v0, v35, v036, v02, v12, n15, n35, and1, and0, z1, z2, z3, z4]; exact Iff.rfl)

theorem op_isSound {A : Nat → Nat} {h : MH} (R : Rl A h) : Ok 106 0 [.ref (A 0)] [] h 0 0 (fun r h1 => ∃ k : Int32, r = .inl (some (.int k)) ∧ g_c h1 (A 22) = 9 ∧ Ok 242 0 [.ref (A 22)] [] h1 0 0 (fun r2 h2 => ∃ b : Int32, r2 = .inl (some (.int b)) ∧ Rl A h2 ∧ g_i h2 (A 22) 9 = 0 ∧ k = b)) := by
  have hv : ∃ v, edV A h v := by
    by_cases z : edg A h
    · exact ⟨1, Or.inl ⟨z, rfl⟩⟩
    · exact ⟨0, Or.inr ⟨z, rfl⟩⟩
  obtain ⟨v, hv⟩ := hv
  have R0 := R
  obtain ⟨vk, vcn, v0, v1, v2, vp, vl0, vl1, vlr, vsr, vc, tx⟩ := R0
  have vk0 := vk
  have vcn0 := vcn
  (refine K_el vk0 ?_; intros hA kc0 kc1 kc2 kc3 kc4 kc5 kc6 kc7 kc8 kc9 kc10 kc11 kc12 kc13 kc14 kc15 kc16 kc17 kc18 kc19 kc20 kc21 kc22 kc23 kc24 kc25 kc26 kc27 kc28 kc29 kc30 kc31 kc32 kc33 kc34 kc35 kc36 kc37 kc38 kc39 kz kt kn3 kn4 kn18 kn21 kn23 kn24 kn25 kn26 kn27 kn29 kn30 kr0_0 kr0_1 kr0_2 kr0_3 kr0_4 kr0_5 kr0_7 kr0_8 kr0_9 kr0_10 kr1_0 kr2_0 kr5_0 kr5_1 kr6_0 kr6_1 kr7_0 kr7_1 kr8_0 kr9_0 kr10_0 kr11_0 kr12_0 kr13_0 kr14_0 kr15_0 kr16_0 kr17_0 kr19_0 kr19_1 kr22_0 kr22_1 kr22_2 kr22_3 kr22_4 kr22_5 kr22_7 kr22_8 kr25_0 kr25_1 kr25_2 kr26_0 kr26_1 kr26_2 kr29_0 kr29_1)
  (refine Cn_el vcn0 ?_; intros ki5_2 ki6_2 ki7_2 ki8_1 ki8_2 ki8_3 ki9_1 ki9_2 ki9_3 ki10_1 ki10_2 ki10_3 ki11_1 ki11_2 ki11_3 ki12_1 ki12_2 ki12_3 ki13_1 ki13_2 ki13_3 ki14_1 ki14_2 ki14_3 ki28_0 ki28_1 ki31_0 ki31_1 ki32_0 ki32_1 ki33_0 ki33_1 ki34_0 ki34_1 ki35_0 ki35_1 ki36_0 ki36_1)
  have hAe : ∀ i j, i < 40 → j < 40 → (A i = A j ↔ i = j) := hA
  rw [c_sound R hv]
  have hv2 : edV A (p_i h (A 22) 9 0) v := by
    unfold edV edg at hv ⊢
    simp only [ml_pi, mi_pi, hAe, Nat.reduceLT, Nat.reduceEqDiff, false_and, if_false]
    exact hv
  have kz3 : kok 3 v = True := by rcases hv with ⟨-, rfl⟩ | ⟨-, rfl⟩ <;> simp [kok]
  refine ⟨v, rfl, kc22, ?_⟩
  simp only [o242_0, o242_1, o242_2, o242_5, o242_6, o242_9, m_soundNow (Rl_thr R) hv2, mc_pi, mi_pi, mcs_0, Kn_v, kok_0, true_and, and_true, if_true, and_self, Nat.zero_le, Sum.inl.injEq, Option.some.injEq, Value.int.injEq, exists_eq_left', Nat.reduceLT, kc22, kz, kz3]
  first | exact ⟨_, rfl, Rl_thr R, by rw [mi_pi, if_pos ⟨rfl, rfl⟩], rfl⟩ | exact ⟨Rl_thr R, by rw [mi_pi, if_pos ⟨rfl, rfl⟩], rfl⟩ | exact Rl_thr R
end

section
set_option maxRecDepth 16384
/-! THE CHECKSUM -/
def dg1 (d : Int64) (v : Int32) : Int64 := d * 31 + v.toInt64
/-- the two memories agree in all that the checksum asks -/
def Sm (A : Nat → Nat) (h m : MH) : Prop := (∀ i, i < 40 → ¬ i = 20 → ¬ i = 21 → ¬ i = 22 → (∀ k, g_i m (A i) k = g_i h (A i) k) ∧ ∀ k, g_l m (A i) k = g_l h (A i) k) ∧ g_i m (A 22) 6 = g_i h (A 22) 6
theorem Sm_tr {A : Nat → Nat} {h m q : MH} (f : Sm A h m) (g : Sm A m q) : Sm A h q := ⟨fun i hi a b c => ⟨fun k => ((g.1 i hi a b c).1 k).trans ((f.1 i hi a b c).1 k), fun k => ((g.1 i hi a b c).2 k).trans ((f.1 i hi a b c).2 k)⟩, g.2.trans f.2⟩
theorem Sm_Fx {A : Nat → Nat} {h m : MH} (R : Rl A h) (f : Fx (A 20) (A 21) h m) : Sm A h m := by
  have hA := R.1.1
  have at2 : ∀ i, i < 40 → ¬ i = 20 → ¬ i = 21 → _ := fun i hi a b => Fx_at R.1 f hi (fun z => a ((hA i 20 hi (by decide)).mp z)) (fun z => b ((hA i 21 hi (by decide)).mp z))
  exact ⟨fun i hi a b _ => ⟨(at2 i hi a b).1, (at2 i hi a b).2.1⟩, (at2 22 (by decide) (by decide) (by decide)).1 6⟩
theorem Sm_Fn {A : Nat → Nat} {h m : MH} {sb : Nat} (R : Rl A h) (f : Fx sb sb h m) (hs : g_t h ≤ sb) : Sm A h m :=
  ⟨fun i hi _ _ _ => ⟨(Rl_at R f hs hi).1, (Rl_at R f hs hi).2.1⟩, (Rl_at R f hs (i := 22) (by decide)).1 6⟩
theorem Sm_Fr {A : Nat → Nat} {h m : MH} (R : Rl A h) (f : Fr h m) : Sm A h m := Sm_Fn R (Fx_Fr f : Fx (g_t h) (g_t h) h m) (Nat.le_refl _)
theorem Sm_thr {A : Nat → Nat} {h : MH} {v : Int32} (R : Rl A h) : Sm A h (p_i h (A 22) 9 v) := by
  have hA := R.1.1
  refine ⟨fun i hi _ _ c => ⟨fun k => ?_, fun _ => rfl⟩, ?_⟩
  · rw [mi_pi, if_neg (fun z => c ((hA i 22 hi (by decide)).mp z.1))]
  · rw [mi_pi, if_neg (fun z => absurd z.2 (by decide))]
theorem Sm_at {A : Nat → Nat} {h m : MH} (s : Sm A h m) : ((∀ k, g_i m (A 0) k = g_i h (A 0) k) ∧ ∀ k, g_l m (A 0) k = g_l h (A 0) k) ∧ ((∀ k, g_i m (A 1) k = g_i h (A 1) k) ∧ ∀ k, g_l m (A 1) k = g_l h (A 1) k) ∧ ((∀ k, g_i m (A 2) k = g_i h (A 2) k) ∧ ∀ k, g_l m (A 2) k = g_l h (A 2) k) ∧ ((∀ k, g_i m (A 3) k = g_i h (A 3) k) ∧ ∀ k, g_l m (A 3) k = g_l h (A 3) k) ∧ ((∀ k, g_i m (A 4) k = g_i h (A 4) k) ∧ ∀ k, g_l m (A 4) k = g_l h (A 4) k) ∧ ((∀ k, g_i m (A 5) k = g_i h (A 5) k) ∧ ∀ k, g_l m (A 5) k = g_l h (A 5) k) ∧ ((∀ k, g_i m (A 6) k = g_i h (A 6) k) ∧ ∀ k, g_l m (A 6) k = g_l h (A 6) k) ∧ ((∀ k, g_i m (A 7) k = g_i h (A 7) k) ∧ ∀ k, g_l m (A 7) k = g_l h (A 7) k) ∧ ((∀ k, g_i m (A 8) k = g_i h (A 8) k) ∧ ∀ k, g_l m (A 8) k = g_l h (A 8) k) ∧ ((∀ k, g_i m (A 9) k = g_i h (A 9) k) ∧ ∀ k, g_l m (A 9) k = g_l h (A 9) k) ∧ ((∀ k, g_i m (A 10) k = g_i h (A 10) k) ∧ ∀ k, g_l m (A 10) k = g_l h (A 10) k) ∧ ((∀ k, g_i m (A 11) k = g_i h (A 11) k) ∧ ∀ k, g_l m (A 11) k = g_l h (A 11) k) ∧ ((∀ k, g_i m (A 12) k = g_i h (A 12) k) ∧ ∀ k, g_l m (A 12) k = g_l h (A 12) k) ∧ ((∀ k, g_i m (A 13) k = g_i h (A 13) k) ∧ ∀ k, g_l m (A 13) k = g_l h (A 13) k) ∧ ((∀ k, g_i m (A 14) k = g_i h (A 14) k) ∧ ∀ k, g_l m (A 14) k = g_l h (A 14) k) ∧ ((∀ k, g_i m (A 15) k = g_i h (A 15) k) ∧ ∀ k, g_l m (A 15) k = g_l h (A 15) k) ∧ ((∀ k, g_i m (A 16) k = g_i h (A 16) k) ∧ ∀ k, g_l m (A 16) k = g_l h (A 16) k) ∧ ((∀ k, g_i m (A 17) k = g_i h (A 17) k) ∧ ∀ k, g_l m (A 17) k = g_l h (A 17) k) ∧ ((∀ k, g_i m (A 18) k = g_i h (A 18) k) ∧ ∀ k, g_l m (A 18) k = g_l h (A 18) k) ∧ ((∀ k, g_i m (A 19) k = g_i h (A 19) k) ∧ ∀ k, g_l m (A 19) k = g_l h (A 19) k) ∧ ((∀ k, g_i m (A 23) k = g_i h (A 23) k) ∧ ∀ k, g_l m (A 23) k = g_l h (A 23) k) ∧ ((∀ k, g_i m (A 24) k = g_i h (A 24) k) ∧ ∀ k, g_l m (A 24) k = g_l h (A 24) k) ∧ ((∀ k, g_i m (A 25) k = g_i h (A 25) k) ∧ ∀ k, g_l m (A 25) k = g_l h (A 25) k) ∧ ((∀ k, g_i m (A 26) k = g_i h (A 26) k) ∧ ∀ k, g_l m (A 26) k = g_l h (A 26) k) ∧ ((∀ k, g_i m (A 27) k = g_i h (A 27) k) ∧ ∀ k, g_l m (A 27) k = g_l h (A 27) k) ∧ ((∀ k, g_i m (A 28) k = g_i h (A 28) k) ∧ ∀ k, g_l m (A 28) k = g_l h (A 28) k) ∧ ((∀ k, g_i m (A 29) k = g_i h (A 29) k) ∧ ∀ k, g_l m (A 29) k = g_l h (A 29) k) ∧ ((∀ k, g_i m (A 30) k = g_i h (A 30) k) ∧ ∀ k, g_l m (A 30) k = g_l h (A 30) k) ∧ ((∀ k, g_i m (A 31) k = g_i h (A 31) k) ∧ ∀ k, g_l m (A 31) k = g_l h (A 31) k) ∧ ((∀ k, g_i m (A 32) k = g_i h (A 32) k) ∧ ∀ k, g_l m (A 32) k = g_l h (A 32) k) ∧ ((∀ k, g_i m (A 33) k = g_i h (A 33) k) ∧ ∀ k, g_l m (A 33) k = g_l h (A 33) k) ∧ ((∀ k, g_i m (A 34) k = g_i h (A 34) k) ∧ ∀ k, g_l m (A 34) k = g_l h (A 34) k) ∧ ((∀ k, g_i m (A 35) k = g_i h (A 35) k) ∧ ∀ k, g_l m (A 35) k = g_l h (A 35) k) ∧ ((∀ k, g_i m (A 36) k = g_i h (A 36) k) ∧ ∀ k, g_l m (A 36) k = g_l h (A 36) k) ∧ ((∀ k, g_i m (A 37) k = g_i h (A 37) k) ∧ ∀ k, g_l m (A 37) k = g_l h (A 37) k) ∧ ((∀ k, g_i m (A 38) k = g_i h (A 38) k) ∧ ∀ k, g_l m (A 38) k = g_l h (A 38) k) ∧ ((∀ k, g_i m (A 39) k = g_i h (A 39) k) ∧ ∀ k, g_l m (A 39) k = g_l h (A 39) k) ∧ g_i m (A 22) 6 = g_i h (A 22) 6 := ⟨s.1 0 (by decide) (by decide) (by decide) (by decide), s.1 1 (by decide) (by decide) (by decide) (by decide), s.1 2 (by decide) (by decide) (by decide) (by decide), s.1 3 (by decide) (by decide) (by decide) (by decide), s.1 4 (by decide) (by decide) (by decide) (by decide), s.1 5 (by decide) (by decide) (by decide) (by decide), s.1 6 (by decide) (by decide) (by decide) (by decide), s.1 7 (by decide) (by decide) (by decide) (by decide), s.1 8 (by decide) (by decide) (by decide) (by decide), s.1 9 (by decide) (by decide) (by decide) (by decide), s.1 10 (by decide) (by decide) (by decide) (by decide), s.1 11 (by decide) (by decide) (by decide) (by decide), s.1 12 (by decide) (by decide) (by decide) (by decide), s.1 13 (by decide) (by decide) (by decide) (by decide), s.1 14 (by decide) (by decide) (by decide) (by decide), s.1 15 (by decide) (by decide) (by decide) (by decide), s.1 16 (by decide) (by decide) (by decide) (by decide), s.1 17 (by decide) (by decide) (by decide) (by decide), s.1 18 (by decide) (by decide) (by decide) (by decide), s.1 19 (by decide) (by decide) (by decide) (by decide), s.1 23 (by decide) (by decide) (by decide) (by decide), s.1 24 (by decide) (by decide) (by decide) (by decide), s.1 25 (by decide) (by decide) (by decide) (by decide), s.1 26 (by decide) (by decide) (by decide) (by decide), s.1 27 (by decide) (by decide) (by decide) (by decide), s.1 28 (by decide) (by decide) (by decide) (by decide), s.1 29 (by decide) (by decide) (by decide) (by decide), s.1 30 (by decide) (by decide) (by decide) (by decide), s.1 31 (by decide) (by decide) (by decide) (by decide), s.1 32 (by decide) (by decide) (by decide) (by decide), s.1 33 (by decide) (by decide) (by decide) (by decide), s.1 34 (by decide) (by decide) (by decide) (by decide), s.1 35 (by decide) (by decide) (by decide) (by decide), s.1 36 (by decide) (by decide) (by decide) (by decide), s.1 37 (by decide) (by decide) (by decide) (by decide), s.1 38 (by decide) (by decide) (by decide) (by decide), s.1 39 (by decide) (by decide) (by decide) (by decide), s.2⟩
theorem Sm_el {A : Nat → Nat} {h m : MH} {G : Prop} (s : Sm A h m) (f : (∀ k, g_i m (A 0) k = g_i h (A 0) k) → (∀ k, g_l m (A 0) k = g_l h (A 0) k) → (∀ k, g_i m (A 1) k = g_i h (A 1) k) → (∀ k, g_l m (A 1) k = g_l h (A 1) k) → (∀ k, g_i m (A 2) k = g_i h (A 2) k) → (∀ k, g_l m (A 2) k = g_l h (A 2) k) → (∀ k, g_i m (A 3) k = g_i h (A 3) k) → (∀ k, g_l m (A 3) k = g_l h (A 3) k) → (∀ k, g_i m (A 4) k = g_i h (A 4) k) → (∀ k, g_l m (A 4) k = g_l h (A 4) k) → (∀ k, g_i m (A 5) k = g_i h (A 5) k) → (∀ k, g_l m (A 5) k = g_l h (A 5) k) → (∀ k, g_i m (A 6) k = g_i h (A 6) k) → (∀ k, g_l m (A 6) k = g_l h (A 6) k) → (∀ k, g_i m (A 7) k = g_i h (A 7) k) → (∀ k, g_l m (A 7) k = g_l h (A 7) k) → (∀ k, g_i m (A 8) k = g_i h (A 8) k) → (∀ k, g_l m (A 8) k = g_l h (A 8) k) → (∀ k, g_i m (A 9) k = g_i h (A 9) k) → (∀ k, g_l m (A 9) k = g_l h (A 9) k) → (∀ k, g_i m (A 10) k = g_i h (A 10) k) → (∀ k, g_l m (A 10) k = g_l h (A 10) k) → (∀ k, g_i m (A 11) k = g_i h (A 11) k) → (∀ k, g_l m (A 11) k = g_l h (A 11) k) → (∀ k, g_i m (A 12) k = g_i h (A 12) k) → (∀ k, g_l m (A 12) k = g_l h (A 12) k) → (∀ k, g_i m (A 13) k = g_i h (A 13) k) → (∀ k, g_l m (A 13) k = g_l h (A 13) k) → (∀ k, g_i m (A 14) k = g_i h (A 14) k) → (∀ k, g_l m (A 14) k = g_l h (A 14) k) → (∀ k, g_i m (A 15) k = g_i h (A 15) k) → (∀ k, g_l m (A 15) k = g_l h (A 15) k) → (∀ k, g_i m (A 16) k = g_i h (A 16) k) → (∀ k, g_l m (A 16) k = g_l h (A 16) k) → (∀ k, g_i m (A 17) k = g_i h (A 17) k) → (∀ k, g_l m (A 17) k = g_l h (A 17) k) → (∀ k, g_i m (A 18) k = g_i h (A 18) k) → (∀ k, g_l m (A 18) k = g_l h (A 18) k) → (∀ k, g_i m (A 19) k = g_i h (A 19) k) → (∀ k, g_l m (A 19) k = g_l h (A 19) k) → (∀ k, g_i m (A 23) k = g_i h (A 23) k) → (∀ k, g_l m (A 23) k = g_l h (A 23) k) → (∀ k, g_i m (A 24) k = g_i h (A 24) k) → (∀ k, g_l m (A 24) k = g_l h (A 24) k) → (∀ k, g_i m (A 25) k = g_i h (A 25) k) → (∀ k, g_l m (A 25) k = g_l h (A 25) k) → (∀ k, g_i m (A 26) k = g_i h (A 26) k) → (∀ k, g_l m (A 26) k = g_l h (A 26) k) → (∀ k, g_i m (A 27) k = g_i h (A 27) k) → (∀ k, g_l m (A 27) k = g_l h (A 27) k) → (∀ k, g_i m (A 28) k = g_i h (A 28) k) → (∀ k, g_l m (A 28) k = g_l h (A 28) k) → (∀ k, g_i m (A 29) k = g_i h (A 29) k) → (∀ k, g_l m (A 29) k = g_l h (A 29) k) → (∀ k, g_i m (A 30) k = g_i h (A 30) k) → (∀ k, g_l m (A 30) k = g_l h (A 30) k) → (∀ k, g_i m (A 31) k = g_i h (A 31) k) → (∀ k, g_l m (A 31) k = g_l h (A 31) k) → (∀ k, g_i m (A 32) k = g_i h (A 32) k) → (∀ k, g_l m (A 32) k = g_l h (A 32) k) → (∀ k, g_i m (A 33) k = g_i h (A 33) k) → (∀ k, g_l m (A 33) k = g_l h (A 33) k) → (∀ k, g_i m (A 34) k = g_i h (A 34) k) → (∀ k, g_l m (A 34) k = g_l h (A 34) k) → (∀ k, g_i m (A 35) k = g_i h (A 35) k) → (∀ k, g_l m (A 35) k = g_l h (A 35) k) → (∀ k, g_i m (A 36) k = g_i h (A 36) k) → (∀ k, g_l m (A 36) k = g_l h (A 36) k) → (∀ k, g_i m (A 37) k = g_i h (A 37) k) → (∀ k, g_l m (A 37) k = g_l h (A 37) k) → (∀ k, g_i m (A 38) k = g_i h (A 38) k) → (∀ k, g_l m (A 38) k = g_l h (A 38) k) → (∀ k, g_i m (A 39) k = g_i h (A 39) k) → (∀ k, g_l m (A 39) k = g_l h (A 39) k) → (g_i m (A 22) 6 = g_i h (A 22) 6) → G) : G := by
  obtain ⟨⟨i0, l0⟩, ⟨i1, l1⟩, ⟨i2, l2⟩, ⟨i3, l3⟩, ⟨i4, l4⟩, ⟨i5, l5⟩, ⟨i6, l6⟩, ⟨i7, l7⟩, ⟨i8, l8⟩, ⟨i9, l9⟩, ⟨i10, l10⟩, ⟨i11, l11⟩, ⟨i12, l12⟩, ⟨i13, l13⟩, ⟨i14, l14⟩, ⟨i15, l15⟩, ⟨i16, l16⟩, ⟨i17, l17⟩, ⟨i18, l18⟩, ⟨i19, l19⟩, ⟨i23, l23⟩, ⟨i24, l24⟩, ⟨i25, l25⟩, ⟨i26, l26⟩, ⟨i27, l27⟩, ⟨i28, l28⟩, ⟨i29, l29⟩, ⟨i30, l30⟩, ⟨i31, l31⟩, ⟨i32, l32⟩, ⟨i33, l33⟩, ⟨i34, l34⟩, ⟨i35, l35⟩, ⟨i36, l36⟩, ⟨i37, l37⟩, ⟨i38, l38⟩, ⟨i39, l39⟩, i22⟩ := Sm_at s
  exact f i0 l0 i1 l1 i2 l2 i3 l3 i4 l4 i5 l5 i6 l6 i7 l7 i8 l8 i9 l9 i10 l10 i11 l11 i12 l12 i13 l13 i14 l14 i15 l15 i16 l16 i17 l17 i18 l18 i19 l19 i23 l23 i24 l24 i25 l25 i26 l26 i27 l27 i28 l28 i29 l29 i30 l30 i31 l31 i32 l32 i33 l33 i34 l34 i35 l35 i36 l36 i37 l37 i38 l38 i39 l39 i22
/-! the class -/
def upv (A : Nat → Nat) (h : MH) (s : Nat) : Int32 := (nmC (g_l h (A 4) (11 + 4 * Int32.ofNat s + 0).toNatClampNeg).toInt32 (g_l h (A 4) (11 + 4 * Int32.ofNat s + 1).toNatClampNeg).toInt32 (g_l h (A 4) (11 + 4 * Int32.ofNat s + 2).toNatClampNeg).toInt32 (g_l h (A 4) (11 + 4 * Int32.ofNat s + 3).toNatClampNeg).toInt32 >>> ((32 : Int32).toInt64 &&& 63)).toInt32
def lov (A : Nat → Nat) (h : MH) (s : Nat) : Int32 := (nmC (g_l h (A 4) (11 + 4 * Int32.ofNat s + 0).toNatClampNeg).toInt32 (g_l h (A 4) (11 + 4 * Int32.ofNat s + 1).toNatClampNeg).toInt32 (g_l h (A 4) (11 + 4 * Int32.ofNat s + 2).toNatClampNeg).toInt32 (g_l h (A 4) (11 + 4 * Int32.ofNat s + 3).toNatClampNeg).toInt32).toInt32
theorem c_upperN {A : Nat → Nat} {h : MH} {s : Nat} {Q : MR → MH → Prop} (R : Rl A h) (hs : s < 6) : Ok 60 0 [.ref (A 0), .int (Int32.ofNat s)] [] h 1 6 Q ↔ Q (.inl (some (.int (upv A h s)))) h := by
  have R0 := R
  obtain ⟨vk, vcn, v0, v1, v2, vp, vl0, vl1, vlr, vsr, vc, tx⟩ := R0
  have vk0 := vk
  have vcn0 := vcn
  (refine K_el vk0 ?_; intros hA kc0 kc1 kc2 kc3 kc4 kc5 kc6 kc7 kc8 kc9 kc10 kc11 kc12 kc13 kc14 kc15 kc16 kc17 kc18 kc19 kc20 kc21 kc22 kc23 kc24 kc25 kc26 kc27 kc28 kc29 kc30 kc31 kc32 kc33 kc34 kc35 kc36 kc37 kc38 kc39 kz kt kn3 kn4 kn18 kn21 kn23 kn24 kn25 kn26 kn27 kn29 kn30 kr0_0 kr0_1 kr0_2 kr0_3 kr0_4 kr0_5 kr0_7 kr0_8 kr0_9 kr0_10 kr1_0 kr2_0 kr5_0 kr5_1 kr6_0 kr6_1 kr7_0 kr7_1 kr8_0 kr9_0 kr10_0 kr11_0 kr12_0 kr13_0 kr14_0 kr15_0 kr16_0 kr17_0 kr19_0 kr19_1 kr22_0 kr22_1 kr22_2 kr22_3 kr22_4 kr22_5 kr22_7 kr22_8 kr25_0 kr25_1 kr25_2 kr26_0 kr26_1 kr26_2 kr29_0 kr29_1)
  (refine Cn_el vcn0 ?_; intros ki5_2 ki6_2 ki7_2 ki8_1 ki8_2 ki8_3 ki9_1 ki9_2 ki9_3 ki10_1 ki10_2 ki10_3 ki11_1 ki11_2 ki11_3 ki12_1 ki12_2 ki12_3 ki13_1 ki13_2 ki13_3 ki14_1 ki14_2 ki14_3 ki28_0 ki28_1 ki31_0 ki31_1 ki32_0 ki32_1 ki33_0 ki33_1 ki34_0 ki34_1 ki35_0 ki35_1 ki36_0 ki36_1)
  have hAe : ∀ i j, i < 40 → j < 40 → (A i = A j ↔ i = j) := hA
  have e0 : (Int32.ofNat s < 0) = False := n_z (by omega)
  have e6 : (Int32.ofNat s < 6) = True := by rw [show (6 : Int32) = Int32.ofNat 6 from rfl, n_lt (by omega) (by omega)]; exact eq_true hs
  have hx := ix_ok (s := Int32.ofNat s) (by rw [e0]; exact fun z => z) (by rw [e6]; trivial)
  simp only [o60_0, o60_1, o60_4, o60_5, o60_6, o60_9, o60_12, c_X5_checkSlot, c_X5_numberIn (rw := A 2) (cs := A 4), c_X5_upperOf, mcs_0, Kn_v, Kn_0, Kn_x, true_and, or_false, not_true_eq_false, not_false_eq_true, false_implies, forall_const, Nat.reduceSub, Nat.zero_le, Nat.le_refl, kc0, kc2, kc4, kn4, kr0_1, kr2_0, e0, e6, hx]
  all_goals exact Iff.rfl
theorem m_upperN {A : Nat → Nat} {h : MH} {s : Nat} {Q : MR → MH → Prop} (R : Rl A h) (hs : s < 6) : Ok 177 0 [.ref (A 22), .int (Int32.ofNat s)] [] h 0 0 Q ↔ Q (.inl (some (.int (upv A h s)))) (p_i h (A 22) 9 0) := by
  have R0 := R
  obtain ⟨vk, vcn, v0, v1, v2, vp, vl0, vl1, vlr, vsr, vc, tx⟩ := R0
  have vk0 := vk
  have vcn0 := vcn
  (refine K_el vk0 ?_; intros hA kc0 kc1 kc2 kc3 kc4 kc5 kc6 kc7 kc8 kc9 kc10 kc11 kc12 kc13 kc14 kc15 kc16 kc17 kc18 kc19 kc20 kc21 kc22 kc23 kc24 kc25 kc26 kc27 kc28 kc29 kc30 kc31 kc32 kc33 kc34 kc35 kc36 kc37 kc38 kc39 kz kt kn3 kn4 kn18 kn21 kn23 kn24 kn25 kn26 kn27 kn29 kn30 kr0_0 kr0_1 kr0_2 kr0_3 kr0_4 kr0_5 kr0_7 kr0_8 kr0_9 kr0_10 kr1_0 kr2_0 kr5_0 kr5_1 kr6_0 kr6_1 kr7_0 kr7_1 kr8_0 kr9_0 kr10_0 kr11_0 kr12_0 kr13_0 kr14_0 kr15_0 kr16_0 kr17_0 kr19_0 kr19_1 kr22_0 kr22_1 kr22_2 kr22_3 kr22_4 kr22_5 kr22_7 kr22_8 kr25_0 kr25_1 kr25_2 kr26_0 kr26_1 kr26_2 kr29_0 kr29_1)
  (refine Cn_el vcn0 ?_; intros ki5_2 ki6_2 ki7_2 ki8_1 ki8_2 ki8_3 ki9_1 ki9_2 ki9_3 ki10_1 ki10_2 ki10_3 ki11_1 ki11_2 ki11_3 ki12_1 ki12_2 ki12_3 ki13_1 ki13_2 ki13_3 ki14_1 ki14_2 ki14_3 ki28_0 ki28_1 ki31_0 ki31_1 ki32_0 ki32_1 ki33_0 ki33_1 ki34_0 ki34_1 ki35_0 ki35_1 ki36_0 ki36_1)
  have hAe : ∀ i j, i < 40 → j < 40 → (A i = A j ↔ i = j) := hA
  have e0 : (Int32.ofNat s < 0) = False := n_z (by omega)
  have e6 : (Int32.ofNat s < 6) = True := by rw [show (6 : Int32) = Int32.ofNat 6 from rfl, n_lt (by omega) (by omega)]; exact eq_true hs
  have hx := ix_ok (s := Int32.ofNat s) (by rw [e0]; exact fun z => z) (by rw [e6]; trivial)
  obtain ⟨l0, l1, l2, l3⟩ := ix_lt hx
  have u0 := (vsr _ l0).1
  have u1 := (vsr _ l1).1
  have u2 := (vsr _ l2).1
  have u3 := (vsr _ l3).1
  unfold upv
  rw [u0, u1, u2, u3]
  simp only [o177_0, o177_1, o177_2, o177_5, o177_8, o177_9, o177_12, o177_13, o177_16, o177_19, o177_20, o177_23, o177_24, o177_25, o177_28, o177_30, o177_31, o177_32, c_X8_isSlot, c_X8_isThrown__, c_X8_numberOf (sr := A 24), mc_pi, mn_pi, mi_pi, mr_pi, mcs_0, mcs_r, Kn_v, true_and, and_true, false_and, not_true_eq_false, not_false_eq_true, false_implies, forall_const, if_true, if_false, and_self, Nat.reduceEqDiff, Nat.reduceLeDiff, Nat.reduceAdd, Nat.zero_le, i10, Nat.reduceLT, hAe, kc22, kc24, kn24, kr22_1, kz, e0, e6, hx, i64_back, nm_eq]
  all_goals exact Iff.rfl

theorem c_lowerN {A : Nat → Nat} {h : MH} {s : Nat} {Q : MR → MH → Prop} (R : Rl A h) (hs : s < 6) : Ok 61 0 [.ref (A 0), .int (Int32.ofNat s)] [] h 1 6 Q ↔ Q (.inl (some (.int (lov A h s)))) h := by
  have R0 := R
  obtain ⟨vk, vcn, v0, v1, v2, vp, vl0, vl1, vlr, vsr, vc, tx⟩ := R0
  have vk0 := vk
  have vcn0 := vcn
  (refine K_el vk0 ?_; intros hA kc0 kc1 kc2 kc3 kc4 kc5 kc6 kc7 kc8 kc9 kc10 kc11 kc12 kc13 kc14 kc15 kc16 kc17 kc18 kc19 kc20 kc21 kc22 kc23 kc24 kc25 kc26 kc27 kc28 kc29 kc30 kc31 kc32 kc33 kc34 kc35 kc36 kc37 kc38 kc39 kz kt kn3 kn4 kn18 kn21 kn23 kn24 kn25 kn26 kn27 kn29 kn30 kr0_0 kr0_1 kr0_2 kr0_3 kr0_4 kr0_5 kr0_7 kr0_8 kr0_9 kr0_10 kr1_0 kr2_0 kr5_0 kr5_1 kr6_0 kr6_1 kr7_0 kr7_1 kr8_0 kr9_0 kr10_0 kr11_0 kr12_0 kr13_0 kr14_0 kr15_0 kr16_0 kr17_0 kr19_0 kr19_1 kr22_0 kr22_1 kr22_2 kr22_3 kr22_4 kr22_5 kr22_7 kr22_8 kr25_0 kr25_1 kr25_2 kr26_0 kr26_1 kr26_2 kr29_0 kr29_1)
  (refine Cn_el vcn0 ?_; intros ki5_2 ki6_2 ki7_2 ki8_1 ki8_2 ki8_3 ki9_1 ki9_2 ki9_3 ki10_1 ki10_2 ki10_3 ki11_1 ki11_2 ki11_3 ki12_1 ki12_2 ki12_3 ki13_1 ki13_2 ki13_3 ki14_1 ki14_2 ki14_3 ki28_0 ki28_1 ki31_0 ki31_1 ki32_0 ki32_1 ki33_0 ki33_1 ki34_0 ki34_1 ki35_0 ki35_1 ki36_0 ki36_1)
  have hAe : ∀ i j, i < 40 → j < 40 → (A i = A j ↔ i = j) := hA
  have e0 : (Int32.ofNat s < 0) = False := n_z (by omega)
  have e6 : (Int32.ofNat s < 6) = True := by rw [show (6 : Int32) = Int32.ofNat 6 from rfl, n_lt (by omega) (by omega)]; exact eq_true hs
  have hx := ix_ok (s := Int32.ofNat s) (by rw [e0]; exact fun z => z) (by rw [e6]; trivial)
  simp only [o61_0, o61_1, o61_4, o61_5, o61_6, o61_9, o61_12, c_X5_checkSlot, c_X5_numberIn (rw := A 2) (cs := A 4), c_X5_lowerOf, mcs_0, Kn_v, Kn_0, Kn_x, true_and, or_false, not_true_eq_false, not_false_eq_true, false_implies, forall_const, Nat.reduceSub, Nat.zero_le, Nat.le_refl, kc0, kc2, kc4, kn4, kr0_1, kr2_0, e0, e6, hx]
  all_goals exact Iff.rfl
theorem m_lowerN {A : Nat → Nat} {h : MH} {s : Nat} {Q : MR → MH → Prop} (R : Rl A h) (hs : s < 6) : Ok 178 0 [.ref (A 22), .int (Int32.ofNat s)] [] h 0 0 Q ↔ Q (.inl (some (.int (lov A h s)))) (p_i h (A 22) 9 0) := by
  have R0 := R
  obtain ⟨vk, vcn, v0, v1, v2, vp, vl0, vl1, vlr, vsr, vc, tx⟩ := R0
  have vk0 := vk
  have vcn0 := vcn
  (refine K_el vk0 ?_; intros hA kc0 kc1 kc2 kc3 kc4 kc5 kc6 kc7 kc8 kc9 kc10 kc11 kc12 kc13 kc14 kc15 kc16 kc17 kc18 kc19 kc20 kc21 kc22 kc23 kc24 kc25 kc26 kc27 kc28 kc29 kc30 kc31 kc32 kc33 kc34 kc35 kc36 kc37 kc38 kc39 kz kt kn3 kn4 kn18 kn21 kn23 kn24 kn25 kn26 kn27 kn29 kn30 kr0_0 kr0_1 kr0_2 kr0_3 kr0_4 kr0_5 kr0_7 kr0_8 kr0_9 kr0_10 kr1_0 kr2_0 kr5_0 kr5_1 kr6_0 kr6_1 kr7_0 kr7_1 kr8_0 kr9_0 kr10_0 kr11_0 kr12_0 kr13_0 kr14_0 kr15_0 kr16_0 kr17_0 kr19_0 kr19_1 kr22_0 kr22_1 kr22_2 kr22_3 kr22_4 kr22_5 kr22_7 kr22_8 kr25_0 kr25_1 kr25_2 kr26_0 kr26_1 kr26_2 kr29_0 kr29_1)
  (refine Cn_el vcn0 ?_; intros ki5_2 ki6_2 ki7_2 ki8_1 ki8_2 ki8_3 ki9_1 ki9_2 ki9_3 ki10_1 ki10_2 ki10_3 ki11_1 ki11_2 ki11_3 ki12_1 ki12_2 ki12_3 ki13_1 ki13_2 ki13_3 ki14_1 ki14_2 ki14_3 ki28_0 ki28_1 ki31_0 ki31_1 ki32_0 ki32_1 ki33_0 ki33_1 ki34_0 ki34_1 ki35_0 ki35_1 ki36_0 ki36_1)
  have hAe : ∀ i j, i < 40 → j < 40 → (A i = A j ↔ i = j) := hA
  have e0 : (Int32.ofNat s < 0) = False := n_z (by omega)
  have e6 : (Int32.ofNat s < 6) = True := by rw [show (6 : Int32) = Int32.ofNat 6 from rfl, n_lt (by omega) (by omega)]; exact eq_true hs
  have hx := ix_ok (s := Int32.ofNat s) (by rw [e0]; exact fun z => z) (by rw [e6]; trivial)
  obtain ⟨l0, l1, l2, l3⟩ := ix_lt hx
  have u0 := (vsr _ l0).1
  have u1 := (vsr _ l1).1
  have u2 := (vsr _ l2).1
  have u3 := (vsr _ l3).1
  unfold lov
  rw [u0, u1, u2, u3]
  simp only [o178_0, o178_1, o178_2, o178_5, o178_8, o178_9, o178_12, o178_13, o178_16, o178_19, o178_20, o178_23, o178_24, o178_25, o178_28, o178_29, c_X8_isSlot, c_X8_isThrown__, c_X8_numberOf (sr := A 24), mc_pi, mn_pi, mi_pi, mr_pi, mcs_0, mcs_r, Kn_v, true_and, and_true, false_and, not_true_eq_false, not_false_eq_true, false_implies, forall_const, if_true, if_false, and_self, Nat.reduceEqDiff, Nat.reduceLeDiff, Nat.reduceAdd, Nat.zero_le, i10, Nat.reduceLT, hAe, kc22, kc24, kn24, kr22_1, kz, e0, e6, hx, i64_back, nm_eq]
  all_goals exact Iff.rfl

def dS (A : Nat → Nat) (h : MH) (d : Int64) : Nat → Int64
  | 0 => d
  | n + 1 => dg1 (dg1 (dS A h d n) (upv A h n)) (lov A h n)
theorem ws_loop {A : Nat → Nat} {h : MH} {d : Int64} {v0 : Value} {Q : MR → MH → Prop} (R : Rl A h) : ∀ (k s : Nat), s + k = 6 → Q (.inl (some (.long (dS A h d 6)))) h → Ok 144 5 [.ref (A 0), v0, mk0, .long (dS A h d s), mk0, .int (Int32.ofNat s)] [] h (2 * k) (12 * k) Q
  | 0, s, hs, hQ => by
    have : s = 6 := by omega
    subst this
    have c1 : (Int32.ofNat 6 < (6 : Int32)) = False := by decide
    rw [o144_5]
    simp only [o144_7, o144_9, o144_12, o144_13, o144_14, o144_16, o144_40, o144_41, mcs_0, mcs_l, true_and, and_true, not_true_eq_false, not_false_eq_true, false_implies, forall_const, Nat.reduceLeDiff, Nat.reduceAdd, lt_le, c1]
    exact hQ
  | k + 1, s, hs, hQ => by
    have ih := ws_loop (d := d) (v0 := v0) (Q := Q) R k (s + 1) (by omega) hQ
    have R0 := R
    obtain ⟨vk, vcn, v0, v1, v2, vp, vl0, vl1, vlr, vsr, vc, tx⟩ := R0
    have vk0 := vk
    have vcn0 := vcn
    (refine K_el vk0 ?_; intros hA kc0 kc1 kc2 kc3 kc4 kc5 kc6 kc7 kc8 kc9 kc10 kc11 kc12 kc13 kc14 kc15 kc16 kc17 kc18 kc19 kc20 kc21 kc22 kc23 kc24 kc25 kc26 kc27 kc28 kc29 kc30 kc31 kc32 kc33 kc34 kc35 kc36 kc37 kc38 kc39 kz kt kn3 kn4 kn18 kn21 kn23 kn24 kn25 kn26 kn27 kn29 kn30 kr0_0 kr0_1 kr0_2 kr0_3 kr0_4 kr0_5 kr0_7 kr0_8 kr0_9 kr0_10 kr1_0 kr2_0 kr5_0 kr5_1 kr6_0 kr6_1 kr7_0 kr7_1 kr8_0 kr9_0 kr10_0 kr11_0 kr12_0 kr13_0 kr14_0 kr15_0 kr16_0 kr17_0 kr19_0 kr19_1 kr22_0 kr22_1 kr22_2 kr22_3 kr22_4 kr22_5 kr22_7 kr22_8 kr25_0 kr25_1 kr25_2 kr26_0 kr26_1 kr26_2 kr29_0 kr29_1)
    (refine Cn_el vcn0 ?_; intros ki5_2 ki6_2 ki7_2 ki8_1 ki8_2 ki8_3 ki9_1 ki9_2 ki9_3 ki10_1 ki10_2 ki10_3 ki11_1 ki11_2 ki11_3 ki12_1 ki12_2 ki12_3 ki13_1 ki13_2 ki13_3 ki14_1 ki14_2 ki14_3 ki28_0 ki28_1 ki31_0 ki31_1 ki32_0 ki32_1 ki33_0 ki33_1 ki34_0 ki34_1 ki35_0 ki35_1 ki36_0 ki36_1)
    have hAe : ∀ i j, i < 40 → j < 40 → (A i = A j ↔ i = j) := hA
    have c1 : (Int32.ofNat s < (6 : Int32)) = True := by
      rw [show (6 : Int32) = Int32.ofNat 6 by decide, n_lt (by omega) (by omega)]
      exact eq_true (by omega)
    have c6 : Int32.ofNat s + 1 = Int32.ofNat (s + 1) := n_add s 1
    have c2 : (1 ≤ 2 * (k + 1)) = True := eq_true (by omega)
    have c3 : (6 ≤ 12 * (k + 1)) = True := eq_true (by omega)
    have c4 : 2 * (k + 1) - 1 - 1 = 2 * k := by omega
    have c5 : 12 * (k + 1) - 6 - 6 = 12 * k := by omega
    have c7 : (1 ≤ 2 * (k + 1) - 1) = True := eq_true (by omega)
    have c8 : (6 ≤ 12 * (k + 1) - 6) = True := eq_true (by omega)
    rw [o144_5]
    simp only [o144_7, o144_9, o144_12, o144_13, o144_14, o144_16, o144_19, o144_20, o144_23, o144_24, o144_26, o144_29, o144_30, o144_33, o144_34, o144_37, c_upperN R (s := s) (by omega), c_lowerN R (s := s) (by omega), o143_0, o143_1, o143_4, o143_5, o143_6, o143_7, mcs_0, mcs_l, Kn_v, true_and, not_true_eq_false, not_false_eq_true, false_implies, forall_const, Nat.reduceLeDiff, Nat.reduceAdd, Nat.zero_le, lt_le, kc0, c1, c2, c3, c4, c5, c6, c7, c8]
    exact ih
theorem c_wS {A : Nat → Nat} {h : MH} {d : Int64} {Q : MR → MH → Prop} (R : Rl A h) (hQ : Q (.inl (some (.long (dS A h d 6)))) h) : Ok 144 0 [.ref (A 0), .long d, mk0, mk0, mk0, mk0] [] h 12 72 Q := by
  have lp := ws_loop (d := d) (v0 := .long d) R 6 0 rfl hQ
  simp only [o144_0, o144_1, o144_2, o144_3]
  exact lp

theorem c_liesX0 {A : Nat → Nat} {h : MH} {Q : MR → MH → Prop} (R : Rl A h) : Ok 75 0 [.ref (A 0), .int 0] [] h 1 6 Q ↔ Q (.inl (some (.int (lyF (cT h (A 5) (A 8) (A 9)))))) h := by
  have R0 := R
  obtain ⟨vk, vcn, v0, v1, v2, vp, vl0, vl1, vlr, vsr, vc, tx⟩ := R0
  have vk0 := vk
  have vcn0 := vcn
  (refine K_el vk0 ?_; intros hA kc0 kc1 kc2 kc3 kc4 kc5 kc6 kc7 kc8 kc9 kc10 kc11 kc12 kc13 kc14 kc15 kc16 kc17 kc18 kc19 kc20 kc21 kc22 kc23 kc24 kc25 kc26 kc27 kc28 kc29 kc30 kc31 kc32 kc33 kc34 kc35 kc36 kc37 kc38 kc39 kz kt kn3 kn4 kn18 kn21 kn23 kn24 kn25 kn26 kn27 kn29 kn30 kr0_0 kr0_1 kr0_2 kr0_3 kr0_4 kr0_5 kr0_7 kr0_8 kr0_9 kr0_10 kr1_0 kr2_0 kr5_0 kr5_1 kr6_0 kr6_1 kr7_0 kr7_1 kr8_0 kr9_0 kr10_0 kr11_0 kr12_0 kr13_0 kr14_0 kr15_0 kr16_0 kr17_0 kr19_0 kr19_1 kr22_0 kr22_1 kr22_2 kr22_3 kr22_4 kr22_5 kr22_7 kr22_8 kr25_0 kr25_1 kr25_2 kr26_0 kr26_1 kr26_2 kr29_0 kr29_1)
  (refine Cn_el vcn0 ?_; intros ki5_2 ki6_2 ki7_2 ki8_1 ki8_2 ki8_3 ki9_1 ki9_2 ki9_3 ki10_1 ki10_2 ki10_3 ki11_1 ki11_2 ki11_3 ki12_1 ki12_2 ki12_3 ki13_1 ki13_2 ki13_3 ki14_1 ki14_2 ki14_3 ki28_0 ki28_1 ki31_0 ki31_1 ki32_0 ki32_1 ki33_0 ki33_1 ki34_0 ki34_1 ki35_0 ki35_1 ki36_0 ki36_1)
  have hAe : ∀ i j, i < 40 → j < 40 → (A i = A j ↔ i = j) := hA
  simp only [o75_0, o75_1, o75_2, o75_5, o75_8, c_queueOf_0, c_X1_lying (w := A 8) (r := A 9), mcs_0, Kn_v, true_and, Nat.reduceSub, Nat.zero_le, Nat.le_refl, Option.some.injEq, kc0, kc5, kc8, kc9, kr0_2, kr5_0, kr5_1]

theorem c_roomX0 {A : Nat → Nat} {h : MH} {Q : MR → MH → Prop} (R : Rl A h) : Ok 76 0 [.ref (A 0), .int 0] [] h 1 6 Q ↔ Q (.inl (some (.int (frF 1 (cT h (A 5) (A 8) (A 9)))))) h := by
  have R0 := R
  obtain ⟨vk, vcn, v0, v1, v2, vp, vl0, vl1, vlr, vsr, vc, tx⟩ := R0
  have vk0 := vk
  have vcn0 := vcn
  (refine K_el vk0 ?_; intros hA kc0 kc1 kc2 kc3 kc4 kc5 kc6 kc7 kc8 kc9 kc10 kc11 kc12 kc13 kc14 kc15 kc16 kc17 kc18 kc19 kc20 kc21 kc22 kc23 kc24 kc25 kc26 kc27 kc28 kc29 kc30 kc31 kc32 kc33 kc34 kc35 kc36 kc37 kc38 kc39 kz kt kn3 kn4 kn18 kn21 kn23 kn24 kn25 kn26 kn27 kn29 kn30 kr0_0 kr0_1 kr0_2 kr0_3 kr0_4 kr0_5 kr0_7 kr0_8 kr0_9 kr0_10 kr1_0 kr2_0 kr5_0 kr5_1 kr6_0 kr6_1 kr7_0 kr7_1 kr8_0 kr9_0 kr10_0 kr11_0 kr12_0 kr13_0 kr14_0 kr15_0 kr16_0 kr17_0 kr19_0 kr19_1 kr22_0 kr22_1 kr22_2 kr22_3 kr22_4 kr22_5 kr22_7 kr22_8 kr25_0 kr25_1 kr25_2 kr26_0 kr26_1 kr26_2 kr29_0 kr29_1)
  (refine Cn_el vcn0 ?_; intros ki5_2 ki6_2 ki7_2 ki8_1 ki8_2 ki8_3 ki9_1 ki9_2 ki9_3 ki10_1 ki10_2 ki10_3 ki11_1 ki11_2 ki11_3 ki12_1 ki12_2 ki12_3 ki13_1 ki13_2 ki13_3 ki14_1 ki14_2 ki14_3 ki28_0 ki28_1 ki31_0 ki31_1 ki32_0 ki32_1 ki33_0 ki33_1 ki34_0 ki34_1 ki35_0 ki35_1 ki36_0 ki36_1)
  have hAe : ∀ i j, i < 40 → j < 40 → (A i = A j ↔ i = j) := hA
  simp only [o76_0, o76_1, o76_2, o76_5, o76_8, c_queueOf_0, c_X1_freeCells (w := A 8) (r := A 9), mcs_0, Kn_v, true_and, Nat.reduceSub, Nat.zero_le, Nat.le_refl, Option.some.injEq, kc0, kc5, kc8, kc9, kr0_2, kr5_0, kr5_1, ki5_2]

theorem c_plX0_0 {A : Nat → Nat} {h : MH} {Q : MR → MH → Prop} (R : Rl A h) : Ok 79 0 [.ref (A 0), .int 0, .int 0, mk0] [] h 2 12 Q ↔ Q (.inl (some (.int (g_i h (A 8) 4)))) h := by
  have R0 := R
  obtain ⟨vk, vcn, v0, v1, v2, vp, vl0, vl1, vlr, vsr, vc, tx⟩ := R0
  have vk0 := vk
  have vcn0 := vcn
  (refine K_el vk0 ?_; intros hA kc0 kc1 kc2 kc3 kc4 kc5 kc6 kc7 kc8 kc9 kc10 kc11 kc12 kc13 kc14 kc15 kc16 kc17 kc18 kc19 kc20 kc21 kc22 kc23 kc24 kc25 kc26 kc27 kc28 kc29 kc30 kc31 kc32 kc33 kc34 kc35 kc36 kc37 kc38 kc39 kz kt kn3 kn4 kn18 kn21 kn23 kn24 kn25 kn26 kn27 kn29 kn30 kr0_0 kr0_1 kr0_2 kr0_3 kr0_4 kr0_5 kr0_7 kr0_8 kr0_9 kr0_10 kr1_0 kr2_0 kr5_0 kr5_1 kr6_0 kr6_1 kr7_0 kr7_1 kr8_0 kr9_0 kr10_0 kr11_0 kr12_0 kr13_0 kr14_0 kr15_0 kr16_0 kr17_0 kr19_0 kr19_1 kr22_0 kr22_1 kr22_2 kr22_3 kr22_4 kr22_5 kr22_7 kr22_8 kr25_0 kr25_1 kr25_2 kr26_0 kr26_1 kr26_2 kr29_0 kr29_1)
  (refine Cn_el vcn0 ?_; intros ki5_2 ki6_2 ki7_2 ki8_1 ki8_2 ki8_3 ki9_1 ki9_2 ki9_3 ki10_1 ki10_2 ki10_3 ki11_1 ki11_2 ki11_3 ki12_1 ki12_2 ki12_3 ki13_1 ki13_2 ki13_3 ki14_1 ki14_2 ki14_3 ki28_0 ki28_1 ki31_0 ki31_1 ki32_0 ki32_1 ki33_0 ki33_1 ki34_0 ki34_1 ki35_0 ki35_1 ki36_0 ki36_1)
  have hAe : ∀ i j, i < 40 → j < 40 → (A i = A j ↔ i = j) := hA
  simp only [o79_0, o79_1, o79_2, o79_5, o79_6, o79_7, o79_9, o79_12, o79_13, o79_52, o79_53, o79_56, o79_59, o79_60, o79_61, o79_64, o79_67, o79_68, o79_69, o79_72, o79_75, o79_76, o79_77, o79_80, o79_83, o79_84, o79_85, o79_88, o79_91, o79_92, o79_93, o79_96, o79_99, o79_100, o79_101, o79_104, o79_107, c_queueOf_0, c_X5_checkChoice, mcs_0, Kn_v, Kn_0, Kn_x, mrf_some, true_and, and_true, not_false_eq_true, false_implies, forall_const, and_self, Nat.reduceLeDiff, Nat.reduceSub, Nat.zero_le, Nat.le_refl, i01, Int32.reduceLT, Option.some.injEq, kc0, kc5, kc8, kc9, kr0_2, kr5_0, kr5_1, ki8_1, ki8_2, lne, lti, Int.reduceLT, or_self, Int32.reduceLT]

theorem c_plX0_1 {A : Nat → Nat} {h : MH} {Q : MR → MH → Prop} (R : Rl A h) : Ok 79 0 [.ref (A 0), .int 0, .int 1, mk0] [] h 2 12 Q ↔ Q (.inl (some (.int (g_i h (A 8) 5)))) h := by
  have R0 := R
  obtain ⟨vk, vcn, v0, v1, v2, vp, vl0, vl1, vlr, vsr, vc, tx⟩ := R0
  have vk0 := vk
  have vcn0 := vcn
  (refine K_el vk0 ?_; intros hA kc0 kc1 kc2 kc3 kc4 kc5 kc6 kc7 kc8 kc9 kc10 kc11 kc12 kc13 kc14 kc15 kc16 kc17 kc18 kc19 kc20 kc21 kc22 kc23 kc24 kc25 kc26 kc27 kc28 kc29 kc30 kc31 kc32 kc33 kc34 kc35 kc36 kc37 kc38 kc39 kz kt kn3 kn4 kn18 kn21 kn23 kn24 kn25 kn26 kn27 kn29 kn30 kr0_0 kr0_1 kr0_2 kr0_3 kr0_4 kr0_5 kr0_7 kr0_8 kr0_9 kr0_10 kr1_0 kr2_0 kr5_0 kr5_1 kr6_0 kr6_1 kr7_0 kr7_1 kr8_0 kr9_0 kr10_0 kr11_0 kr12_0 kr13_0 kr14_0 kr15_0 kr16_0 kr17_0 kr19_0 kr19_1 kr22_0 kr22_1 kr22_2 kr22_3 kr22_4 kr22_5 kr22_7 kr22_8 kr25_0 kr25_1 kr25_2 kr26_0 kr26_1 kr26_2 kr29_0 kr29_1)
  (refine Cn_el vcn0 ?_; intros ki5_2 ki6_2 ki7_2 ki8_1 ki8_2 ki8_3 ki9_1 ki9_2 ki9_3 ki10_1 ki10_2 ki10_3 ki11_1 ki11_2 ki11_3 ki12_1 ki12_2 ki12_3 ki13_1 ki13_2 ki13_3 ki14_1 ki14_2 ki14_3 ki28_0 ki28_1 ki31_0 ki31_1 ki32_0 ki32_1 ki33_0 ki33_1 ki34_0 ki34_1 ki35_0 ki35_1 ki36_0 ki36_1)
  have hAe : ∀ i j, i < 40 → j < 40 → (A i = A j ↔ i = j) := hA
  simp only [o79_0, o79_1, o79_2, o79_5, o79_6, o79_7, o79_9, o79_12, o79_13, o79_52, o79_53, o79_56, o79_59, o79_60, o79_61, o79_64, o79_67, o79_68, o79_69, o79_72, o79_75, o79_76, o79_77, o79_80, o79_83, o79_84, o79_85, o79_88, o79_91, o79_92, o79_93, o79_96, o79_99, o79_100, o79_101, o79_104, o79_107, c_queueOf_0, c_X5_checkChoice, mcs_0, Kn_v, Kn_0, Kn_x, mrf_some, true_and, and_true, not_false_eq_true, false_implies, forall_const, and_self, Nat.reduceLeDiff, Nat.reduceSub, Nat.zero_le, Nat.le_refl, i10, Int32.reduceLT, Option.some.injEq, kc0, kc5, kc8, kc9, kr0_2, kr5_0, kr5_1, ki8_1, ki8_2, lne, lti, Int.reduceLT, or_self, Int32.reduceLT]

theorem c_plX0_2 {A : Nat → Nat} {h : MH} {Q : MR → MH → Prop} (R : Rl A h) : Ok 79 0 [.ref (A 0), .int 0, .int 2, mk0] [] h 2 12 Q ↔ Q (.inl (some (.int (g_i h (A 9) 4)))) h := by
  have R0 := R
  obtain ⟨vk, vcn, v0, v1, v2, vp, vl0, vl1, vlr, vsr, vc, tx⟩ := R0
  have vk0 := vk
  have vcn0 := vcn
  (refine K_el vk0 ?_; intros hA kc0 kc1 kc2 kc3 kc4 kc5 kc6 kc7 kc8 kc9 kc10 kc11 kc12 kc13 kc14 kc15 kc16 kc17 kc18 kc19 kc20 kc21 kc22 kc23 kc24 kc25 kc26 kc27 kc28 kc29 kc30 kc31 kc32 kc33 kc34 kc35 kc36 kc37 kc38 kc39 kz kt kn3 kn4 kn18 kn21 kn23 kn24 kn25 kn26 kn27 kn29 kn30 kr0_0 kr0_1 kr0_2 kr0_3 kr0_4 kr0_5 kr0_7 kr0_8 kr0_9 kr0_10 kr1_0 kr2_0 kr5_0 kr5_1 kr6_0 kr6_1 kr7_0 kr7_1 kr8_0 kr9_0 kr10_0 kr11_0 kr12_0 kr13_0 kr14_0 kr15_0 kr16_0 kr17_0 kr19_0 kr19_1 kr22_0 kr22_1 kr22_2 kr22_3 kr22_4 kr22_5 kr22_7 kr22_8 kr25_0 kr25_1 kr25_2 kr26_0 kr26_1 kr26_2 kr29_0 kr29_1)
  (refine Cn_el vcn0 ?_; intros ki5_2 ki6_2 ki7_2 ki8_1 ki8_2 ki8_3 ki9_1 ki9_2 ki9_3 ki10_1 ki10_2 ki10_3 ki11_1 ki11_2 ki11_3 ki12_1 ki12_2 ki12_3 ki13_1 ki13_2 ki13_3 ki14_1 ki14_2 ki14_3 ki28_0 ki28_1 ki31_0 ki31_1 ki32_0 ki32_1 ki33_0 ki33_1 ki34_0 ki34_1 ki35_0 ki35_1 ki36_0 ki36_1)
  have hAe : ∀ i j, i < 40 → j < 40 → (A i = A j ↔ i = j) := hA
  simp only [o79_0, o79_1, o79_2, o79_5, o79_6, o79_7, o79_9, o79_12, o79_13, o79_52, o79_53, o79_56, o79_59, o79_60, o79_61, o79_64, o79_67, o79_68, o79_69, o79_72, o79_75, o79_76, o79_77, o79_80, o79_83, o79_84, o79_85, o79_88, o79_91, o79_92, o79_93, o79_96, o79_99, o79_100, o79_101, o79_104, o79_107, c_queueOf_0, c_X5_checkChoice, mcs_0, Kn_v, Kn_0, Kn_x, mrf_some, true_and, and_true, not_false_eq_true, false_implies, forall_const, and_self, Nat.reduceLeDiff, Nat.reduceSub, Nat.zero_le, Nat.le_refl, Int32.reduceLT, Option.some.injEq, i20, kc0, kc5, kc8, kc9, kr0_2, kr5_0, kr5_1, ki8_1, ki8_2, lne, lti, Int.reduceLT, or_self, Int32.reduceLT]

theorem c_plX0_3 {A : Nat → Nat} {h : MH} {Q : MR → MH → Prop} (R : Rl A h) : Ok 79 0 [.ref (A 0), .int 0, .int 3, mk0] [] h 2 12 Q ↔ Q (.inl (some (.int (g_i h (A 9) 5)))) h := by
  have R0 := R
  obtain ⟨vk, vcn, v0, v1, v2, vp, vl0, vl1, vlr, vsr, vc, tx⟩ := R0
  have vk0 := vk
  have vcn0 := vcn
  (refine K_el vk0 ?_; intros hA kc0 kc1 kc2 kc3 kc4 kc5 kc6 kc7 kc8 kc9 kc10 kc11 kc12 kc13 kc14 kc15 kc16 kc17 kc18 kc19 kc20 kc21 kc22 kc23 kc24 kc25 kc26 kc27 kc28 kc29 kc30 kc31 kc32 kc33 kc34 kc35 kc36 kc37 kc38 kc39 kz kt kn3 kn4 kn18 kn21 kn23 kn24 kn25 kn26 kn27 kn29 kn30 kr0_0 kr0_1 kr0_2 kr0_3 kr0_4 kr0_5 kr0_7 kr0_8 kr0_9 kr0_10 kr1_0 kr2_0 kr5_0 kr5_1 kr6_0 kr6_1 kr7_0 kr7_1 kr8_0 kr9_0 kr10_0 kr11_0 kr12_0 kr13_0 kr14_0 kr15_0 kr16_0 kr17_0 kr19_0 kr19_1 kr22_0 kr22_1 kr22_2 kr22_3 kr22_4 kr22_5 kr22_7 kr22_8 kr25_0 kr25_1 kr25_2 kr26_0 kr26_1 kr26_2 kr29_0 kr29_1)
  (refine Cn_el vcn0 ?_; intros ki5_2 ki6_2 ki7_2 ki8_1 ki8_2 ki8_3 ki9_1 ki9_2 ki9_3 ki10_1 ki10_2 ki10_3 ki11_1 ki11_2 ki11_3 ki12_1 ki12_2 ki12_3 ki13_1 ki13_2 ki13_3 ki14_1 ki14_2 ki14_3 ki28_0 ki28_1 ki31_0 ki31_1 ki32_0 ki32_1 ki33_0 ki33_1 ki34_0 ki34_1 ki35_0 ki35_1 ki36_0 ki36_1)
  have hAe : ∀ i j, i < 40 → j < 40 → (A i = A j ↔ i = j) := hA
  simp only [o79_0, o79_1, o79_2, o79_5, o79_6, o79_7, o79_9, o79_12, o79_13, o79_52, o79_53, o79_56, o79_59, o79_60, o79_61, o79_64, o79_67, o79_68, o79_69, o79_72, o79_75, o79_76, o79_77, o79_80, o79_83, o79_84, o79_85, o79_88, o79_91, o79_92, o79_93, o79_96, o79_99, o79_100, o79_101, o79_104, o79_107, c_queueOf_0, c_X5_checkChoice, mcs_0, Kn_v, Kn_0, Kn_x, mrf_some, true_and, and_true, not_false_eq_true, false_implies, forall_const, and_self, Nat.reduceLeDiff, Nat.reduceSub, Nat.zero_le, Nat.le_refl, Int32.reduceLT, Option.some.injEq, i30, kc0, kc5, kc8, kc9, kr0_2, kr5_0, kr5_1, ki8_1, ki8_2, lne, lti, Int.reduceLT, or_self, Int32.reduceLT]

theorem c_plX0_4 {A : Nat → Nat} {h : MH} {Q : MR → MH → Prop} (R : Rl A h) : Ok 79 0 [.ref (A 0), .int 0, .int 4, mk0] [] h 2 12 Q ↔ Q (.inl (some (.int (g_i h (A 9) 6)))) h := by
  have R0 := R
  obtain ⟨vk, vcn, v0, v1, v2, vp, vl0, vl1, vlr, vsr, vc, tx⟩ := R0
  have vk0 := vk
  have vcn0 := vcn
  (refine K_el vk0 ?_; intros hA kc0 kc1 kc2 kc3 kc4 kc5 kc6 kc7 kc8 kc9 kc10 kc11 kc12 kc13 kc14 kc15 kc16 kc17 kc18 kc19 kc20 kc21 kc22 kc23 kc24 kc25 kc26 kc27 kc28 kc29 kc30 kc31 kc32 kc33 kc34 kc35 kc36 kc37 kc38 kc39 kz kt kn3 kn4 kn18 kn21 kn23 kn24 kn25 kn26 kn27 kn29 kn30 kr0_0 kr0_1 kr0_2 kr0_3 kr0_4 kr0_5 kr0_7 kr0_8 kr0_9 kr0_10 kr1_0 kr2_0 kr5_0 kr5_1 kr6_0 kr6_1 kr7_0 kr7_1 kr8_0 kr9_0 kr10_0 kr11_0 kr12_0 kr13_0 kr14_0 kr15_0 kr16_0 kr17_0 kr19_0 kr19_1 kr22_0 kr22_1 kr22_2 kr22_3 kr22_4 kr22_5 kr22_7 kr22_8 kr25_0 kr25_1 kr25_2 kr26_0 kr26_1 kr26_2 kr29_0 kr29_1)
  (refine Cn_el vcn0 ?_; intros ki5_2 ki6_2 ki7_2 ki8_1 ki8_2 ki8_3 ki9_1 ki9_2 ki9_3 ki10_1 ki10_2 ki10_3 ki11_1 ki11_2 ki11_3 ki12_1 ki12_2 ki12_3 ki13_1 ki13_2 ki13_3 ki14_1 ki14_2 ki14_3 ki28_0 ki28_1 ki31_0 ki31_1 ki32_0 ki32_1 ki33_0 ki33_1 ki34_0 ki34_1 ki35_0 ki35_1 ki36_0 ki36_1)
  have hAe : ∀ i j, i < 40 → j < 40 → (A i = A j ↔ i = j) := hA
  simp only [o79_0, o79_1, o79_2, o79_5, o79_6, o79_7, o79_9, o79_12, o79_13, o79_52, o79_53, o79_56, o79_59, o79_60, o79_61, o79_64, o79_67, o79_68, o79_69, o79_72, o79_75, o79_76, o79_77, o79_80, o79_83, o79_84, o79_85, o79_88, o79_91, o79_92, o79_93, o79_96, o79_99, o79_100, o79_101, o79_104, o79_107, c_queueOf_0, c_X5_checkChoice, mcs_0, Kn_v, Kn_0, Kn_x, mrf_some, true_and, and_true, not_false_eq_true, false_implies, forall_const, Nat.reduceLeDiff, Nat.reduceSub, Nat.zero_le, Nat.le_refl, Int32.reduceLT, Option.some.injEq, kc0, kc5, kc8, kc9, kr0_2, kr5_0, kr5_1, ki8_1, ki8_2, lne, lti, Int.reduceLT, or_self, Int32.reduceLT]

theorem c_plX0_5 {A : Nat → Nat} {h : MH} {Q : MR → MH → Prop} (R : Rl A h) : Ok 79 0 [.ref (A 0), .int 0, .int 5, mk0] [] h 2 12 Q ↔ Q (.inl (some (.int (5)))) h := by
  have R0 := R
  obtain ⟨vk, vcn, v0, v1, v2, vp, vl0, vl1, vlr, vsr, vc, tx⟩ := R0
  have vk0 := vk
  have vcn0 := vcn
  (refine K_el vk0 ?_; intros hA kc0 kc1 kc2 kc3 kc4 kc5 kc6 kc7 kc8 kc9 kc10 kc11 kc12 kc13 kc14 kc15 kc16 kc17 kc18 kc19 kc20 kc21 kc22 kc23 kc24 kc25 kc26 kc27 kc28 kc29 kc30 kc31 kc32 kc33 kc34 kc35 kc36 kc37 kc38 kc39 kz kt kn3 kn4 kn18 kn21 kn23 kn24 kn25 kn26 kn27 kn29 kn30 kr0_0 kr0_1 kr0_2 kr0_3 kr0_4 kr0_5 kr0_7 kr0_8 kr0_9 kr0_10 kr1_0 kr2_0 kr5_0 kr5_1 kr6_0 kr6_1 kr7_0 kr7_1 kr8_0 kr9_0 kr10_0 kr11_0 kr12_0 kr13_0 kr14_0 kr15_0 kr16_0 kr17_0 kr19_0 kr19_1 kr22_0 kr22_1 kr22_2 kr22_3 kr22_4 kr22_5 kr22_7 kr22_8 kr25_0 kr25_1 kr25_2 kr26_0 kr26_1 kr26_2 kr29_0 kr29_1)
  (refine Cn_el vcn0 ?_; intros ki5_2 ki6_2 ki7_2 ki8_1 ki8_2 ki8_3 ki9_1 ki9_2 ki9_3 ki10_1 ki10_2 ki10_3 ki11_1 ki11_2 ki11_3 ki12_1 ki12_2 ki12_3 ki13_1 ki13_2 ki13_3 ki14_1 ki14_2 ki14_3 ki28_0 ki28_1 ki31_0 ki31_1 ki32_0 ki32_1 ki33_0 ki33_1 ki34_0 ki34_1 ki35_0 ki35_1 ki36_0 ki36_1)
  have hAe : ∀ i j, i < 40 → j < 40 → (A i = A j ↔ i = j) := hA
  simp only [o79_0, o79_1, o79_2, o79_5, o79_6, o79_7, o79_9, o79_12, o79_13, o79_52, o79_53, o79_56, o79_59, o79_60, o79_61, o79_64, o79_67, o79_68, o79_69, o79_72, o79_75, o79_76, o79_77, o79_80, o79_83, o79_84, o79_85, o79_88, o79_91, o79_92, o79_93, o79_96, o79_99, o79_100, o79_101, o79_104, o79_107, c_queueOf_0, c_X5_checkChoice, mcs_0, Kn_v, Kn_0, Kn_x, mrf_some, true_and, not_false_eq_true, false_implies, forall_const, Nat.reduceLeDiff, Nat.reduceSub, Nat.zero_le, Nat.le_refl, Int32.reduceLT, Option.some.injEq, kc0, kc5, kc8, kc9, kr0_2, kr5_0, kr5_1, ki8_1, ki8_2, lne, lti, Int.reduceLT, or_self, Int32.reduceLT]

theorem c_plX0_6 {A : Nat → Nat} {h : MH} {Q : MR → MH → Prop} (R : Rl A h) : Ok 79 0 [.ref (A 0), .int 0, .int 6, mk0] [] h 2 12 Q ↔ Q (.inl (some (.int (1)))) h := by
  have R0 := R
  obtain ⟨vk, vcn, v0, v1, v2, vp, vl0, vl1, vlr, vsr, vc, tx⟩ := R0
  have vk0 := vk
  have vcn0 := vcn
  (refine K_el vk0 ?_; intros hA kc0 kc1 kc2 kc3 kc4 kc5 kc6 kc7 kc8 kc9 kc10 kc11 kc12 kc13 kc14 kc15 kc16 kc17 kc18 kc19 kc20 kc21 kc22 kc23 kc24 kc25 kc26 kc27 kc28 kc29 kc30 kc31 kc32 kc33 kc34 kc35 kc36 kc37 kc38 kc39 kz kt kn3 kn4 kn18 kn21 kn23 kn24 kn25 kn26 kn27 kn29 kn30 kr0_0 kr0_1 kr0_2 kr0_3 kr0_4 kr0_5 kr0_7 kr0_8 kr0_9 kr0_10 kr1_0 kr2_0 kr5_0 kr5_1 kr6_0 kr6_1 kr7_0 kr7_1 kr8_0 kr9_0 kr10_0 kr11_0 kr12_0 kr13_0 kr14_0 kr15_0 kr16_0 kr17_0 kr19_0 kr19_1 kr22_0 kr22_1 kr22_2 kr22_3 kr22_4 kr22_5 kr22_7 kr22_8 kr25_0 kr25_1 kr25_2 kr26_0 kr26_1 kr26_2 kr29_0 kr29_1)
  (refine Cn_el vcn0 ?_; intros ki5_2 ki6_2 ki7_2 ki8_1 ki8_2 ki8_3 ki9_1 ki9_2 ki9_3 ki10_1 ki10_2 ki10_3 ki11_1 ki11_2 ki11_3 ki12_1 ki12_2 ki12_3 ki13_1 ki13_2 ki13_3 ki14_1 ki14_2 ki14_3 ki28_0 ki28_1 ki31_0 ki31_1 ki32_0 ki32_1 ki33_0 ki33_1 ki34_0 ki34_1 ki35_0 ki35_1 ki36_0 ki36_1)
  have hAe : ∀ i j, i < 40 → j < 40 → (A i = A j ↔ i = j) := hA
  simp only [o79_0, o79_1, o79_2, o79_5, o79_6, o79_7, o79_9, o79_12, o79_13, o79_52, o79_53, o79_56, o79_59, o79_60, o79_61, o79_64, o79_67, o79_68, o79_69, o79_72, o79_75, o79_76, o79_77, o79_80, o79_83, o79_84, o79_85, o79_88, o79_91, o79_92, o79_93, o79_96, o79_99, o79_100, o79_101, o79_104, o79_107, c_queueOf_0, c_X5_checkChoice, mcs_0, Kn_v, Kn_0, Kn_x, mrf_some, true_and, and_true, or_true, not_false_eq_true, false_implies, forall_const, and_self, Nat.reduceLeDiff, Nat.reduceSub, Nat.zero_le, Nat.le_refl, Int32.reduceLT, Option.some.injEq, kc0, kc5, kc8, kc9, kr0_2, kr5_0, kr5_1, ki8_1, ki8_2, lne, lti, Int.reduceLT, or_self, Int32.reduceLT]

def dP0 (A : Nat → Nat) (h : MH) (d : Int64) : Int64 := dg1 (dg1 (dg1 (dg1 (dg1 (dg1 (dg1 (dg1 (dg1 d (lyF (cT h (A 5) (A 8) (A 9)))) (frF 1 (cT h (A 5) (A 8) (A 9)))) (g_i h (A 8) 4)) (g_i h (A 8) 5)) (g_i h (A 9) 4)) (g_i h (A 9) 5)) (g_i h (A 9) 6)) (5)) (1)
def dQ0 (A : Nat → Nat) (h : MH) (d : Int64) : Int64 := dg1 (dP0 A h d) (Int32.ofNat (tq (qv0 A h) (lyF (cT h (A 5) (A 8) (A 9))).toNatClampNeg))
theorem c_wQ0 {A : Nat → Nat} {h : MH} {d : Int64} {Q : MR → MH → Prop} (R : Rl A h) (hQ : ∀ m, Sm A h m → Rl A m → Q (.inl (some (.long (dQ0 A h d)))) m) : Ok 145 0 [.ref (A 0), .long d, mk0, .int 0, mk0, mk0, mk0] [] h 144 19152 Q := by
  have R0 := R
  obtain ⟨vk, vcn, v0, v1, v2, vp, vl0, vl1, vlr, vsr, vc, tx⟩ := R0
  have vk0 := vk
  have vcn0 := vcn
  (refine K_el vk0 ?_; intros hA kc0 kc1 kc2 kc3 kc4 kc5 kc6 kc7 kc8 kc9 kc10 kc11 kc12 kc13 kc14 kc15 kc16 kc17 kc18 kc19 kc20 kc21 kc22 kc23 kc24 kc25 kc26 kc27 kc28 kc29 kc30 kc31 kc32 kc33 kc34 kc35 kc36 kc37 kc38 kc39 kz kt kn3 kn4 kn18 kn21 kn23 kn24 kn25 kn26 kn27 kn29 kn30 kr0_0 kr0_1 kr0_2 kr0_3 kr0_4 kr0_5 kr0_7 kr0_8 kr0_9 kr0_10 kr1_0 kr2_0 kr5_0 kr5_1 kr6_0 kr6_1 kr7_0 kr7_1 kr8_0 kr9_0 kr10_0 kr11_0 kr12_0 kr13_0 kr14_0 kr15_0 kr16_0 kr17_0 kr19_0 kr19_1 kr22_0 kr22_1 kr22_2 kr22_3 kr22_4 kr22_5 kr22_7 kr22_8 kr25_0 kr25_1 kr25_2 kr26_0 kr26_1 kr26_2 kr29_0 kr29_1)
  (refine Cn_el vcn0 ?_; intros ki5_2 ki6_2 ki7_2 ki8_1 ki8_2 ki8_3 ki9_1 ki9_2 ki9_3 ki10_1 ki10_2 ki10_3 ki11_1 ki11_2 ki11_3 ki12_1 ki12_2 ki12_3 ki13_1 ki13_2 ki13_3 ki14_1 ki14_2 ki14_3 ki28_0 ki28_1 ki31_0 ki31_1 ki32_0 ki32_1 ki33_0 ki33_1 ki34_0 ki34_1 ki35_0 ki35_1 ki36_0 ki36_1)
  have hAe : ∀ i j, i < 40 → j < 40 → (A i = A j ↔ i = j) := hA
  have a0 : ∀ j : Nat, j < 7 → ((6 : Int32) < Int32.ofNat j) = False := by decide
  have b6 : (6 : Int32) = 6 := by decide
  simp only [o145_0, o145_1, o145_2, o145_3, o145_6, o145_7, o145_10, o145_11, o145_12, o145_15, o145_16, o145_19, o145_21, o145_22, o145_24, o145_26, o145_28, o145_31, o145_33, o145_34, o145_35, o145_37, o145_40, o145_41, o145_44, o145_46, o145_49, o145_52, o145_53, o145_54, o145_55, o145_58, c_liesX0 R, c_roomX0 R, c_plX0_0 R, c_plX0_1 R, c_plX0_2 R, c_plX0_3 R, c_plX0_4 R, c_plX0_5 R, c_plX0_6 R, o143_0, o143_1, o143_4, o143_5, o143_6, o143_7, c_queueOf_0, mcs_0, mcs_l, mcs_r, Kn_v, true_and, and_true, not_true_eq_false, not_false_eq_true, false_implies, forall_const, Nat.reduceLeDiff, Nat.reduceSub, Nat.reduceAdd, Nat.zero_le, Nat.le_refl, Int32.reduceLT, Int32.reduceAdd, Option.some.injEq, kc0, kr0_2, Int32.reduceLT]
  refine c_gQ0 R (fun m f b => ?_)
  have Rm := Rl_Fx R f b
  have R0 := Rm
  obtain ⟨vk, vcn, v0, v1, v2, vp, vl0, vl1, vlr, vsr, vc, tx⟩ := R0
  have vk0 := vk
  have vcn0 := vcn
  (refine K_el vk0 ?_; intros hA kc0 kc1 kc2 kc3 kc4 kc5 kc6 kc7 kc8 kc9 kc10 kc11 kc12 kc13 kc14 kc15 kc16 kc17 kc18 kc19 kc20 kc21 kc22 kc23 kc24 kc25 kc26 kc27 kc28 kc29 kc30 kc31 kc32 kc33 kc34 kc35 kc36 kc37 kc38 kc39 kz kt kn3 kn4 kn18 kn21 kn23 kn24 kn25 kn26 kn27 kn29 kn30 kr0_0 kr0_1 kr0_2 kr0_3 kr0_4 kr0_5 kr0_7 kr0_8 kr0_9 kr0_10 kr1_0 kr2_0 kr5_0 kr5_1 kr6_0 kr6_1 kr7_0 kr7_1 kr8_0 kr9_0 kr10_0 kr11_0 kr12_0 kr13_0 kr14_0 kr15_0 kr16_0 kr17_0 kr19_0 kr19_1 kr22_0 kr22_1 kr22_2 kr22_3 kr22_4 kr22_5 kr22_7 kr22_8 kr25_0 kr25_1 kr25_2 kr26_0 kr26_1 kr26_2 kr29_0 kr29_1)
  (refine Cn_el vcn0 ?_; intros ki5_2 ki6_2 ki7_2 ki8_1 ki8_2 ki8_3 ki9_1 ki9_2 ki9_3 ki10_1 ki10_2 ki10_3 ki11_1 ki11_2 ki11_3 ki12_1 ki12_2 ki12_3 ki13_1 ki13_2 ki13_3 ki14_1 ki14_2 ki14_3 ki28_0 ki28_1 ki31_0 ki31_1 ki32_0 ki32_1 ki33_0 ki33_1 ki34_0 ki34_1 ki35_0 ki35_1 ki36_0 ki36_1)
  have hAe : ∀ i j, i < 40 → j < 40 → (A i = A j ↔ i = j) := hA
  simp only [o145_61, o145_63, o145_64, o145_67, o145_70, o145_71, o145_74, c_wlen (Wo_of Rm) b, o143_0, o143_1, o143_4, o143_5, o143_6, o143_7, mcs_0, mcs_l, Kn_v, Kn_0, mrf_some, true_and, Nat.reduceLeDiff, Nat.reduceAdd, Nat.zero_le, kc0, kc19, kr0_10]
  exact hQ m (Sm_Fx R f) Rm

theorem c_liesX1 {A : Nat → Nat} {h : MH} {Q : MR → MH → Prop} (R : Rl A h) : Ok 75 0 [.ref (A 0), .int 1] [] h 1 6 Q ↔ Q (.inl (some (.int (lyF (cT h (A 6) (A 10) (A 11)))))) h := by
  have R0 := R
  obtain ⟨vk, vcn, v0, v1, v2, vp, vl0, vl1, vlr, vsr, vc, tx⟩ := R0
  have vk0 := vk
  have vcn0 := vcn
  (refine K_el vk0 ?_; intros hA kc0 kc1 kc2 kc3 kc4 kc5 kc6 kc7 kc8 kc9 kc10 kc11 kc12 kc13 kc14 kc15 kc16 kc17 kc18 kc19 kc20 kc21 kc22 kc23 kc24 kc25 kc26 kc27 kc28 kc29 kc30 kc31 kc32 kc33 kc34 kc35 kc36 kc37 kc38 kc39 kz kt kn3 kn4 kn18 kn21 kn23 kn24 kn25 kn26 kn27 kn29 kn30 kr0_0 kr0_1 kr0_2 kr0_3 kr0_4 kr0_5 kr0_7 kr0_8 kr0_9 kr0_10 kr1_0 kr2_0 kr5_0 kr5_1 kr6_0 kr6_1 kr7_0 kr7_1 kr8_0 kr9_0 kr10_0 kr11_0 kr12_0 kr13_0 kr14_0 kr15_0 kr16_0 kr17_0 kr19_0 kr19_1 kr22_0 kr22_1 kr22_2 kr22_3 kr22_4 kr22_5 kr22_7 kr22_8 kr25_0 kr25_1 kr25_2 kr26_0 kr26_1 kr26_2 kr29_0 kr29_1)
  (refine Cn_el vcn0 ?_; intros ki5_2 ki6_2 ki7_2 ki8_1 ki8_2 ki8_3 ki9_1 ki9_2 ki9_3 ki10_1 ki10_2 ki10_3 ki11_1 ki11_2 ki11_3 ki12_1 ki12_2 ki12_3 ki13_1 ki13_2 ki13_3 ki14_1 ki14_2 ki14_3 ki28_0 ki28_1 ki31_0 ki31_1 ki32_0 ki32_1 ki33_0 ki33_1 ki34_0 ki34_1 ki35_0 ki35_1 ki36_0 ki36_1)
  have hAe : ∀ i j, i < 40 → j < 40 → (A i = A j ↔ i = j) := hA
  simp only [o75_0, o75_1, o75_2, o75_5, o75_8, c_queueOf_1, c_X1_lying (w := A 10) (r := A 11), mcs_0, Kn_v, true_and, Nat.reduceSub, Nat.zero_le, Nat.le_refl, Option.some.injEq, kc0, kc6, kc10, kc11, kr0_3, kr6_0, kr6_1]

theorem c_roomX1 {A : Nat → Nat} {h : MH} {Q : MR → MH → Prop} (R : Rl A h) : Ok 76 0 [.ref (A 0), .int 1] [] h 1 6 Q ↔ Q (.inl (some (.int (frF 1 (cT h (A 6) (A 10) (A 11)))))) h := by
  have R0 := R
  obtain ⟨vk, vcn, v0, v1, v2, vp, vl0, vl1, vlr, vsr, vc, tx⟩ := R0
  have vk0 := vk
  have vcn0 := vcn
  (refine K_el vk0 ?_; intros hA kc0 kc1 kc2 kc3 kc4 kc5 kc6 kc7 kc8 kc9 kc10 kc11 kc12 kc13 kc14 kc15 kc16 kc17 kc18 kc19 kc20 kc21 kc22 kc23 kc24 kc25 kc26 kc27 kc28 kc29 kc30 kc31 kc32 kc33 kc34 kc35 kc36 kc37 kc38 kc39 kz kt kn3 kn4 kn18 kn21 kn23 kn24 kn25 kn26 kn27 kn29 kn30 kr0_0 kr0_1 kr0_2 kr0_3 kr0_4 kr0_5 kr0_7 kr0_8 kr0_9 kr0_10 kr1_0 kr2_0 kr5_0 kr5_1 kr6_0 kr6_1 kr7_0 kr7_1 kr8_0 kr9_0 kr10_0 kr11_0 kr12_0 kr13_0 kr14_0 kr15_0 kr16_0 kr17_0 kr19_0 kr19_1 kr22_0 kr22_1 kr22_2 kr22_3 kr22_4 kr22_5 kr22_7 kr22_8 kr25_0 kr25_1 kr25_2 kr26_0 kr26_1 kr26_2 kr29_0 kr29_1)
  (refine Cn_el vcn0 ?_; intros ki5_2 ki6_2 ki7_2 ki8_1 ki8_2 ki8_3 ki9_1 ki9_2 ki9_3 ki10_1 ki10_2 ki10_3 ki11_1 ki11_2 ki11_3 ki12_1 ki12_2 ki12_3 ki13_1 ki13_2 ki13_3 ki14_1 ki14_2 ki14_3 ki28_0 ki28_1 ki31_0 ki31_1 ki32_0 ki32_1 ki33_0 ki33_1 ki34_0 ki34_1 ki35_0 ki35_1 ki36_0 ki36_1)
  have hAe : ∀ i j, i < 40 → j < 40 → (A i = A j ↔ i = j) := hA
  simp only [o76_0, o76_1, o76_2, o76_5, o76_8, c_queueOf_1, c_X1_freeCells (w := A 10) (r := A 11), mcs_0, Kn_v, true_and, Nat.reduceSub, Nat.zero_le, Nat.le_refl, Option.some.injEq, kc0, kc6, kc10, kc11, kr0_3, kr6_0, kr6_1, ki6_2]

theorem c_plX1_0 {A : Nat → Nat} {h : MH} {Q : MR → MH → Prop} (R : Rl A h) : Ok 79 0 [.ref (A 0), .int 1, .int 0, mk0] [] h 2 12 Q ↔ Q (.inl (some (.int (g_i h (A 10) 4)))) h := by
  have R0 := R
  obtain ⟨vk, vcn, v0, v1, v2, vp, vl0, vl1, vlr, vsr, vc, tx⟩ := R0
  have vk0 := vk
  have vcn0 := vcn
  (refine K_el vk0 ?_; intros hA kc0 kc1 kc2 kc3 kc4 kc5 kc6 kc7 kc8 kc9 kc10 kc11 kc12 kc13 kc14 kc15 kc16 kc17 kc18 kc19 kc20 kc21 kc22 kc23 kc24 kc25 kc26 kc27 kc28 kc29 kc30 kc31 kc32 kc33 kc34 kc35 kc36 kc37 kc38 kc39 kz kt kn3 kn4 kn18 kn21 kn23 kn24 kn25 kn26 kn27 kn29 kn30 kr0_0 kr0_1 kr0_2 kr0_3 kr0_4 kr0_5 kr0_7 kr0_8 kr0_9 kr0_10 kr1_0 kr2_0 kr5_0 kr5_1 kr6_0 kr6_1 kr7_0 kr7_1 kr8_0 kr9_0 kr10_0 kr11_0 kr12_0 kr13_0 kr14_0 kr15_0 kr16_0 kr17_0 kr19_0 kr19_1 kr22_0 kr22_1 kr22_2 kr22_3 kr22_4 kr22_5 kr22_7 kr22_8 kr25_0 kr25_1 kr25_2 kr26_0 kr26_1 kr26_2 kr29_0 kr29_1)
  (refine Cn_el vcn0 ?_; intros ki5_2 ki6_2 ki7_2 ki8_1 ki8_2 ki8_3 ki9_1 ki9_2 ki9_3 ki10_1 ki10_2 ki10_3 ki11_1 ki11_2 ki11_3 ki12_1 ki12_2 ki12_3 ki13_1 ki13_2 ki13_3 ki14_1 ki14_2 ki14_3 ki28_0 ki28_1 ki31_0 ki31_1 ki32_0 ki32_1 ki33_0 ki33_1 ki34_0 ki34_1 ki35_0 ki35_1 ki36_0 ki36_1)
  have hAe : ∀ i j, i < 40 → j < 40 → (A i = A j ↔ i = j) := hA
  simp only [o79_0, o79_1, o79_2, o79_5, o79_6, o79_7, o79_9, o79_12, o79_13, o79_52, o79_53, o79_56, o79_59, o79_60, o79_61, o79_64, o79_67, o79_68, o79_69, o79_72, o79_75, o79_76, o79_77, o79_80, o79_83, o79_84, o79_85, o79_88, o79_91, o79_92, o79_93, o79_96, o79_99, o79_100, o79_101, o79_104, o79_107, c_queueOf_1, c_X5_checkChoice, mcs_0, Kn_v, Kn_0, Kn_x, mrf_some, true_and, and_true, not_false_eq_true, false_implies, forall_const, and_self, Nat.reduceLeDiff, Nat.reduceSub, Nat.zero_le, Nat.le_refl, i01, Int32.reduceLT, Option.some.injEq, kc0, kc6, kc10, kc11, kr0_3, kr6_0, kr6_1, ki10_1, ki10_2, lne, lti, Int.reduceLT, or_self, Int32.reduceLT]

theorem c_plX1_1 {A : Nat → Nat} {h : MH} {Q : MR → MH → Prop} (R : Rl A h) : Ok 79 0 [.ref (A 0), .int 1, .int 1, mk0] [] h 2 12 Q ↔ Q (.inl (some (.int (g_i h (A 10) 5)))) h := by
  have R0 := R
  obtain ⟨vk, vcn, v0, v1, v2, vp, vl0, vl1, vlr, vsr, vc, tx⟩ := R0
  have vk0 := vk
  have vcn0 := vcn
  (refine K_el vk0 ?_; intros hA kc0 kc1 kc2 kc3 kc4 kc5 kc6 kc7 kc8 kc9 kc10 kc11 kc12 kc13 kc14 kc15 kc16 kc17 kc18 kc19 kc20 kc21 kc22 kc23 kc24 kc25 kc26 kc27 kc28 kc29 kc30 kc31 kc32 kc33 kc34 kc35 kc36 kc37 kc38 kc39 kz kt kn3 kn4 kn18 kn21 kn23 kn24 kn25 kn26 kn27 kn29 kn30 kr0_0 kr0_1 kr0_2 kr0_3 kr0_4 kr0_5 kr0_7 kr0_8 kr0_9 kr0_10 kr1_0 kr2_0 kr5_0 kr5_1 kr6_0 kr6_1 kr7_0 kr7_1 kr8_0 kr9_0 kr10_0 kr11_0 kr12_0 kr13_0 kr14_0 kr15_0 kr16_0 kr17_0 kr19_0 kr19_1 kr22_0 kr22_1 kr22_2 kr22_3 kr22_4 kr22_5 kr22_7 kr22_8 kr25_0 kr25_1 kr25_2 kr26_0 kr26_1 kr26_2 kr29_0 kr29_1)
  (refine Cn_el vcn0 ?_; intros ki5_2 ki6_2 ki7_2 ki8_1 ki8_2 ki8_3 ki9_1 ki9_2 ki9_3 ki10_1 ki10_2 ki10_3 ki11_1 ki11_2 ki11_3 ki12_1 ki12_2 ki12_3 ki13_1 ki13_2 ki13_3 ki14_1 ki14_2 ki14_3 ki28_0 ki28_1 ki31_0 ki31_1 ki32_0 ki32_1 ki33_0 ki33_1 ki34_0 ki34_1 ki35_0 ki35_1 ki36_0 ki36_1)
  have hAe : ∀ i j, i < 40 → j < 40 → (A i = A j ↔ i = j) := hA
  simp only [o79_0, o79_1, o79_2, o79_5, o79_6, o79_7, o79_9, o79_12, o79_13, o79_52, o79_53, o79_56, o79_59, o79_60, o79_61, o79_64, o79_67, o79_68, o79_69, o79_72, o79_75, o79_76, o79_77, o79_80, o79_83, o79_84, o79_85, o79_88, o79_91, o79_92, o79_93, o79_96, o79_99, o79_100, o79_101, o79_104, o79_107, c_queueOf_1, c_X5_checkChoice, mcs_0, Kn_v, Kn_0, Kn_x, mrf_some, true_and, and_true, not_false_eq_true, false_implies, forall_const, and_self, Nat.reduceLeDiff, Nat.reduceSub, Nat.zero_le, Nat.le_refl, i10, Int32.reduceLT, Option.some.injEq, kc0, kc6, kc10, kc11, kr0_3, kr6_0, kr6_1, ki10_1, ki10_2, lne, lti, Int.reduceLT, or_self, Int32.reduceLT]

theorem c_plX1_2 {A : Nat → Nat} {h : MH} {Q : MR → MH → Prop} (R : Rl A h) : Ok 79 0 [.ref (A 0), .int 1, .int 2, mk0] [] h 2 12 Q ↔ Q (.inl (some (.int (g_i h (A 11) 4)))) h := by
  have R0 := R
  obtain ⟨vk, vcn, v0, v1, v2, vp, vl0, vl1, vlr, vsr, vc, tx⟩ := R0
  have vk0 := vk
  have vcn0 := vcn
  (refine K_el vk0 ?_; intros hA kc0 kc1 kc2 kc3 kc4 kc5 kc6 kc7 kc8 kc9 kc10 kc11 kc12 kc13 kc14 kc15 kc16 kc17 kc18 kc19 kc20 kc21 kc22 kc23 kc24 kc25 kc26 kc27 kc28 kc29 kc30 kc31 kc32 kc33 kc34 kc35 kc36 kc37 kc38 kc39 kz kt kn3 kn4 kn18 kn21 kn23 kn24 kn25 kn26 kn27 kn29 kn30 kr0_0 kr0_1 kr0_2 kr0_3 kr0_4 kr0_5 kr0_7 kr0_8 kr0_9 kr0_10 kr1_0 kr2_0 kr5_0 kr5_1 kr6_0 kr6_1 kr7_0 kr7_1 kr8_0 kr9_0 kr10_0 kr11_0 kr12_0 kr13_0 kr14_0 kr15_0 kr16_0 kr17_0 kr19_0 kr19_1 kr22_0 kr22_1 kr22_2 kr22_3 kr22_4 kr22_5 kr22_7 kr22_8 kr25_0 kr25_1 kr25_2 kr26_0 kr26_1 kr26_2 kr29_0 kr29_1)
  (refine Cn_el vcn0 ?_; intros ki5_2 ki6_2 ki7_2 ki8_1 ki8_2 ki8_3 ki9_1 ki9_2 ki9_3 ki10_1 ki10_2 ki10_3 ki11_1 ki11_2 ki11_3 ki12_1 ki12_2 ki12_3 ki13_1 ki13_2 ki13_3 ki14_1 ki14_2 ki14_3 ki28_0 ki28_1 ki31_0 ki31_1 ki32_0 ki32_1 ki33_0 ki33_1 ki34_0 ki34_1 ki35_0 ki35_1 ki36_0 ki36_1)
  have hAe : ∀ i j, i < 40 → j < 40 → (A i = A j ↔ i = j) := hA
  simp only [o79_0, o79_1, o79_2, o79_5, o79_6, o79_7, o79_9, o79_12, o79_13, o79_52, o79_53, o79_56, o79_59, o79_60, o79_61, o79_64, o79_67, o79_68, o79_69, o79_72, o79_75, o79_76, o79_77, o79_80, o79_83, o79_84, o79_85, o79_88, o79_91, o79_92, o79_93, o79_96, o79_99, o79_100, o79_101, o79_104, o79_107, c_queueOf_1, c_X5_checkChoice, mcs_0, Kn_v, Kn_0, Kn_x, mrf_some, true_and, and_true, not_false_eq_true, false_implies, forall_const, and_self, Nat.reduceLeDiff, Nat.reduceSub, Nat.zero_le, Nat.le_refl, Int32.reduceLT, Option.some.injEq, i20, kc0, kc6, kc10, kc11, kr0_3, kr6_0, kr6_1, ki10_1, ki10_2, lne, lti, Int.reduceLT, or_self, Int32.reduceLT]

theorem c_plX1_3 {A : Nat → Nat} {h : MH} {Q : MR → MH → Prop} (R : Rl A h) : Ok 79 0 [.ref (A 0), .int 1, .int 3, mk0] [] h 2 12 Q ↔ Q (.inl (some (.int (g_i h (A 11) 5)))) h := by
  have R0 := R
  obtain ⟨vk, vcn, v0, v1, v2, vp, vl0, vl1, vlr, vsr, vc, tx⟩ := R0
  have vk0 := vk
  have vcn0 := vcn
  (refine K_el vk0 ?_; intros hA kc0 kc1 kc2 kc3 kc4 kc5 kc6 kc7 kc8 kc9 kc10 kc11 kc12 kc13 kc14 kc15 kc16 kc17 kc18 kc19 kc20 kc21 kc22 kc23 kc24 kc25 kc26 kc27 kc28 kc29 kc30 kc31 kc32 kc33 kc34 kc35 kc36 kc37 kc38 kc39 kz kt kn3 kn4 kn18 kn21 kn23 kn24 kn25 kn26 kn27 kn29 kn30 kr0_0 kr0_1 kr0_2 kr0_3 kr0_4 kr0_5 kr0_7 kr0_8 kr0_9 kr0_10 kr1_0 kr2_0 kr5_0 kr5_1 kr6_0 kr6_1 kr7_0 kr7_1 kr8_0 kr9_0 kr10_0 kr11_0 kr12_0 kr13_0 kr14_0 kr15_0 kr16_0 kr17_0 kr19_0 kr19_1 kr22_0 kr22_1 kr22_2 kr22_3 kr22_4 kr22_5 kr22_7 kr22_8 kr25_0 kr25_1 kr25_2 kr26_0 kr26_1 kr26_2 kr29_0 kr29_1)
  (refine Cn_el vcn0 ?_; intros ki5_2 ki6_2 ki7_2 ki8_1 ki8_2 ki8_3 ki9_1 ki9_2 ki9_3 ki10_1 ki10_2 ki10_3 ki11_1 ki11_2 ki11_3 ki12_1 ki12_2 ki12_3 ki13_1 ki13_2 ki13_3 ki14_1 ki14_2 ki14_3 ki28_0 ki28_1 ki31_0 ki31_1 ki32_0 ki32_1 ki33_0 ki33_1 ki34_0 ki34_1 ki35_0 ki35_1 ki36_0 ki36_1)
  have hAe : ∀ i j, i < 40 → j < 40 → (A i = A j ↔ i = j) := hA
  simp only [o79_0, o79_1, o79_2, o79_5, o79_6, o79_7, o79_9, o79_12, o79_13, o79_52, o79_53, o79_56, o79_59, o79_60, o79_61, o79_64, o79_67, o79_68, o79_69, o79_72, o79_75, o79_76, o79_77, o79_80, o79_83, o79_84, o79_85, o79_88, o79_91, o79_92, o79_93, o79_96, o79_99, o79_100, o79_101, o79_104, o79_107, c_queueOf_1, c_X5_checkChoice, mcs_0, Kn_v, Kn_0, Kn_x, mrf_some, true_and, and_true, not_false_eq_true, false_implies, forall_const, and_self, Nat.reduceLeDiff, Nat.reduceSub, Nat.zero_le, Nat.le_refl, Int32.reduceLT, Option.some.injEq, i30, kc0, kc6, kc10, kc11, kr0_3, kr6_0, kr6_1, ki10_1, ki10_2, lne, lti, Int.reduceLT, or_self, Int32.reduceLT]

theorem c_plX1_4 {A : Nat → Nat} {h : MH} {Q : MR → MH → Prop} (R : Rl A h) : Ok 79 0 [.ref (A 0), .int 1, .int 4, mk0] [] h 2 12 Q ↔ Q (.inl (some (.int (g_i h (A 11) 6)))) h := by
  have R0 := R
  obtain ⟨vk, vcn, v0, v1, v2, vp, vl0, vl1, vlr, vsr, vc, tx⟩ := R0
  have vk0 := vk
  have vcn0 := vcn
  (refine K_el vk0 ?_; intros hA kc0 kc1 kc2 kc3 kc4 kc5 kc6 kc7 kc8 kc9 kc10 kc11 kc12 kc13 kc14 kc15 kc16 kc17 kc18 kc19 kc20 kc21 kc22 kc23 kc24 kc25 kc26 kc27 kc28 kc29 kc30 kc31 kc32 kc33 kc34 kc35 kc36 kc37 kc38 kc39 kz kt kn3 kn4 kn18 kn21 kn23 kn24 kn25 kn26 kn27 kn29 kn30 kr0_0 kr0_1 kr0_2 kr0_3 kr0_4 kr0_5 kr0_7 kr0_8 kr0_9 kr0_10 kr1_0 kr2_0 kr5_0 kr5_1 kr6_0 kr6_1 kr7_0 kr7_1 kr8_0 kr9_0 kr10_0 kr11_0 kr12_0 kr13_0 kr14_0 kr15_0 kr16_0 kr17_0 kr19_0 kr19_1 kr22_0 kr22_1 kr22_2 kr22_3 kr22_4 kr22_5 kr22_7 kr22_8 kr25_0 kr25_1 kr25_2 kr26_0 kr26_1 kr26_2 kr29_0 kr29_1)
  (refine Cn_el vcn0 ?_; intros ki5_2 ki6_2 ki7_2 ki8_1 ki8_2 ki8_3 ki9_1 ki9_2 ki9_3 ki10_1 ki10_2 ki10_3 ki11_1 ki11_2 ki11_3 ki12_1 ki12_2 ki12_3 ki13_1 ki13_2 ki13_3 ki14_1 ki14_2 ki14_3 ki28_0 ki28_1 ki31_0 ki31_1 ki32_0 ki32_1 ki33_0 ki33_1 ki34_0 ki34_1 ki35_0 ki35_1 ki36_0 ki36_1)
  have hAe : ∀ i j, i < 40 → j < 40 → (A i = A j ↔ i = j) := hA
  simp only [o79_0, o79_1, o79_2, o79_5, o79_6, o79_7, o79_9, o79_12, o79_13, o79_52, o79_53, o79_56, o79_59, o79_60, o79_61, o79_64, o79_67, o79_68, o79_69, o79_72, o79_75, o79_76, o79_77, o79_80, o79_83, o79_84, o79_85, o79_88, o79_91, o79_92, o79_93, o79_96, o79_99, o79_100, o79_101, o79_104, o79_107, c_queueOf_1, c_X5_checkChoice, mcs_0, Kn_v, Kn_0, Kn_x, mrf_some, true_and, and_true, not_false_eq_true, false_implies, forall_const, Nat.reduceLeDiff, Nat.reduceSub, Nat.zero_le, Nat.le_refl, Int32.reduceLT, Option.some.injEq, kc0, kc6, kc10, kc11, kr0_3, kr6_0, kr6_1, ki10_1, ki10_2, lne, lti, Int.reduceLT, or_self, Int32.reduceLT]

theorem c_plX1_5 {A : Nat → Nat} {h : MH} {Q : MR → MH → Prop} (R : Rl A h) : Ok 79 0 [.ref (A 0), .int 1, .int 5, mk0] [] h 2 12 Q ↔ Q (.inl (some (.int (3)))) h := by
  have R0 := R
  obtain ⟨vk, vcn, v0, v1, v2, vp, vl0, vl1, vlr, vsr, vc, tx⟩ := R0
  have vk0 := vk
  have vcn0 := vcn
  (refine K_el vk0 ?_; intros hA kc0 kc1 kc2 kc3 kc4 kc5 kc6 kc7 kc8 kc9 kc10 kc11 kc12 kc13 kc14 kc15 kc16 kc17 kc18 kc19 kc20 kc21 kc22 kc23 kc24 kc25 kc26 kc27 kc28 kc29 kc30 kc31 kc32 kc33 kc34 kc35 kc36 kc37 kc38 kc39 kz kt kn3 kn4 kn18 kn21 kn23 kn24 kn25 kn26 kn27 kn29 kn30 kr0_0 kr0_1 kr0_2 kr0_3 kr0_4 kr0_5 kr0_7 kr0_8 kr0_9 kr0_10 kr1_0 kr2_0 kr5_0 kr5_1 kr6_0 kr6_1 kr7_0 kr7_1 kr8_0 kr9_0 kr10_0 kr11_0 kr12_0 kr13_0 kr14_0 kr15_0 kr16_0 kr17_0 kr19_0 kr19_1 kr22_0 kr22_1 kr22_2 kr22_3 kr22_4 kr22_5 kr22_7 kr22_8 kr25_0 kr25_1 kr25_2 kr26_0 kr26_1 kr26_2 kr29_0 kr29_1)
  (refine Cn_el vcn0 ?_; intros ki5_2 ki6_2 ki7_2 ki8_1 ki8_2 ki8_3 ki9_1 ki9_2 ki9_3 ki10_1 ki10_2 ki10_3 ki11_1 ki11_2 ki11_3 ki12_1 ki12_2 ki12_3 ki13_1 ki13_2 ki13_3 ki14_1 ki14_2 ki14_3 ki28_0 ki28_1 ki31_0 ki31_1 ki32_0 ki32_1 ki33_0 ki33_1 ki34_0 ki34_1 ki35_0 ki35_1 ki36_0 ki36_1)
  have hAe : ∀ i j, i < 40 → j < 40 → (A i = A j ↔ i = j) := hA
  simp only [o79_0, o79_1, o79_2, o79_5, o79_6, o79_7, o79_9, o79_12, o79_13, o79_52, o79_53, o79_56, o79_59, o79_60, o79_61, o79_64, o79_67, o79_68, o79_69, o79_72, o79_75, o79_76, o79_77, o79_80, o79_83, o79_84, o79_85, o79_88, o79_91, o79_92, o79_93, o79_96, o79_99, o79_100, o79_101, o79_104, o79_107, c_queueOf_1, c_X5_checkChoice, mcs_0, Kn_v, Kn_0, Kn_x, mrf_some, true_and, not_false_eq_true, false_implies, forall_const, Nat.reduceLeDiff, Nat.reduceSub, Nat.zero_le, Nat.le_refl, Int32.reduceLT, Option.some.injEq, kc0, kc6, kc10, kc11, kr0_3, kr6_0, kr6_1, ki10_1, ki10_2, lne, lti, Int.reduceLT, or_self, Int32.reduceLT]

theorem c_plX1_6 {A : Nat → Nat} {h : MH} {Q : MR → MH → Prop} (R : Rl A h) : Ok 79 0 [.ref (A 0), .int 1, .int 6, mk0] [] h 2 12 Q ↔ Q (.inl (some (.int (6)))) h := by
  have R0 := R
  obtain ⟨vk, vcn, v0, v1, v2, vp, vl0, vl1, vlr, vsr, vc, tx⟩ := R0
  have vk0 := vk
  have vcn0 := vcn
  (refine K_el vk0 ?_; intros hA kc0 kc1 kc2 kc3 kc4 kc5 kc6 kc7 kc8 kc9 kc10 kc11 kc12 kc13 kc14 kc15 kc16 kc17 kc18 kc19 kc20 kc21 kc22 kc23 kc24 kc25 kc26 kc27 kc28 kc29 kc30 kc31 kc32 kc33 kc34 kc35 kc36 kc37 kc38 kc39 kz kt kn3 kn4 kn18 kn21 kn23 kn24 kn25 kn26 kn27 kn29 kn30 kr0_0 kr0_1 kr0_2 kr0_3 kr0_4 kr0_5 kr0_7 kr0_8 kr0_9 kr0_10 kr1_0 kr2_0 kr5_0 kr5_1 kr6_0 kr6_1 kr7_0 kr7_1 kr8_0 kr9_0 kr10_0 kr11_0 kr12_0 kr13_0 kr14_0 kr15_0 kr16_0 kr17_0 kr19_0 kr19_1 kr22_0 kr22_1 kr22_2 kr22_3 kr22_4 kr22_5 kr22_7 kr22_8 kr25_0 kr25_1 kr25_2 kr26_0 kr26_1 kr26_2 kr29_0 kr29_1)
  (refine Cn_el vcn0 ?_; intros ki5_2 ki6_2 ki7_2 ki8_1 ki8_2 ki8_3 ki9_1 ki9_2 ki9_3 ki10_1 ki10_2 ki10_3 ki11_1 ki11_2 ki11_3 ki12_1 ki12_2 ki12_3 ki13_1 ki13_2 ki13_3 ki14_1 ki14_2 ki14_3 ki28_0 ki28_1 ki31_0 ki31_1 ki32_0 ki32_1 ki33_0 ki33_1 ki34_0 ki34_1 ki35_0 ki35_1 ki36_0 ki36_1)
  have hAe : ∀ i j, i < 40 → j < 40 → (A i = A j ↔ i = j) := hA
  simp only [o79_0, o79_1, o79_2, o79_5, o79_6, o79_7, o79_9, o79_12, o79_13, o79_52, o79_53, o79_56, o79_59, o79_60, o79_61, o79_64, o79_67, o79_68, o79_69, o79_72, o79_75, o79_76, o79_77, o79_80, o79_83, o79_84, o79_85, o79_88, o79_91, o79_92, o79_93, o79_96, o79_99, o79_100, o79_101, o79_104, o79_107, c_queueOf_1, c_X5_checkChoice, mcs_0, Kn_v, Kn_0, Kn_x, mrf_some, true_and, and_true, or_true, not_false_eq_true, false_implies, forall_const, and_self, Nat.reduceLeDiff, Nat.reduceSub, Nat.zero_le, Nat.le_refl, Int32.reduceLT, Option.some.injEq, kc0, kc6, kc10, kc11, kr0_3, kr6_0, kr6_1, ki10_1, ki10_2, lne, lti, Int.reduceLT, or_self, Int32.reduceLT]

def dP1 (A : Nat → Nat) (h : MH) (d : Int64) : Int64 := dg1 (dg1 (dg1 (dg1 (dg1 (dg1 (dg1 (dg1 (dg1 d (lyF (cT h (A 6) (A 10) (A 11)))) (frF 1 (cT h (A 6) (A 10) (A 11)))) (g_i h (A 10) 4)) (g_i h (A 10) 5)) (g_i h (A 11) 4)) (g_i h (A 11) 5)) (g_i h (A 11) 6)) (3)) (6)
def dQ1 (A : Nat → Nat) (h : MH) (d : Int64) : Int64 := dg1 (dP1 A h d) (Int32.ofNat (tq (qv1 A h) (lyF (cT h (A 6) (A 10) (A 11))).toNatClampNeg))
theorem c_wQ1 {A : Nat → Nat} {h : MH} {d : Int64} {Q : MR → MH → Prop} (R : Rl A h) (hQ : ∀ m, Sm A h m → Rl A m → Q (.inl (some (.long (dQ1 A h d)))) m) : Ok 145 0 [.ref (A 0), .long d, mk0, .int 1, mk0, mk0, mk0] [] h 144 19152 Q := by
  have R0 := R
  obtain ⟨vk, vcn, v0, v1, v2, vp, vl0, vl1, vlr, vsr, vc, tx⟩ := R0
  have vk0 := vk
  have vcn0 := vcn
  (refine K_el vk0 ?_; intros hA kc0 kc1 kc2 kc3 kc4 kc5 kc6 kc7 kc8 kc9 kc10 kc11 kc12 kc13 kc14 kc15 kc16 kc17 kc18 kc19 kc20 kc21 kc22 kc23 kc24 kc25 kc26 kc27 kc28 kc29 kc30 kc31 kc32 kc33 kc34 kc35 kc36 kc37 kc38 kc39 kz kt kn3 kn4 kn18 kn21 kn23 kn24 kn25 kn26 kn27 kn29 kn30 kr0_0 kr0_1 kr0_2 kr0_3 kr0_4 kr0_5 kr0_7 kr0_8 kr0_9 kr0_10 kr1_0 kr2_0 kr5_0 kr5_1 kr6_0 kr6_1 kr7_0 kr7_1 kr8_0 kr9_0 kr10_0 kr11_0 kr12_0 kr13_0 kr14_0 kr15_0 kr16_0 kr17_0 kr19_0 kr19_1 kr22_0 kr22_1 kr22_2 kr22_3 kr22_4 kr22_5 kr22_7 kr22_8 kr25_0 kr25_1 kr25_2 kr26_0 kr26_1 kr26_2 kr29_0 kr29_1)
  (refine Cn_el vcn0 ?_; intros ki5_2 ki6_2 ki7_2 ki8_1 ki8_2 ki8_3 ki9_1 ki9_2 ki9_3 ki10_1 ki10_2 ki10_3 ki11_1 ki11_2 ki11_3 ki12_1 ki12_2 ki12_3 ki13_1 ki13_2 ki13_3 ki14_1 ki14_2 ki14_3 ki28_0 ki28_1 ki31_0 ki31_1 ki32_0 ki32_1 ki33_0 ki33_1 ki34_0 ki34_1 ki35_0 ki35_1 ki36_0 ki36_1)
  have hAe : ∀ i j, i < 40 → j < 40 → (A i = A j ↔ i = j) := hA
  have a0 : ∀ j : Nat, j < 7 → ((6 : Int32) < Int32.ofNat j) = False := by decide
  have b6 : (6 : Int32) = 6 := by decide
  simp only [o145_0, o145_1, o145_2, o145_3, o145_6, o145_7, o145_10, o145_11, o145_12, o145_15, o145_16, o145_19, o145_21, o145_22, o145_24, o145_26, o145_28, o145_31, o145_33, o145_34, o145_35, o145_37, o145_40, o145_41, o145_44, o145_46, o145_49, o145_52, o145_53, o145_54, o145_55, o145_58, c_liesX1 R, c_roomX1 R, c_plX1_0 R, c_plX1_1 R, c_plX1_2 R, c_plX1_3 R, c_plX1_4 R, c_plX1_5 R, c_plX1_6 R, o143_0, o143_1, o143_4, o143_5, o143_6, o143_7, c_queueOf_1, mcs_0, mcs_l, mcs_r, Kn_v, true_and, and_true, not_true_eq_false, not_false_eq_true, false_implies, forall_const, Nat.reduceLeDiff, Nat.reduceSub, Nat.reduceAdd, Nat.zero_le, Nat.le_refl, Int32.reduceLT, Int32.reduceAdd, Option.some.injEq, kc0, kr0_3, Int32.reduceLT]
  refine c_gQ1 R (fun m f b => ?_)
  have Rm := Rl_Fx R f b
  have R0 := Rm
  obtain ⟨vk, vcn, v0, v1, v2, vp, vl0, vl1, vlr, vsr, vc, tx⟩ := R0
  have vk0 := vk
  have vcn0 := vcn
  (refine K_el vk0 ?_; intros hA kc0 kc1 kc2 kc3 kc4 kc5 kc6 kc7 kc8 kc9 kc10 kc11 kc12 kc13 kc14 kc15 kc16 kc17 kc18 kc19 kc20 kc21 kc22 kc23 kc24 kc25 kc26 kc27 kc28 kc29 kc30 kc31 kc32 kc33 kc34 kc35 kc36 kc37 kc38 kc39 kz kt kn3 kn4 kn18 kn21 kn23 kn24 kn25 kn26 kn27 kn29 kn30 kr0_0 kr0_1 kr0_2 kr0_3 kr0_4 kr0_5 kr0_7 kr0_8 kr0_9 kr0_10 kr1_0 kr2_0 kr5_0 kr5_1 kr6_0 kr6_1 kr7_0 kr7_1 kr8_0 kr9_0 kr10_0 kr11_0 kr12_0 kr13_0 kr14_0 kr15_0 kr16_0 kr17_0 kr19_0 kr19_1 kr22_0 kr22_1 kr22_2 kr22_3 kr22_4 kr22_5 kr22_7 kr22_8 kr25_0 kr25_1 kr25_2 kr26_0 kr26_1 kr26_2 kr29_0 kr29_1)
  (refine Cn_el vcn0 ?_; intros ki5_2 ki6_2 ki7_2 ki8_1 ki8_2 ki8_3 ki9_1 ki9_2 ki9_3 ki10_1 ki10_2 ki10_3 ki11_1 ki11_2 ki11_3 ki12_1 ki12_2 ki12_3 ki13_1 ki13_2 ki13_3 ki14_1 ki14_2 ki14_3 ki28_0 ki28_1 ki31_0 ki31_1 ki32_0 ki32_1 ki33_0 ki33_1 ki34_0 ki34_1 ki35_0 ki35_1 ki36_0 ki36_1)
  have hAe : ∀ i j, i < 40 → j < 40 → (A i = A j ↔ i = j) := hA
  simp only [o145_61, o145_63, o145_64, o145_67, o145_70, o145_71, o145_74, c_wlen (Wo_of Rm) b, o143_0, o143_1, o143_4, o143_5, o143_6, o143_7, mcs_0, mcs_l, Kn_v, Kn_0, mrf_some, true_and, Nat.reduceLeDiff, Nat.reduceAdd, Nat.zero_le, kc0, kc19, kr0_10]
  exact hQ m (Sm_Fx R f) Rm

theorem c_liesX2 {A : Nat → Nat} {h : MH} {Q : MR → MH → Prop} (R : Rl A h) : Ok 75 0 [.ref (A 0), .int 2] [] h 1 6 Q ↔ Q (.inl (some (.int (lyF (cT h (A 7) (A 12) (A 13)))))) h := by
  have R0 := R
  obtain ⟨vk, vcn, v0, v1, v2, vp, vl0, vl1, vlr, vsr, vc, tx⟩ := R0
  have vk0 := vk
  have vcn0 := vcn
  (refine K_el vk0 ?_; intros hA kc0 kc1 kc2 kc3 kc4 kc5 kc6 kc7 kc8 kc9 kc10 kc11 kc12 kc13 kc14 kc15 kc16 kc17 kc18 kc19 kc20 kc21 kc22 kc23 kc24 kc25 kc26 kc27 kc28 kc29 kc30 kc31 kc32 kc33 kc34 kc35 kc36 kc37 kc38 kc39 kz kt kn3 kn4 kn18 kn21 kn23 kn24 kn25 kn26 kn27 kn29 kn30 kr0_0 kr0_1 kr0_2 kr0_3 kr0_4 kr0_5 kr0_7 kr0_8 kr0_9 kr0_10 kr1_0 kr2_0 kr5_0 kr5_1 kr6_0 kr6_1 kr7_0 kr7_1 kr8_0 kr9_0 kr10_0 kr11_0 kr12_0 kr13_0 kr14_0 kr15_0 kr16_0 kr17_0 kr19_0 kr19_1 kr22_0 kr22_1 kr22_2 kr22_3 kr22_4 kr22_5 kr22_7 kr22_8 kr25_0 kr25_1 kr25_2 kr26_0 kr26_1 kr26_2 kr29_0 kr29_1)
  (refine Cn_el vcn0 ?_; intros ki5_2 ki6_2 ki7_2 ki8_1 ki8_2 ki8_3 ki9_1 ki9_2 ki9_3 ki10_1 ki10_2 ki10_3 ki11_1 ki11_2 ki11_3 ki12_1 ki12_2 ki12_3 ki13_1 ki13_2 ki13_3 ki14_1 ki14_2 ki14_3 ki28_0 ki28_1 ki31_0 ki31_1 ki32_0 ki32_1 ki33_0 ki33_1 ki34_0 ki34_1 ki35_0 ki35_1 ki36_0 ki36_1)
  have hAe : ∀ i j, i < 40 → j < 40 → (A i = A j ↔ i = j) := hA
  simp only [o75_0, o75_1, o75_2, o75_5, o75_8, c_queueOf_2, c_X1_lying (w := A 12) (r := A 13), mcs_0, Kn_v, true_and, Nat.reduceSub, Nat.zero_le, Nat.le_refl, Option.some.injEq, kc0, kc7, kc12, kc13, kr0_4, kr7_0, kr7_1]

theorem c_roomX2 {A : Nat → Nat} {h : MH} {Q : MR → MH → Prop} (R : Rl A h) : Ok 76 0 [.ref (A 0), .int 2] [] h 1 6 Q ↔ Q (.inl (some (.int (frF 0 (cT h (A 7) (A 12) (A 13)))))) h := by
  have R0 := R
  obtain ⟨vk, vcn, v0, v1, v2, vp, vl0, vl1, vlr, vsr, vc, tx⟩ := R0
  have vk0 := vk
  have vcn0 := vcn
  (refine K_el vk0 ?_; intros hA kc0 kc1 kc2 kc3 kc4 kc5 kc6 kc7 kc8 kc9 kc10 kc11 kc12 kc13 kc14 kc15 kc16 kc17 kc18 kc19 kc20 kc21 kc22 kc23 kc24 kc25 kc26 kc27 kc28 kc29 kc30 kc31 kc32 kc33 kc34 kc35 kc36 kc37 kc38 kc39 kz kt kn3 kn4 kn18 kn21 kn23 kn24 kn25 kn26 kn27 kn29 kn30 kr0_0 kr0_1 kr0_2 kr0_3 kr0_4 kr0_5 kr0_7 kr0_8 kr0_9 kr0_10 kr1_0 kr2_0 kr5_0 kr5_1 kr6_0 kr6_1 kr7_0 kr7_1 kr8_0 kr9_0 kr10_0 kr11_0 kr12_0 kr13_0 kr14_0 kr15_0 kr16_0 kr17_0 kr19_0 kr19_1 kr22_0 kr22_1 kr22_2 kr22_3 kr22_4 kr22_5 kr22_7 kr22_8 kr25_0 kr25_1 kr25_2 kr26_0 kr26_1 kr26_2 kr29_0 kr29_1)
  (refine Cn_el vcn0 ?_; intros ki5_2 ki6_2 ki7_2 ki8_1 ki8_2 ki8_3 ki9_1 ki9_2 ki9_3 ki10_1 ki10_2 ki10_3 ki11_1 ki11_2 ki11_3 ki12_1 ki12_2 ki12_3 ki13_1 ki13_2 ki13_3 ki14_1 ki14_2 ki14_3 ki28_0 ki28_1 ki31_0 ki31_1 ki32_0 ki32_1 ki33_0 ki33_1 ki34_0 ki34_1 ki35_0 ki35_1 ki36_0 ki36_1)
  have hAe : ∀ i j, i < 40 → j < 40 → (A i = A j ↔ i = j) := hA
  simp only [o76_0, o76_1, o76_2, o76_5, o76_8, c_queueOf_2, c_X1_freeCells (w := A 12) (r := A 13), mcs_0, Kn_v, true_and, Nat.reduceSub, Nat.zero_le, Nat.le_refl, Option.some.injEq, kc0, kc7, kc12, kc13, kr0_4, kr7_0, kr7_1, ki7_2]

theorem c_plX2_0 {A : Nat → Nat} {h : MH} {Q : MR → MH → Prop} (R : Rl A h) : Ok 79 0 [.ref (A 0), .int 2, .int 0, mk0] [] h 2 12 Q ↔ Q (.inl (some (.int (g_i h (A 12) 4)))) h := by
  have R0 := R
  obtain ⟨vk, vcn, v0, v1, v2, vp, vl0, vl1, vlr, vsr, vc, tx⟩ := R0
  have vk0 := vk
  have vcn0 := vcn
  (refine K_el vk0 ?_; intros hA kc0 kc1 kc2 kc3 kc4 kc5 kc6 kc7 kc8 kc9 kc10 kc11 kc12 kc13 kc14 kc15 kc16 kc17 kc18 kc19 kc20 kc21 kc22 kc23 kc24 kc25 kc26 kc27 kc28 kc29 kc30 kc31 kc32 kc33 kc34 kc35 kc36 kc37 kc38 kc39 kz kt kn3 kn4 kn18 kn21 kn23 kn24 kn25 kn26 kn27 kn29 kn30 kr0_0 kr0_1 kr0_2 kr0_3 kr0_4 kr0_5 kr0_7 kr0_8 kr0_9 kr0_10 kr1_0 kr2_0 kr5_0 kr5_1 kr6_0 kr6_1 kr7_0 kr7_1 kr8_0 kr9_0 kr10_0 kr11_0 kr12_0 kr13_0 kr14_0 kr15_0 kr16_0 kr17_0 kr19_0 kr19_1 kr22_0 kr22_1 kr22_2 kr22_3 kr22_4 kr22_5 kr22_7 kr22_8 kr25_0 kr25_1 kr25_2 kr26_0 kr26_1 kr26_2 kr29_0 kr29_1)
  (refine Cn_el vcn0 ?_; intros ki5_2 ki6_2 ki7_2 ki8_1 ki8_2 ki8_3 ki9_1 ki9_2 ki9_3 ki10_1 ki10_2 ki10_3 ki11_1 ki11_2 ki11_3 ki12_1 ki12_2 ki12_3 ki13_1 ki13_2 ki13_3 ki14_1 ki14_2 ki14_3 ki28_0 ki28_1 ki31_0 ki31_1 ki32_0 ki32_1 ki33_0 ki33_1 ki34_0 ki34_1 ki35_0 ki35_1 ki36_0 ki36_1)
  have hAe : ∀ i j, i < 40 → j < 40 → (A i = A j ↔ i = j) := hA
  simp only [o79_0, o79_1, o79_2, o79_5, o79_6, o79_7, o79_9, o79_12, o79_13, o79_52, o79_53, o79_56, o79_59, o79_60, o79_61, o79_64, o79_67, o79_68, o79_69, o79_72, o79_75, o79_76, o79_77, o79_80, o79_83, o79_84, o79_85, o79_88, o79_91, o79_92, o79_93, o79_96, o79_99, o79_100, o79_101, o79_104, o79_107, c_queueOf_2, c_X5_checkChoice, mcs_0, Kn_v, Kn_0, Kn_x, mrf_some, true_and, and_true, not_false_eq_true, false_implies, forall_const, and_self, Nat.reduceLeDiff, Nat.reduceSub, Nat.zero_le, Nat.le_refl, i01, Int32.reduceLT, Option.some.injEq, kc0, kc7, kc12, kc13, kr0_4, kr7_0, kr7_1, ki12_1, ki12_2, lne, lti, Int.reduceLT, or_self, Int32.reduceLT]

theorem c_plX2_1 {A : Nat → Nat} {h : MH} {Q : MR → MH → Prop} (R : Rl A h) : Ok 79 0 [.ref (A 0), .int 2, .int 1, mk0] [] h 2 12 Q ↔ Q (.inl (some (.int (g_i h (A 12) 5)))) h := by
  have R0 := R
  obtain ⟨vk, vcn, v0, v1, v2, vp, vl0, vl1, vlr, vsr, vc, tx⟩ := R0
  have vk0 := vk
  have vcn0 := vcn
  (refine K_el vk0 ?_; intros hA kc0 kc1 kc2 kc3 kc4 kc5 kc6 kc7 kc8 kc9 kc10 kc11 kc12 kc13 kc14 kc15 kc16 kc17 kc18 kc19 kc20 kc21 kc22 kc23 kc24 kc25 kc26 kc27 kc28 kc29 kc30 kc31 kc32 kc33 kc34 kc35 kc36 kc37 kc38 kc39 kz kt kn3 kn4 kn18 kn21 kn23 kn24 kn25 kn26 kn27 kn29 kn30 kr0_0 kr0_1 kr0_2 kr0_3 kr0_4 kr0_5 kr0_7 kr0_8 kr0_9 kr0_10 kr1_0 kr2_0 kr5_0 kr5_1 kr6_0 kr6_1 kr7_0 kr7_1 kr8_0 kr9_0 kr10_0 kr11_0 kr12_0 kr13_0 kr14_0 kr15_0 kr16_0 kr17_0 kr19_0 kr19_1 kr22_0 kr22_1 kr22_2 kr22_3 kr22_4 kr22_5 kr22_7 kr22_8 kr25_0 kr25_1 kr25_2 kr26_0 kr26_1 kr26_2 kr29_0 kr29_1)
  (refine Cn_el vcn0 ?_; intros ki5_2 ki6_2 ki7_2 ki8_1 ki8_2 ki8_3 ki9_1 ki9_2 ki9_3 ki10_1 ki10_2 ki10_3 ki11_1 ki11_2 ki11_3 ki12_1 ki12_2 ki12_3 ki13_1 ki13_2 ki13_3 ki14_1 ki14_2 ki14_3 ki28_0 ki28_1 ki31_0 ki31_1 ki32_0 ki32_1 ki33_0 ki33_1 ki34_0 ki34_1 ki35_0 ki35_1 ki36_0 ki36_1)
  have hAe : ∀ i j, i < 40 → j < 40 → (A i = A j ↔ i = j) := hA
  simp only [o79_0, o79_1, o79_2, o79_5, o79_6, o79_7, o79_9, o79_12, o79_13, o79_52, o79_53, o79_56, o79_59, o79_60, o79_61, o79_64, o79_67, o79_68, o79_69, o79_72, o79_75, o79_76, o79_77, o79_80, o79_83, o79_84, o79_85, o79_88, o79_91, o79_92, o79_93, o79_96, o79_99, o79_100, o79_101, o79_104, o79_107, c_queueOf_2, c_X5_checkChoice, mcs_0, Kn_v, Kn_0, Kn_x, mrf_some, true_and, and_true, not_false_eq_true, false_implies, forall_const, and_self, Nat.reduceLeDiff, Nat.reduceSub, Nat.zero_le, Nat.le_refl, i10, Int32.reduceLT, Option.some.injEq, kc0, kc7, kc12, kc13, kr0_4, kr7_0, kr7_1, ki12_1, ki12_2, lne, lti, Int.reduceLT, or_self, Int32.reduceLT]

theorem c_plX2_2 {A : Nat → Nat} {h : MH} {Q : MR → MH → Prop} (R : Rl A h) : Ok 79 0 [.ref (A 0), .int 2, .int 2, mk0] [] h 2 12 Q ↔ Q (.inl (some (.int (g_i h (A 13) 4)))) h := by
  have R0 := R
  obtain ⟨vk, vcn, v0, v1, v2, vp, vl0, vl1, vlr, vsr, vc, tx⟩ := R0
  have vk0 := vk
  have vcn0 := vcn
  (refine K_el vk0 ?_; intros hA kc0 kc1 kc2 kc3 kc4 kc5 kc6 kc7 kc8 kc9 kc10 kc11 kc12 kc13 kc14 kc15 kc16 kc17 kc18 kc19 kc20 kc21 kc22 kc23 kc24 kc25 kc26 kc27 kc28 kc29 kc30 kc31 kc32 kc33 kc34 kc35 kc36 kc37 kc38 kc39 kz kt kn3 kn4 kn18 kn21 kn23 kn24 kn25 kn26 kn27 kn29 kn30 kr0_0 kr0_1 kr0_2 kr0_3 kr0_4 kr0_5 kr0_7 kr0_8 kr0_9 kr0_10 kr1_0 kr2_0 kr5_0 kr5_1 kr6_0 kr6_1 kr7_0 kr7_1 kr8_0 kr9_0 kr10_0 kr11_0 kr12_0 kr13_0 kr14_0 kr15_0 kr16_0 kr17_0 kr19_0 kr19_1 kr22_0 kr22_1 kr22_2 kr22_3 kr22_4 kr22_5 kr22_7 kr22_8 kr25_0 kr25_1 kr25_2 kr26_0 kr26_1 kr26_2 kr29_0 kr29_1)
  (refine Cn_el vcn0 ?_; intros ki5_2 ki6_2 ki7_2 ki8_1 ki8_2 ki8_3 ki9_1 ki9_2 ki9_3 ki10_1 ki10_2 ki10_3 ki11_1 ki11_2 ki11_3 ki12_1 ki12_2 ki12_3 ki13_1 ki13_2 ki13_3 ki14_1 ki14_2 ki14_3 ki28_0 ki28_1 ki31_0 ki31_1 ki32_0 ki32_1 ki33_0 ki33_1 ki34_0 ki34_1 ki35_0 ki35_1 ki36_0 ki36_1)
  have hAe : ∀ i j, i < 40 → j < 40 → (A i = A j ↔ i = j) := hA
  simp only [o79_0, o79_1, o79_2, o79_5, o79_6, o79_7, o79_9, o79_12, o79_13, o79_52, o79_53, o79_56, o79_59, o79_60, o79_61, o79_64, o79_67, o79_68, o79_69, o79_72, o79_75, o79_76, o79_77, o79_80, o79_83, o79_84, o79_85, o79_88, o79_91, o79_92, o79_93, o79_96, o79_99, o79_100, o79_101, o79_104, o79_107, c_queueOf_2, c_X5_checkChoice, mcs_0, Kn_v, Kn_0, Kn_x, mrf_some, true_and, and_true, not_false_eq_true, false_implies, forall_const, and_self, Nat.reduceLeDiff, Nat.reduceSub, Nat.zero_le, Nat.le_refl, Int32.reduceLT, Option.some.injEq, i20, kc0, kc7, kc12, kc13, kr0_4, kr7_0, kr7_1, ki12_1, ki12_2, lne, lti, Int.reduceLT, or_self, Int32.reduceLT]

theorem c_plX2_3 {A : Nat → Nat} {h : MH} {Q : MR → MH → Prop} (R : Rl A h) : Ok 79 0 [.ref (A 0), .int 2, .int 3, mk0] [] h 2 12 Q ↔ Q (.inl (some (.int (g_i h (A 13) 5)))) h := by
  have R0 := R
  obtain ⟨vk, vcn, v0, v1, v2, vp, vl0, vl1, vlr, vsr, vc, tx⟩ := R0
  have vk0 := vk
  have vcn0 := vcn
  (refine K_el vk0 ?_; intros hA kc0 kc1 kc2 kc3 kc4 kc5 kc6 kc7 kc8 kc9 kc10 kc11 kc12 kc13 kc14 kc15 kc16 kc17 kc18 kc19 kc20 kc21 kc22 kc23 kc24 kc25 kc26 kc27 kc28 kc29 kc30 kc31 kc32 kc33 kc34 kc35 kc36 kc37 kc38 kc39 kz kt kn3 kn4 kn18 kn21 kn23 kn24 kn25 kn26 kn27 kn29 kn30 kr0_0 kr0_1 kr0_2 kr0_3 kr0_4 kr0_5 kr0_7 kr0_8 kr0_9 kr0_10 kr1_0 kr2_0 kr5_0 kr5_1 kr6_0 kr6_1 kr7_0 kr7_1 kr8_0 kr9_0 kr10_0 kr11_0 kr12_0 kr13_0 kr14_0 kr15_0 kr16_0 kr17_0 kr19_0 kr19_1 kr22_0 kr22_1 kr22_2 kr22_3 kr22_4 kr22_5 kr22_7 kr22_8 kr25_0 kr25_1 kr25_2 kr26_0 kr26_1 kr26_2 kr29_0 kr29_1)
  (refine Cn_el vcn0 ?_; intros ki5_2 ki6_2 ki7_2 ki8_1 ki8_2 ki8_3 ki9_1 ki9_2 ki9_3 ki10_1 ki10_2 ki10_3 ki11_1 ki11_2 ki11_3 ki12_1 ki12_2 ki12_3 ki13_1 ki13_2 ki13_3 ki14_1 ki14_2 ki14_3 ki28_0 ki28_1 ki31_0 ki31_1 ki32_0 ki32_1 ki33_0 ki33_1 ki34_0 ki34_1 ki35_0 ki35_1 ki36_0 ki36_1)
  have hAe : ∀ i j, i < 40 → j < 40 → (A i = A j ↔ i = j) := hA
  simp only [o79_0, o79_1, o79_2, o79_5, o79_6, o79_7, o79_9, o79_12, o79_13, o79_52, o79_53, o79_56, o79_59, o79_60, o79_61, o79_64, o79_67, o79_68, o79_69, o79_72, o79_75, o79_76, o79_77, o79_80, o79_83, o79_84, o79_85, o79_88, o79_91, o79_92, o79_93, o79_96, o79_99, o79_100, o79_101, o79_104, o79_107, c_queueOf_2, c_X5_checkChoice, mcs_0, Kn_v, Kn_0, Kn_x, mrf_some, true_and, and_true, not_false_eq_true, false_implies, forall_const, and_self, Nat.reduceLeDiff, Nat.reduceSub, Nat.zero_le, Nat.le_refl, Int32.reduceLT, Option.some.injEq, i30, kc0, kc7, kc12, kc13, kr0_4, kr7_0, kr7_1, ki12_1, ki12_2, lne, lti, Int.reduceLT, or_self, Int32.reduceLT]

theorem c_plX2_4 {A : Nat → Nat} {h : MH} {Q : MR → MH → Prop} (R : Rl A h) : Ok 79 0 [.ref (A 0), .int 2, .int 4, mk0] [] h 2 12 Q ↔ Q (.inl (some (.int (g_i h (A 13) 6)))) h := by
  have R0 := R
  obtain ⟨vk, vcn, v0, v1, v2, vp, vl0, vl1, vlr, vsr, vc, tx⟩ := R0
  have vk0 := vk
  have vcn0 := vcn
  (refine K_el vk0 ?_; intros hA kc0 kc1 kc2 kc3 kc4 kc5 kc6 kc7 kc8 kc9 kc10 kc11 kc12 kc13 kc14 kc15 kc16 kc17 kc18 kc19 kc20 kc21 kc22 kc23 kc24 kc25 kc26 kc27 kc28 kc29 kc30 kc31 kc32 kc33 kc34 kc35 kc36 kc37 kc38 kc39 kz kt kn3 kn4 kn18 kn21 kn23 kn24 kn25 kn26 kn27 kn29 kn30 kr0_0 kr0_1 kr0_2 kr0_3 kr0_4 kr0_5 kr0_7 kr0_8 kr0_9 kr0_10 kr1_0 kr2_0 kr5_0 kr5_1 kr6_0 kr6_1 kr7_0 kr7_1 kr8_0 kr9_0 kr10_0 kr11_0 kr12_0 kr13_0 kr14_0 kr15_0 kr16_0 kr17_0 kr19_0 kr19_1 kr22_0 kr22_1 kr22_2 kr22_3 kr22_4 kr22_5 kr22_7 kr22_8 kr25_0 kr25_1 kr25_2 kr26_0 kr26_1 kr26_2 kr29_0 kr29_1)
  (refine Cn_el vcn0 ?_; intros ki5_2 ki6_2 ki7_2 ki8_1 ki8_2 ki8_3 ki9_1 ki9_2 ki9_3 ki10_1 ki10_2 ki10_3 ki11_1 ki11_2 ki11_3 ki12_1 ki12_2 ki12_3 ki13_1 ki13_2 ki13_3 ki14_1 ki14_2 ki14_3 ki28_0 ki28_1 ki31_0 ki31_1 ki32_0 ki32_1 ki33_0 ki33_1 ki34_0 ki34_1 ki35_0 ki35_1 ki36_0 ki36_1)
  have hAe : ∀ i j, i < 40 → j < 40 → (A i = A j ↔ i = j) := hA
  simp only [o79_0, o79_1, o79_2, o79_5, o79_6, o79_7, o79_9, o79_12, o79_13, o79_52, o79_53, o79_56, o79_59, o79_60, o79_61, o79_64, o79_67, o79_68, o79_69, o79_72, o79_75, o79_76, o79_77, o79_80, o79_83, o79_84, o79_85, o79_88, o79_91, o79_92, o79_93, o79_96, o79_99, o79_100, o79_101, o79_104, o79_107, c_queueOf_2, c_X5_checkChoice, mcs_0, Kn_v, Kn_0, Kn_x, mrf_some, true_and, and_true, not_false_eq_true, false_implies, forall_const, Nat.reduceLeDiff, Nat.reduceSub, Nat.zero_le, Nat.le_refl, Int32.reduceLT, Option.some.injEq, kc0, kc7, kc12, kc13, kr0_4, kr7_0, kr7_1, ki12_1, ki12_2, lne, lti, Int.reduceLT, or_self, Int32.reduceLT]

theorem c_plX2_5 {A : Nat → Nat} {h : MH} {Q : MR → MH → Prop} (R : Rl A h) : Ok 79 0 [.ref (A 0), .int 2, .int 5, mk0] [] h 2 12 Q ↔ Q (.inl (some (.int (6)))) h := by
  have R0 := R
  obtain ⟨vk, vcn, v0, v1, v2, vp, vl0, vl1, vlr, vsr, vc, tx⟩ := R0
  have vk0 := vk
  have vcn0 := vcn
  (refine K_el vk0 ?_; intros hA kc0 kc1 kc2 kc3 kc4 kc5 kc6 kc7 kc8 kc9 kc10 kc11 kc12 kc13 kc14 kc15 kc16 kc17 kc18 kc19 kc20 kc21 kc22 kc23 kc24 kc25 kc26 kc27 kc28 kc29 kc30 kc31 kc32 kc33 kc34 kc35 kc36 kc37 kc38 kc39 kz kt kn3 kn4 kn18 kn21 kn23 kn24 kn25 kn26 kn27 kn29 kn30 kr0_0 kr0_1 kr0_2 kr0_3 kr0_4 kr0_5 kr0_7 kr0_8 kr0_9 kr0_10 kr1_0 kr2_0 kr5_0 kr5_1 kr6_0 kr6_1 kr7_0 kr7_1 kr8_0 kr9_0 kr10_0 kr11_0 kr12_0 kr13_0 kr14_0 kr15_0 kr16_0 kr17_0 kr19_0 kr19_1 kr22_0 kr22_1 kr22_2 kr22_3 kr22_4 kr22_5 kr22_7 kr22_8 kr25_0 kr25_1 kr25_2 kr26_0 kr26_1 kr26_2 kr29_0 kr29_1)
  (refine Cn_el vcn0 ?_; intros ki5_2 ki6_2 ki7_2 ki8_1 ki8_2 ki8_3 ki9_1 ki9_2 ki9_3 ki10_1 ki10_2 ki10_3 ki11_1 ki11_2 ki11_3 ki12_1 ki12_2 ki12_3 ki13_1 ki13_2 ki13_3 ki14_1 ki14_2 ki14_3 ki28_0 ki28_1 ki31_0 ki31_1 ki32_0 ki32_1 ki33_0 ki33_1 ki34_0 ki34_1 ki35_0 ki35_1 ki36_0 ki36_1)
  have hAe : ∀ i j, i < 40 → j < 40 → (A i = A j ↔ i = j) := hA
  simp only [o79_0, o79_1, o79_2, o79_5, o79_6, o79_7, o79_9, o79_12, o79_13, o79_52, o79_53, o79_56, o79_59, o79_60, o79_61, o79_64, o79_67, o79_68, o79_69, o79_72, o79_75, o79_76, o79_77, o79_80, o79_83, o79_84, o79_85, o79_88, o79_91, o79_92, o79_93, o79_96, o79_99, o79_100, o79_101, o79_104, o79_107, c_queueOf_2, c_X5_checkChoice, mcs_0, Kn_v, Kn_0, Kn_x, mrf_some, true_and, not_false_eq_true, false_implies, forall_const, Nat.reduceLeDiff, Nat.reduceSub, Nat.zero_le, Nat.le_refl, Int32.reduceLT, Option.some.injEq, kc0, kc7, kc12, kc13, kr0_4, kr7_0, kr7_1, ki12_1, ki12_2, lne, lti, Int.reduceLT, or_self, Int32.reduceLT]

theorem c_plX2_6 {A : Nat → Nat} {h : MH} {Q : MR → MH → Prop} (R : Rl A h) : Ok 79 0 [.ref (A 0), .int 2, .int 6, mk0] [] h 2 12 Q ↔ Q (.inl (some (.int (9)))) h := by
  have R0 := R
  obtain ⟨vk, vcn, v0, v1, v2, vp, vl0, vl1, vlr, vsr, vc, tx⟩ := R0
  have vk0 := vk
  have vcn0 := vcn
  (refine K_el vk0 ?_; intros hA kc0 kc1 kc2 kc3 kc4 kc5 kc6 kc7 kc8 kc9 kc10 kc11 kc12 kc13 kc14 kc15 kc16 kc17 kc18 kc19 kc20 kc21 kc22 kc23 kc24 kc25 kc26 kc27 kc28 kc29 kc30 kc31 kc32 kc33 kc34 kc35 kc36 kc37 kc38 kc39 kz kt kn3 kn4 kn18 kn21 kn23 kn24 kn25 kn26 kn27 kn29 kn30 kr0_0 kr0_1 kr0_2 kr0_3 kr0_4 kr0_5 kr0_7 kr0_8 kr0_9 kr0_10 kr1_0 kr2_0 kr5_0 kr5_1 kr6_0 kr6_1 kr7_0 kr7_1 kr8_0 kr9_0 kr10_0 kr11_0 kr12_0 kr13_0 kr14_0 kr15_0 kr16_0 kr17_0 kr19_0 kr19_1 kr22_0 kr22_1 kr22_2 kr22_3 kr22_4 kr22_5 kr22_7 kr22_8 kr25_0 kr25_1 kr25_2 kr26_0 kr26_1 kr26_2 kr29_0 kr29_1)
  (refine Cn_el vcn0 ?_; intros ki5_2 ki6_2 ki7_2 ki8_1 ki8_2 ki8_3 ki9_1 ki9_2 ki9_3 ki10_1 ki10_2 ki10_3 ki11_1 ki11_2 ki11_3 ki12_1 ki12_2 ki12_3 ki13_1 ki13_2 ki13_3 ki14_1 ki14_2 ki14_3 ki28_0 ki28_1 ki31_0 ki31_1 ki32_0 ki32_1 ki33_0 ki33_1 ki34_0 ki34_1 ki35_0 ki35_1 ki36_0 ki36_1)
  have hAe : ∀ i j, i < 40 → j < 40 → (A i = A j ↔ i = j) := hA
  simp only [o79_0, o79_1, o79_2, o79_5, o79_6, o79_7, o79_9, o79_12, o79_13, o79_52, o79_53, o79_56, o79_59, o79_60, o79_61, o79_64, o79_67, o79_68, o79_69, o79_72, o79_75, o79_76, o79_77, o79_80, o79_83, o79_84, o79_85, o79_88, o79_91, o79_92, o79_93, o79_96, o79_99, o79_100, o79_101, o79_104, o79_107, c_queueOf_2, c_X5_checkChoice, mcs_0, Kn_v, Kn_0, Kn_x, mrf_some, true_and, and_true, or_true, not_false_eq_true, false_implies, forall_const, and_self, Nat.reduceLeDiff, Nat.reduceSub, Nat.zero_le, Nat.le_refl, Int32.reduceLT, Option.some.injEq, kc0, kc7, kc12, kc13, kr0_4, kr7_0, kr7_1, ki12_1, ki12_2, lne, lti, Int.reduceLT, or_self, Int32.reduceLT]

def dP2 (A : Nat → Nat) (h : MH) (d : Int64) : Int64 := dg1 (dg1 (dg1 (dg1 (dg1 (dg1 (dg1 (dg1 (dg1 d (lyF (cT h (A 7) (A 12) (A 13)))) (frF 0 (cT h (A 7) (A 12) (A 13)))) (g_i h (A 12) 4)) (g_i h (A 12) 5)) (g_i h (A 13) 4)) (g_i h (A 13) 5)) (g_i h (A 13) 6)) (6)) (9)
def dQ2 (A : Nat → Nat) (h : MH) (d : Int64) : Int64 := dg1 (dP2 A h d) (Int32.ofNat (tq (qv2 A h) (lyF (cT h (A 7) (A 12) (A 13))).toNatClampNeg))
theorem c_wQ2 {A : Nat → Nat} {h : MH} {d : Int64} {Q : MR → MH → Prop} (R : Rl A h) (hQ : ∀ m, Sm A h m → Rl A m → Q (.inl (some (.long (dQ2 A h d)))) m) : Ok 145 0 [.ref (A 0), .long d, mk0, .int 2, mk0, mk0, mk0] [] h 144 19152 Q := by
  have R0 := R
  obtain ⟨vk, vcn, v0, v1, v2, vp, vl0, vl1, vlr, vsr, vc, tx⟩ := R0
  have vk0 := vk
  have vcn0 := vcn
  (refine K_el vk0 ?_; intros hA kc0 kc1 kc2 kc3 kc4 kc5 kc6 kc7 kc8 kc9 kc10 kc11 kc12 kc13 kc14 kc15 kc16 kc17 kc18 kc19 kc20 kc21 kc22 kc23 kc24 kc25 kc26 kc27 kc28 kc29 kc30 kc31 kc32 kc33 kc34 kc35 kc36 kc37 kc38 kc39 kz kt kn3 kn4 kn18 kn21 kn23 kn24 kn25 kn26 kn27 kn29 kn30 kr0_0 kr0_1 kr0_2 kr0_3 kr0_4 kr0_5 kr0_7 kr0_8 kr0_9 kr0_10 kr1_0 kr2_0 kr5_0 kr5_1 kr6_0 kr6_1 kr7_0 kr7_1 kr8_0 kr9_0 kr10_0 kr11_0 kr12_0 kr13_0 kr14_0 kr15_0 kr16_0 kr17_0 kr19_0 kr19_1 kr22_0 kr22_1 kr22_2 kr22_3 kr22_4 kr22_5 kr22_7 kr22_8 kr25_0 kr25_1 kr25_2 kr26_0 kr26_1 kr26_2 kr29_0 kr29_1)
  (refine Cn_el vcn0 ?_; intros ki5_2 ki6_2 ki7_2 ki8_1 ki8_2 ki8_3 ki9_1 ki9_2 ki9_3 ki10_1 ki10_2 ki10_3 ki11_1 ki11_2 ki11_3 ki12_1 ki12_2 ki12_3 ki13_1 ki13_2 ki13_3 ki14_1 ki14_2 ki14_3 ki28_0 ki28_1 ki31_0 ki31_1 ki32_0 ki32_1 ki33_0 ki33_1 ki34_0 ki34_1 ki35_0 ki35_1 ki36_0 ki36_1)
  have hAe : ∀ i j, i < 40 → j < 40 → (A i = A j ↔ i = j) := hA
  have a0 : ∀ j : Nat, j < 7 → ((6 : Int32) < Int32.ofNat j) = False := by decide
  have b6 : (6 : Int32) = 6 := by decide
  simp only [o145_0, o145_1, o145_2, o145_3, o145_6, o145_7, o145_10, o145_11, o145_12, o145_15, o145_16, o145_19, o145_21, o145_22, o145_24, o145_26, o145_28, o145_31, o145_33, o145_34, o145_35, o145_37, o145_40, o145_41, o145_44, o145_46, o145_49, o145_52, o145_53, o145_54, o145_55, o145_58, c_liesX2 R, c_roomX2 R, c_plX2_0 R, c_plX2_1 R, c_plX2_2 R, c_plX2_3 R, c_plX2_4 R, c_plX2_5 R, c_plX2_6 R, o143_0, o143_1, o143_4, o143_5, o143_6, o143_7, c_queueOf_2, mcs_0, mcs_l, mcs_r, Kn_v, true_and, and_true, not_true_eq_false, not_false_eq_true, false_implies, forall_const, Nat.reduceLeDiff, Nat.reduceSub, Nat.reduceAdd, Nat.zero_le, Nat.le_refl, Int32.reduceLT, Int32.reduceAdd, Option.some.injEq, kc0, kr0_4, Int32.reduceLT]
  refine c_gQ2 R (fun m f b => ?_)
  have Rm := Rl_Fx R f b
  have R0 := Rm
  obtain ⟨vk, vcn, v0, v1, v2, vp, vl0, vl1, vlr, vsr, vc, tx⟩ := R0
  have vk0 := vk
  have vcn0 := vcn
  (refine K_el vk0 ?_; intros hA kc0 kc1 kc2 kc3 kc4 kc5 kc6 kc7 kc8 kc9 kc10 kc11 kc12 kc13 kc14 kc15 kc16 kc17 kc18 kc19 kc20 kc21 kc22 kc23 kc24 kc25 kc26 kc27 kc28 kc29 kc30 kc31 kc32 kc33 kc34 kc35 kc36 kc37 kc38 kc39 kz kt kn3 kn4 kn18 kn21 kn23 kn24 kn25 kn26 kn27 kn29 kn30 kr0_0 kr0_1 kr0_2 kr0_3 kr0_4 kr0_5 kr0_7 kr0_8 kr0_9 kr0_10 kr1_0 kr2_0 kr5_0 kr5_1 kr6_0 kr6_1 kr7_0 kr7_1 kr8_0 kr9_0 kr10_0 kr11_0 kr12_0 kr13_0 kr14_0 kr15_0 kr16_0 kr17_0 kr19_0 kr19_1 kr22_0 kr22_1 kr22_2 kr22_3 kr22_4 kr22_5 kr22_7 kr22_8 kr25_0 kr25_1 kr25_2 kr26_0 kr26_1 kr26_2 kr29_0 kr29_1)
  (refine Cn_el vcn0 ?_; intros ki5_2 ki6_2 ki7_2 ki8_1 ki8_2 ki8_3 ki9_1 ki9_2 ki9_3 ki10_1 ki10_2 ki10_3 ki11_1 ki11_2 ki11_3 ki12_1 ki12_2 ki12_3 ki13_1 ki13_2 ki13_3 ki14_1 ki14_2 ki14_3 ki28_0 ki28_1 ki31_0 ki31_1 ki32_0 ki32_1 ki33_0 ki33_1 ki34_0 ki34_1 ki35_0 ki35_1 ki36_0 ki36_1)
  have hAe : ∀ i j, i < 40 → j < 40 → (A i = A j ↔ i = j) := hA
  simp only [o145_61, o145_63, o145_64, o145_67, o145_70, o145_71, o145_74, c_wlen (Wo_of Rm) b, o143_0, o143_1, o143_4, o143_5, o143_6, o143_7, mcs_0, mcs_l, Kn_v, Kn_0, mrf_some, true_and, Nat.reduceLeDiff, Nat.reduceAdd, Nat.zero_le, kc0, kc19, kr0_10]
  exact hQ m (Sm_Fx R f) Rm
end

set_option maxRecDepth 16384
/-! an instruction is read off its bytes: one row an opcode -/
def Pr (C : ByteArray) : Nat → List Nat → Prop
  | _, [] => True
  | p, b :: bs => (C.data.toList[p]?).map UInt8.toNat = some b ∧ Pr C (p + 1) bs
def prB : List UInt8 → List Nat → Bool
  | _, [] => true
  | [], _ :: _ => false
  | x :: l, b :: bs => Nat.beq x.toNat b && prB l bs
theorem Pr_of0 {C : ByteArray} : ∀ (bs : List Nat) (p : Nat), prB (C.data.toList.drop p) bs = true → Pr C p bs
  | [], _, _ => trivial
  | b :: bs, p, h => by
    cases hl : C.data.toList.drop p with
    | nil => rw [hl] at h; cases h
    | cons x l =>
      rw [hl] at h
      have h2 : (Nat.beq x.toNat b && prB l bs) = true := h
      rw [Bool.and_eq_true] at h2
      have e1 : C.data.toList[p]? = some x := by
        have z : (C.data.toList.drop p)[0]? = some x := by rw [hl]; rfl
        rw [List.getElem?_drop] at z
        exact z
      have e2 : C.data.toList.drop (p + 1) = l := by rw [← List.tail_drop, hl]; rfl
      refine ⟨?_, Pr_of0 bs (p + 1) (by rw [e2]; exact h2.2)⟩
      rw [e1]
      exact congrArg some (Nat.eq_of_beq_eq_true h2.1)
theorem Pr_of {C : ByteArray} {p : Nat} {bs : List Nat} (h : prB (C.data.toList.drop p) bs = true) : Pr C p bs := Pr_of0 bs p h
theorem Pd0 {C : ByteArray} : ∀ (k p : Nat) (bs : List Nat), Pr C p bs → Pr C (p + k) (bs.drop k)
  | 0, _, _, h => h
  | k + 1, _, [], _ => trivial
  | k + 1, p, b :: bs, h => by
    have z := Pd0 k (p + 1) bs h.2
    rw [Nat.add_right_comm] at z
    exact z
theorem Pd {C : ByteArray} {p k q : Nat} {bs cs : List Nat} (h : Pr C p bs) (e : p + k = q) (d : bs.drop k = cs) : Pr C q cs := by
  subst e d
  exact Pd0 k p bs h
theorem u1_run {C : ByteArray} {p b : Nat} {bs : List Nat} (h : Pr C p (b :: bs)) : (Reader.u1 : Dec Nat).runAt C p = .ok (b, p + 1) := by
  rw [run_u1]
  have h1 : (C.data.toList[p]?).map UInt8.toNat = some b := h.1
  cases hc : C.data.toList[p]? with
  | none => rw [hc] at h1; cases h1
  | some x =>
    rw [hc] at h1
    have h2 : x.toNat = b := Option.some.inj h1
    rw [← h2]
theorem u2_run {C : ByteArray} {p a b : Nat} {bs : List Nat} (h : Pr C p (a :: b :: bs)) : (Reader.u2 : Dec Nat).runAt C p = .ok (a * 256 + b, p + 1 + 1) := by
  show ((Reader.u1 : Dec Nat) >>= fun hi => (Reader.u1 : Dec Nat) >>= fun lo => Pure.pure (hi * 256 + lo)).runAt C p = _
  rw [run_bind, u1_run h]
  show ((Reader.u1 : Dec Nat) >>= fun lo => Pure.pure (a * 256 + lo)).runAt C (p + 1) = _
  rw [run_bind, u1_run h.2]
  rfl
theorem s1_run {C : ByteArray} {p b : Nat} {bs : List Nat} (h : Pr C p (b :: bs)) : (Reader.s1 : Dec Int).runAt C p = .ok (Reader.signed 8 b, p + 1) := by
  show ((Reader.signed 8) <$> (Reader.u1 : Dec Nat)).runAt C p = _
  rw [run_map, u1_run h]
  rfl
theorem s2_run {C : ByteArray} {p a b : Nat} {bs : List Nat} (h : Pr C p (a :: b :: bs)) : (Reader.s2 : Dec Int).runAt C p = .ok (Reader.signed 16 (a * 256 + b), p + 1 + 1) := by
  show ((Reader.signed 16) <$> (Reader.u2 : Dec Nat)).runAt C p = _
  rw [run_map, u2_run h]
  rfl
section
variable {C : ByteArray} {p n : Nat} {bs : List Nat} {f : Nat → Dec Instr}
theorem dz_0 {i : Instr} {L : Nat} (h : (Decoder.instr p).runAt C p = .ok (i, p + L)) : decode C p = .ok (i, L) := by
  have e : decode C p = ((Decoder.instr p).runAt C p >>= fun x => .ok (x.1, x.2 - p)) := by
    unfold decode
    cases (Decoder.instr p).runAt C p <;> rfl
  rw [e, h]
  show (Except.ok (i, p + L - p) : Except DecodeError (Instr × Nat)) = _
  rw [Nat.add_sub_cancel_left]
theorem dz_1 {i : Instr} {L : Nat} (e : Decoder.instr p = (Reader.u1 >>= f)) (h : Pr C p (n :: bs)) (h2 : (f n).runAt C (p + 1) = .ok (i, p + L)) : decode C p = .ok (i, L) := by
  refine dz_0 ?_
  rw [e, run_bind, u1_run h]
  exact h2
theorem dzA {i : Instr} (e : Decoder.instr p = (Reader.u1 >>= f)) (h : Pr C p (n :: bs)) (h2 : f n = Pure.pure i) : decode C p = .ok (i, 1) := dz_1 e h (by rw [h2]; rfl)
theorem dzB {b : Nat} {g : Nat → Instr} (e : Decoder.instr p = (Reader.u1 >>= f)) (h : Pr C p (n :: b :: bs)) (h2 : f n = (Reader.u1 >>= fun x => Pure.pure (g x))) : decode C p = .ok (g b, 2) := dz_1 e h (by rw [h2, run_bind, u1_run h.2]; rfl)
theorem dzC {b : Nat} {g : Int → Instr} (e : Decoder.instr p = (Reader.u1 >>= f)) (h : Pr C p (n :: b :: bs)) (h2 : f n = (Reader.s1 >>= fun x => Pure.pure (g x))) : decode C p = .ok (g (Reader.signed 8 b), 2) := dz_1 e h (by rw [h2, run_bind, s1_run h.2]; rfl)
theorem dzD {a b : Nat} {g : Nat → Instr} (e : Decoder.instr p = (Reader.u1 >>= f)) (h : Pr C p (n :: a :: b :: bs)) (h2 : f n = (Reader.u2 >>= fun x => Pure.pure (g x))) : decode C p = .ok (g (a * 256 + b), 3) := dz_1 e h (by rw [h2, run_bind, u2_run h.2]; rfl)
theorem dzE {a b : Nat} {g : Int → Instr} (e : Decoder.instr p = (Reader.u1 >>= f)) (h : Pr C p (n :: a :: b :: bs)) (h2 : f n = (Reader.s2 >>= fun x => Pure.pure (g x))) : decode C p = .ok (g (Reader.signed 16 (a * 256 + b)), 3) := dz_1 e h (by rw [h2, run_bind, s2_run h.2]; rfl)
theorem dzF {a b : Nat} {g : Nat → Int → Instr} (e : Decoder.instr p = (Reader.u1 >>= f)) (h : Pr C p (n :: a :: b :: bs)) (h2 : f n = (Reader.u1 >>= fun x => Reader.s1 >>= fun y => Pure.pure (g x y))) : decode C p = .ok (g a (Reader.signed 8 b), 3) := dz_1 e h (by
  rw [h2, run_bind, u1_run h.2]
  show ((Reader.s1 : Dec Int) >>= fun y => Pure.pure (g a y)).runAt C (p + 1 + 1) = _
  rw [run_bind, s1_run h.2.2]
  rfl)
end
section
variable {C : ByteArray} {p : Nat} {bs : List Nat}
theorem dz1 (h : Pr C p (1 :: bs)) : decode C p = .ok (.aconst_null, 1) := dzA rfl h rfl
theorem dz2 (h : Pr C p (2 :: bs)) : decode C p = .ok (.iconst (-1), 1) := dzA rfl h rfl
theorem dz3 (h : Pr C p (3 :: bs)) : decode C p = .ok (.iconst 0, 1) := dzA rfl h rfl
theorem dz4 (h : Pr C p (4 :: bs)) : decode C p = .ok (.iconst 1, 1) := dzA rfl h rfl
theorem dz5 (h : Pr C p (5 :: bs)) : decode C p = .ok (.iconst 2, 1) := dzA rfl h rfl
theorem dz6 (h : Pr C p (6 :: bs)) : decode C p = .ok (.iconst 3, 1) := dzA rfl h rfl
theorem dz7 (h : Pr C p (7 :: bs)) : decode C p = .ok (.iconst 4, 1) := dzA rfl h rfl
theorem dz8 (h : Pr C p (8 :: bs)) : decode C p = .ok (.iconst 5, 1) := dzA rfl h rfl
theorem dz9 (h : Pr C p (9 :: bs)) : decode C p = .ok (.lconst 0, 1) := dzA rfl h rfl
theorem dz10 (h : Pr C p (10 :: bs)) : decode C p = .ok (.lconst 1, 1) := dzA rfl h rfl
theorem dz16 {b : Nat} {x : Int} (h : Pr C p (16 :: b :: bs)) (e : Reader.signed 8 b = x) : decode C p = .ok (.bipush x, 2) := by
  subst e
  exact dzC (g := fun x => .bipush x) rfl h rfl
theorem dz17 {a b : Nat} {x : Int} (h : Pr C p (17 :: a :: b :: bs)) (e : Reader.signed 16 (a * 256 + b) = x) : decode C p = .ok (.sipush x, 3) := by
  subst e
  exact dzE (g := fun x => .sipush x) rfl h rfl
theorem dz18 {b : Nat} (h : Pr C p (18 :: b :: bs)) : decode C p = .ok (.ldc b, 2) := dzB (g := fun x => .ldc x) rfl h rfl
theorem dz19 {a b x : Nat} (h : Pr C p (19 :: a :: b :: bs)) (e : a * 256 + b = x) : decode C p = .ok (.ldc_w x, 3) := by
  subst e
  exact dzD (g := fun x => .ldc_w x) rfl h rfl
theorem dz20 {a b x : Nat} (h : Pr C p (20 :: a :: b :: bs)) (e : a * 256 + b = x) : decode C p = .ok (.ldc2_w x, 3) := by
  subst e
  exact dzD (g := fun x => .ldc2_w x) rfl h rfl
theorem dz21 {b : Nat} (h : Pr C p (21 :: b :: bs)) : decode C p = .ok (.iload b, 2) := dzB (g := fun x => .iload x) rfl h rfl
theorem dz22 {b : Nat} (h : Pr C p (22 :: b :: bs)) : decode C p = .ok (.lload b, 2) := dzB (g := fun x => .lload x) rfl h rfl
theorem dz25 {b : Nat} (h : Pr C p (25 :: b :: bs)) : decode C p = .ok (.aload b, 2) := dzB (g := fun x => .aload x) rfl h rfl
theorem dz26 (h : Pr C p (26 :: bs)) : decode C p = .ok (.iload_n 0, 1) := dzA rfl h rfl
theorem dz27 (h : Pr C p (27 :: bs)) : decode C p = .ok (.iload_n 1, 1) := dzA rfl h rfl
theorem dz28 (h : Pr C p (28 :: bs)) : decode C p = .ok (.iload_n 2, 1) := dzA rfl h rfl
theorem dz29 (h : Pr C p (29 :: bs)) : decode C p = .ok (.iload_n 3, 1) := dzA rfl h rfl
theorem dz30 (h : Pr C p (30 :: bs)) : decode C p = .ok (.lload_n 0, 1) := dzA rfl h rfl
theorem dz31 (h : Pr C p (31 :: bs)) : decode C p = .ok (.lload_n 1, 1) := dzA rfl h rfl
theorem dz32 (h : Pr C p (32 :: bs)) : decode C p = .ok (.lload_n 2, 1) := dzA rfl h rfl
theorem dz33 (h : Pr C p (33 :: bs)) : decode C p = .ok (.lload_n 3, 1) := dzA rfl h rfl
theorem dz42 (h : Pr C p (42 :: bs)) : decode C p = .ok (.aload_n 0, 1) := dzA rfl h rfl
theorem dz43 (h : Pr C p (43 :: bs)) : decode C p = .ok (.aload_n 1, 1) := dzA rfl h rfl
theorem dz44 (h : Pr C p (44 :: bs)) : decode C p = .ok (.aload_n 2, 1) := dzA rfl h rfl
theorem dz45 (h : Pr C p (45 :: bs)) : decode C p = .ok (.aload_n 3, 1) := dzA rfl h rfl
theorem dz46 (h : Pr C p (46 :: bs)) : decode C p = .ok (.iaload, 1) := dzA rfl h rfl
theorem dz47 (h : Pr C p (47 :: bs)) : decode C p = .ok (.laload, 1) := dzA rfl h rfl
theorem dz50 (h : Pr C p (50 :: bs)) : decode C p = .ok (.aaload, 1) := dzA rfl h rfl
theorem dz51 (h : Pr C p (51 :: bs)) : decode C p = .ok (.baload, 1) := dzA rfl h rfl
theorem dz52 (h : Pr C p (52 :: bs)) : decode C p = .ok (.caload, 1) := dzA rfl h rfl
theorem dz54 {b : Nat} (h : Pr C p (54 :: b :: bs)) : decode C p = .ok (.istore b, 2) := dzB (g := fun x => .istore x) rfl h rfl
theorem dz55 {b : Nat} (h : Pr C p (55 :: b :: bs)) : decode C p = .ok (.lstore b, 2) := dzB (g := fun x => .lstore x) rfl h rfl
theorem dz58 {b : Nat} (h : Pr C p (58 :: b :: bs)) : decode C p = .ok (.astore b, 2) := dzB (g := fun x => .astore x) rfl h rfl
theorem dz59 (h : Pr C p (59 :: bs)) : decode C p = .ok (.istore_n 0, 1) := dzA rfl h rfl
theorem dz60 (h : Pr C p (60 :: bs)) : decode C p = .ok (.istore_n 1, 1) := dzA rfl h rfl
theorem dz61 (h : Pr C p (61 :: bs)) : decode C p = .ok (.istore_n 2, 1) := dzA rfl h rfl
theorem dz62 (h : Pr C p (62 :: bs)) : decode C p = .ok (.istore_n 3, 1) := dzA rfl h rfl
theorem dz63 (h : Pr C p (63 :: bs)) : decode C p = .ok (.lstore_n 0, 1) := dzA rfl h rfl
theorem dz64 (h : Pr C p (64 :: bs)) : decode C p = .ok (.lstore_n 1, 1) := dzA rfl h rfl
theorem dz65 (h : Pr C p (65 :: bs)) : decode C p = .ok (.lstore_n 2, 1) := dzA rfl h rfl
theorem dz66 (h : Pr C p (66 :: bs)) : decode C p = .ok (.lstore_n 3, 1) := dzA rfl h rfl
theorem dz76 (h : Pr C p (76 :: bs)) : decode C p = .ok (.astore_n 1, 1) := dzA rfl h rfl
theorem dz77 (h : Pr C p (77 :: bs)) : decode C p = .ok (.astore_n 2, 1) := dzA rfl h rfl
theorem dz78 (h : Pr C p (78 :: bs)) : decode C p = .ok (.astore_n 3, 1) := dzA rfl h rfl
theorem dz79 (h : Pr C p (79 :: bs)) : decode C p = .ok (.iastore, 1) := dzA rfl h rfl
theorem dz80 (h : Pr C p (80 :: bs)) : decode C p = .ok (.lastore, 1) := dzA rfl h rfl
theorem dz83 (h : Pr C p (83 :: bs)) : decode C p = .ok (.aastore, 1) := dzA rfl h rfl
theorem dz84 (h : Pr C p (84 :: bs)) : decode C p = .ok (.bastore, 1) := dzA rfl h rfl
theorem dz85 (h : Pr C p (85 :: bs)) : decode C p = .ok (.castore, 1) := dzA rfl h rfl
theorem dz87 (h : Pr C p (87 :: bs)) : decode C p = .ok (.pop, 1) := dzA rfl h rfl
theorem dz89 (h : Pr C p (89 :: bs)) : decode C p = .ok (.dup, 1) := dzA rfl h rfl
theorem dz90 (h : Pr C p (90 :: bs)) : decode C p = .ok (.dup_x1, 1) := dzA rfl h rfl
theorem dz92 (h : Pr C p (92 :: bs)) : decode C p = .ok (.dup2, 1) := dzA rfl h rfl
theorem dz96 (h : Pr C p (96 :: bs)) : decode C p = .ok (.iadd, 1) := dzA rfl h rfl
theorem dz97 (h : Pr C p (97 :: bs)) : decode C p = .ok (.ladd, 1) := dzA rfl h rfl
theorem dz100 (h : Pr C p (100 :: bs)) : decode C p = .ok (.isub, 1) := dzA rfl h rfl
theorem dz101 (h : Pr C p (101 :: bs)) : decode C p = .ok (.lsub, 1) := dzA rfl h rfl
theorem dz104 (h : Pr C p (104 :: bs)) : decode C p = .ok (.imul, 1) := dzA rfl h rfl
theorem dz105 (h : Pr C p (105 :: bs)) : decode C p = .ok (.lmul, 1) := dzA rfl h rfl
theorem dz108 (h : Pr C p (108 :: bs)) : decode C p = .ok (.idiv, 1) := dzA rfl h rfl
theorem dz109 (h : Pr C p (109 :: bs)) : decode C p = .ok (.ldiv, 1) := dzA rfl h rfl
theorem dz113 (h : Pr C p (113 :: bs)) : decode C p = .ok (.lrem, 1) := dzA rfl h rfl
theorem dz116 (h : Pr C p (116 :: bs)) : decode C p = .ok (.ineg, 1) := dzA rfl h rfl
theorem dz117 (h : Pr C p (117 :: bs)) : decode C p = .ok (.lneg, 1) := dzA rfl h rfl
theorem dz120 (h : Pr C p (120 :: bs)) : decode C p = .ok (.ishl, 1) := dzA rfl h rfl
theorem dz121 (h : Pr C p (121 :: bs)) : decode C p = .ok (.lshl, 1) := dzA rfl h rfl
theorem dz122 (h : Pr C p (122 :: bs)) : decode C p = .ok (.ishr, 1) := dzA rfl h rfl
theorem dz123 (h : Pr C p (123 :: bs)) : decode C p = .ok (.lshr, 1) := dzA rfl h rfl
theorem dz126 (h : Pr C p (126 :: bs)) : decode C p = .ok (.iand, 1) := dzA rfl h rfl
theorem dz127 (h : Pr C p (127 :: bs)) : decode C p = .ok (.land, 1) := dzA rfl h rfl
theorem dz129 (h : Pr C p (129 :: bs)) : decode C p = .ok (.lor, 1) := dzA rfl h rfl
theorem dz132 {a b : Nat} {x : Int} (h : Pr C p (132 :: a :: b :: bs)) (e : Reader.signed 8 b = x) : decode C p = .ok (.iinc a x, 3) := by
  subst e
  exact dzF (g := fun x y => .iinc x y) rfl h rfl
theorem dz133 (h : Pr C p (133 :: bs)) : decode C p = .ok (.i2l, 1) := dzA rfl h rfl
theorem dz136 (h : Pr C p (136 :: bs)) : decode C p = .ok (.l2i, 1) := dzA rfl h rfl
theorem dz145 (h : Pr C p (145 :: bs)) : decode C p = .ok (.i2b, 1) := dzA rfl h rfl
theorem dz146 (h : Pr C p (146 :: bs)) : decode C p = .ok (.i2c, 1) := dzA rfl h rfl
theorem dz147 (h : Pr C p (147 :: bs)) : decode C p = .ok (.i2s, 1) := dzA rfl h rfl
theorem dz148 (h : Pr C p (148 :: bs)) : decode C p = .ok (.lcmp, 1) := dzA rfl h rfl
theorem dz153 {a b : Nat} {x : Int} (h : Pr C p (153 :: a :: b :: bs)) (e : Reader.signed 16 (a * 256 + b) = x) : decode C p = .ok (.ifCond .eq x, 3) := by
  subst e
  exact dzE (g := fun x => .ifCond .eq x) rfl h rfl
theorem dz154 {a b : Nat} {x : Int} (h : Pr C p (154 :: a :: b :: bs)) (e : Reader.signed 16 (a * 256 + b) = x) : decode C p = .ok (.ifCond .ne x, 3) := by
  subst e
  exact dzE (g := fun x => .ifCond .ne x) rfl h rfl
theorem dz155 {a b : Nat} {x : Int} (h : Pr C p (155 :: a :: b :: bs)) (e : Reader.signed 16 (a * 256 + b) = x) : decode C p = .ok (.ifCond .lt x, 3) := by
  subst e
  exact dzE (g := fun x => .ifCond .lt x) rfl h rfl
theorem dz156 {a b : Nat} {x : Int} (h : Pr C p (156 :: a :: b :: bs)) (e : Reader.signed 16 (a * 256 + b) = x) : decode C p = .ok (.ifCond .ge x, 3) := by
  subst e
  exact dzE (g := fun x => .ifCond .ge x) rfl h rfl
theorem dz157 {a b : Nat} {x : Int} (h : Pr C p (157 :: a :: b :: bs)) (e : Reader.signed 16 (a * 256 + b) = x) : decode C p = .ok (.ifCond .gt x, 3) := by
  subst e
  exact dzE (g := fun x => .ifCond .gt x) rfl h rfl
theorem dz158 {a b : Nat} {x : Int} (h : Pr C p (158 :: a :: b :: bs)) (e : Reader.signed 16 (a * 256 + b) = x) : decode C p = .ok (.ifCond .le x, 3) := by
  subst e
  exact dzE (g := fun x => .ifCond .le x) rfl h rfl
theorem dz159 {a b : Nat} {x : Int} (h : Pr C p (159 :: a :: b :: bs)) (e : Reader.signed 16 (a * 256 + b) = x) : decode C p = .ok (.if_icmp .eq x, 3) := by
  subst e
  exact dzE (g := fun x => .if_icmp .eq x) rfl h rfl
theorem dz160 {a b : Nat} {x : Int} (h : Pr C p (160 :: a :: b :: bs)) (e : Reader.signed 16 (a * 256 + b) = x) : decode C p = .ok (.if_icmp .ne x, 3) := by
  subst e
  exact dzE (g := fun x => .if_icmp .ne x) rfl h rfl
theorem dz161 {a b : Nat} {x : Int} (h : Pr C p (161 :: a :: b :: bs)) (e : Reader.signed 16 (a * 256 + b) = x) : decode C p = .ok (.if_icmp .lt x, 3) := by
  subst e
  exact dzE (g := fun x => .if_icmp .lt x) rfl h rfl
theorem dz162 {a b : Nat} {x : Int} (h : Pr C p (162 :: a :: b :: bs)) (e : Reader.signed 16 (a * 256 + b) = x) : decode C p = .ok (.if_icmp .ge x, 3) := by
  subst e
  exact dzE (g := fun x => .if_icmp .ge x) rfl h rfl
theorem dz163 {a b : Nat} {x : Int} (h : Pr C p (163 :: a :: b :: bs)) (e : Reader.signed 16 (a * 256 + b) = x) : decode C p = .ok (.if_icmp .gt x, 3) := by
  subst e
  exact dzE (g := fun x => .if_icmp .gt x) rfl h rfl
theorem dz164 {a b : Nat} {x : Int} (h : Pr C p (164 :: a :: b :: bs)) (e : Reader.signed 16 (a * 256 + b) = x) : decode C p = .ok (.if_icmp .le x, 3) := by
  subst e
  exact dzE (g := fun x => .if_icmp .le x) rfl h rfl
theorem dz167 {a b : Nat} {x : Int} (h : Pr C p (167 :: a :: b :: bs)) (e : Reader.signed 16 (a * 256 + b) = x) : decode C p = .ok (.goto x, 3) := by
  subst e
  exact dzE (g := fun x => .goto x) rfl h rfl
theorem dz172 (h : Pr C p (172 :: bs)) : decode C p = .ok (.ireturn, 1) := dzA rfl h rfl
theorem dz173 (h : Pr C p (173 :: bs)) : decode C p = .ok (.lreturn, 1) := dzA rfl h rfl
theorem dz176 (h : Pr C p (176 :: bs)) : decode C p = .ok (.areturn, 1) := dzA rfl h rfl
theorem dz177 (h : Pr C p (177 :: bs)) : decode C p = .ok (.return_, 1) := dzA rfl h rfl
theorem dz178 {a b x : Nat} (h : Pr C p (178 :: a :: b :: bs)) (e : a * 256 + b = x) : decode C p = .ok (.getstatic x, 3) := by
  subst e
  exact dzD (g := fun x => .getstatic x) rfl h rfl
theorem dz180 {a b x : Nat} (h : Pr C p (180 :: a :: b :: bs)) (e : a * 256 + b = x) : decode C p = .ok (.getfield x, 3) := by
  subst e
  exact dzD (g := fun x => .getfield x) rfl h rfl
theorem dz181 {a b x : Nat} (h : Pr C p (181 :: a :: b :: bs)) (e : a * 256 + b = x) : decode C p = .ok (.putfield x, 3) := by
  subst e
  exact dzD (g := fun x => .putfield x) rfl h rfl
theorem dz182 {a b x : Nat} (h : Pr C p (182 :: a :: b :: bs)) (e : a * 256 + b = x) : decode C p = .ok (.invokevirtual x, 3) := by
  subst e
  exact dzD (g := fun x => .invokevirtual x) rfl h rfl
theorem dz183 {a b x : Nat} (h : Pr C p (183 :: a :: b :: bs)) (e : a * 256 + b = x) : decode C p = .ok (.invokespecial x, 3) := by
  subst e
  exact dzD (g := fun x => .invokespecial x) rfl h rfl
theorem dz184 {a b x : Nat} (h : Pr C p (184 :: a :: b :: bs)) (e : a * 256 + b = x) : decode C p = .ok (.invokestatic x, 3) := by
  subst e
  exact dzD (g := fun x => .invokestatic x) rfl h rfl
theorem dz187 {a b x : Nat} (h : Pr C p (187 :: a :: b :: bs)) (e : a * 256 + b = x) : decode C p = .ok (.new x, 3) := by
  subst e
  exact dzD (g := fun x => .new x) rfl h rfl
theorem dz189 {a b x : Nat} (h : Pr C p (189 :: a :: b :: bs)) (e : a * 256 + b = x) : decode C p = .ok (.anewarray x, 3) := by
  subst e
  exact dzD (g := fun x => .anewarray x) rfl h rfl
theorem dz190 (h : Pr C p (190 :: bs)) : decode C p = .ok (.arraylength, 1) := dzA rfl h rfl
theorem dz192 {a b x : Nat} (h : Pr C p (192 :: a :: b :: bs)) (e : a * 256 + b = x) : decode C p = .ok (.checkcast x, 3) := by
  subst e
  exact dzD (g := fun x => .checkcast x) rfl h rfl
theorem dz199 {a b : Nat} {x : Int} (h : Pr C p (199 :: a :: b :: bs)) (e : Reader.signed 16 (a * 256 + b) = x) : decode C p = .ok (.ifnonnull x, 3) := by
  subst e
  exact dzE (g := fun x => .ifnonnull x) rfl h rfl
end
theorem s_tk0 {s : List Value} : s_tk 0 (s) = some ([], s) := by simp [s_tk]
theorem s_tk1 {a1 : Value} {s : List Value} : s_tk 1 (a1 :: s) = some ([a1], s) := by simp [s_tk]
theorem s_tk2 {a1 a2 : Value} {s : List Value} : s_tk 2 (a2 :: a1 :: s) = some ([a1, a2], s) := by simp [s_tk]
theorem s_tk3 {a1 a2 a3 : Value} {s : List Value} : s_tk 3 (a3 :: a2 :: a1 :: s) = some ([a1, a2, a3], s) := by simp [s_tk]
theorem s_tk4 {a1 a2 a3 a4 : Value} {s : List Value} : s_tk 4 (a4 :: a3 :: a2 :: a1 :: s) = some ([a1, a2, a3, a4], s) := by simp [s_tk]
theorem s_tk5 {a1 a2 a3 a4 a5 : Value} {s : List Value} : s_tk 5 (a5 :: a4 :: a3 :: a2 :: a1 :: s) = some ([a1, a2, a3, a4, a5], s) := by simp [s_tk]
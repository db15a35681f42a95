/-! THE SMALL MACHINE: memory by total maps, one step of a method's code, and what it is to come to an end that is wanted (least such predicate) -/
abbrev MH : Type := (Nat → Nat) × (Nat → Nat) × (Nat → Nat → Int32) × (Nat → Nat → Int64) × (Nat → Nat → Option Nat) × Nat × Nat × (Nat → Nat)
/-- the kind of the cell at an address (0: none), an array's length, its ints, longs, references (fields or elements); the next address, the first one of the run, the constants' addresses -/
def g_c (h : MH) (a : Nat) : Nat := h.1 a
def g_n (h : MH) (a : Nat) : Nat := h.2.1 a
def g_i (h : MH) (a k : Nat) : Int32 := h.2.2.1 a k
def g_l (h : MH) (a k : Nat) : Int64 := h.2.2.2.1 a k
def g_r (h : MH) (a k : Nat) : Option Nat := h.2.2.2.2.1 a k
def g_t (h : MH) : Nat := h.2.2.2.2.2.1
def g_z (h : MH) : Nat := h.2.2.2.2.2.2.1
def g_a (h : MH) (j : Nat) : Nat := h.2.2.2.2.2.2.2 j
def p_i (h : MH) (a k : Nat) (v : Int32) : MH := (h.1, h.2.1, fun b j => if b = a ∧ j = k then v else h.2.2.1 b j, h.2.2.2)
def p_l (h : MH) (a k : Nat) (v : Int64) : MH := (h.1, h.2.1, h.2.2.1, fun b j => if b = a ∧ j = k then v else h.2.2.2.1 b j, h.2.2.2.2)
def p_r (h : MH) (a k : Nat) (v : Option Nat) : MH := (h.1, h.2.1, h.2.2.1, h.2.2.2.1, fun b j => if b = a ∧ j = k then v else h.2.2.2.2.1 b j, h.2.2.2.2.2)
/-- a new cell at the next address -/
def p_N (h : MH) (tag n : Nat) : MH := (fun b => if b = g_t h then tag else h.1 b, fun b => if b = g_t h then n else h.2.1 b, fun b j => if b = g_t h then 0 else h.2.2.1 b j, fun b j => if b = g_t h then 0 else h.2.2.2.1 b j, fun b j => if b = g_t h then none else h.2.2.2.2.1 b j, g_t h + 1, h.2.2.2.2.2.2)
/-- others have made cells -/
def p_T (h : MH) (t : Nat) : MH := (h.1, h.2.1, h.2.2.1, h.2.2.2.1, h.2.2.2.2.1, t, h.2.2.2.2.2.2)
/-- a row of bytes copied -/
def p_C (h : MH) (a : Nat) (f : Nat → Int32) : MH := (h.1, h.2.1, fun b j => if b = a then f j else h.2.2.1 b j, h.2.2.2)
section Mem
variable (h : MH) (a k b j : Nat) (v : Int32) (w : Int64) (r : Option Nat) (tag n t : Nat) (f : Nat → Int32)
theorem c_pN : g_c (p_N h tag n) b = if b = g_t h then tag else g_c h b := rfl
theorem c_pC : g_c (p_C h a f) b = g_c h b := rfl
theorem n_pN : g_n (p_N h tag n) b = if b = g_t h then n else g_n h b := rfl
theorem n_pC : g_n (p_C h a f) b = g_n h b := rfl
theorem i_pi : g_i (p_i h a k v) b j = if b = a ∧ j = k then v else g_i h b j := rfl
theorem i_pl : g_i (p_l h a k w) b j = g_i h b j := rfl
theorem i_pr : g_i (p_r h a k r) b j = g_i h b j := rfl
theorem i_pN : g_i (p_N h tag n) b j = if b = g_t h then 0 else g_i h b j := rfl
theorem i_pC : g_i (p_C h a f) b j = if b = a then f j else g_i h b j := rfl
theorem l_pi : g_l (p_i h a k v) b j = g_l h b j := rfl
theorem l_pl : g_l (p_l h a k w) b j = if b = a ∧ j = k then w else g_l h b j := rfl
theorem l_pr : g_l (p_r h a k r) b j = g_l h b j := rfl
theorem l_pN : g_l (p_N h tag n) b j = if b = g_t h then 0 else g_l h b j := rfl
theorem l_pC : g_l (p_C h a f) b j = g_l h b j := rfl
theorem r_pi : g_r (p_i h a k v) b j = g_r h b j := rfl
theorem r_pl : g_r (p_l h a k w) b j = g_r h b j := rfl
theorem r_pr : g_r (p_r h a k r) b j = if b = a ∧ j = k then r else g_r h b j := rfl
theorem r_pN : g_r (p_N h tag n) b j = if b = g_t h then none else g_r h b j := rfl
theorem r_pC : g_r (p_C h a f) b j = g_r h b j := rfl
theorem t_pN : g_t (p_N h tag n) = g_t h + 1 := rfl
end Mem
/-- what a method comes to: it has given a value (or none), or thrown one of kind E -/
abbrev MR : Type := Option Value ⊕ Nat
/-- a step: what must hold, and what comes -/
abbrev SR : Type := Prop × ((Nat × Nat × Nat × List Value × List Value × MH) ⊕ ((List (Prop × Nat) × List Value × List Value) ⊕ ((Nat × Nat × Nat × List Value × Nat × List Value) ⊕ (Option Value ⊕ Nat))))
def s_nx (c : Prop) (pc : Nat) (loc stk : List Value) (h : MH) : SR := (c, .inl (0, 0, pc, loc, stk, h))
def s_al (c : Prop) (n pc : Nat) (loc stk : List Value) (h : MH) : SR := (c, .inl (1, n, pc, loc, stk, h))
def s_br (c : Prop) (alts : List (Prop × Nat)) (loc stk : List Value) : SR := (c, .inr (.inl (alts, loc, stk)))
def s_ca (c : Prop) (Z mc ms : Nat) (args : List Value) (pc : Nat) (rest : List Value) : SR := (c, .inr (.inr (.inl (Z, mc, ms, args, pc, rest))))
def s_re (c : Prop) (v : Option Value) : SR := (c, .inr (.inr (.inr (.inl v))))
def s_th (c : Prop) (E : Nat) : SR := (c, .inr (.inr (.inr (.inr E))))
def s_no : SR := (False, .inr (.inr (.inr (.inl none))))
/-- locals: a value of two slots is followed by a mark; a mark stands for what nobody may read -/
def mk0 : Value := .retAddr 0
def ent : List Value → List Value
  | [] => []
  | v :: vs => if v.category = 2 then v :: mk0 :: ent vs else v :: ent vs
def entN (n : Nat) (vs : List Value) : List Value := ent vs ++ List.replicate (n - (ent vs).length) mk0
/-- storing one slot, two slots: what it cuts is marked -/
def fixp (l : List Value) (k : Nat) : List Value := match k with
  | 0 => l
  | j + 1 => match l[j]? with
    | some v => if v.category = 2 then l.set j mk0 else l
    | none => l
def st1 (l : List Value) (k : Nat) (v : Value) : List Value := (fixp l k).set k v
def st2 (l : List Value) (k : Nat) (v : Value) : List Value := ((fixp l k).set k v).set (k + 1) mk0
abbrev MX : Type := Nat → Nat → List Value → List Value → MH → Nat → Nat → (MR → MH → Prop) → Prop
/-- what a value must be for a field or an array of a kind (0 int, 3 boolean, 4 byte, 5 char, 6 short) -/
def kok (kd : Nat) (v : Int32) : Prop := (kd = 3 → v = 0 ∨ v = 1) ∧ (kd = 4 → -128 ≤ v ∧ v ≤ 127) ∧ (kd = 5 → 0 ≤ v ∧ v ≤ 65535) ∧ (kd = 6 → -32768 ≤ v ∧ v ≤ 32767)
def jmp (pc : Nat) (off : Int) : Nat := ((pc : Int) + off).toNat
def cnd (c : Jvm.ClassFile.Cond) (x y : Int32) : Prop := match c with
  | .eq => x = y | .ne => ¬ x = y | .lt => x < y | .ge => y ≤ x | .gt => y < x | .le => x ≤ y
def sw_al (pc : Nat) (x : Int32) (lo : Int) : List Int → List (Prop × Nat)
  | [] => []
  | o :: os => (x = Int32.ofInt lo, jmp pc o) :: sw_al pc x (lo + 1) os
def lk_al (pc : Nat) (x : Int32) (d : Int) : List (Int × Int) → List (Prop × Nat)
  | [] => [(True, jmp pc d)]
  | (k, o) :: os => (x = Int32.ofInt k, jmp pc o) :: (lk_al pc x d os).map (fun q => (¬ x = Int32.ofInt k ∧ q.1, q.2))
def s_bin (c : Prop) (pc : Nat) (loc stk : List Value) (h : MH) (f : Int32 → Int32 → Int32) : SR := match stk with
  | .int y :: .int x :: st => s_nx c (pc + 1) loc (.int (f x y) :: st) h
  | _ => s_no
def s_binL (c : Prop) (pc : Nat) (loc stk : List Value) (h : MH) (f : Int64 → Int64 → Int64) : SR := match stk with
  | .long y :: .long x :: st => s_nx c (pc + 1) loc (.long (f x y) :: st) h
  | _ => s_no
def s_shL (c : Prop) (pc : Nat) (loc stk : List Value) (h : MH) (f : Int64 → Int32 → Int64) : SR := match stk with
  | .int y :: .long x :: st => s_nx c (pc + 1) loc (.long (f x y) :: st) h
  | _ => s_no
def s_un (c : Prop) (pc : Nat) (loc stk : List Value) (h : MH) (f : Int32 → Value) : SR := match stk with
  | .int x :: st => s_nx c (pc + 1) loc (f x :: st) h
  | _ => s_no
def s_unL (c : Prop) (pc : Nat) (loc stk : List Value) (h : MH) (f : Int64 → Value) : SR := match stk with
  | .long x :: st => s_nx c (pc + 1) loc (f x :: st) h
  | _ => s_no
def s_ldI (len n : Nat) (pc i : Nat) (loc stk : List Value) (h : MH) : SR := match loc[i]? with
  | some (.int x) => s_nx (len = n) (pc + n) loc (.int x :: stk) h
  | _ => s_no
def s_ldL (len n : Nat) (pc i : Nat) (loc stk : List Value) (h : MH) : SR := match loc[i]? with
  | some (.long x) => s_nx (len = n) (pc + n) loc (.long x :: stk) h
  | _ => s_no
def s_ldA (len n : Nat) (pc i : Nat) (loc stk : List Value) (h : MH) : SR := match loc[i]? with
  | some (.ref x) => s_nx (len = n) (pc + n) loc (.ref x :: stk) h
  | some .null => s_nx (len = n) (pc + n) loc (.null :: stk) h
  | _ => s_no
def s_stI (len n : Nat) (pc i : Nat) (loc stk : List Value) (h : MH) : SR := match stk with
  | .int x :: st => s_nx (len = n ∧ i < loc.length) (pc + n) (st1 loc i (.int x)) st h
  | _ => s_no
def s_stL (len n : Nat) (pc i : Nat) (loc stk : List Value) (h : MH) : SR := match stk with
  | .long x :: st => s_nx (len = n ∧ i + 1 < loc.length) (pc + n) (st2 loc i (.long x)) st h
  | _ => s_no
def s_stA (len n : Nat) (pc i : Nat) (loc stk : List Value) (h : MH) : SR := match stk with
  | .ref x :: st => s_nx (len = n ∧ i < loc.length) (pc + n) (st1 loc i (.ref x)) st h
  | .null :: st => s_nx (len = n ∧ i < loc.length) (pc + n) (st1 loc i .null) st h
  | _ => s_no
def s_ldx (c : Prop) (tag pc : Nat) (loc stk : List Value) (h : MH) (f : Nat → Nat → Value) : SR := match stk with
  | .int i :: .ref a :: st => s_nx (c ∧ g_c h a = tag ∧ vp_in i (g_n h a)) (pc + 1) loc (f a i.toNatClampNeg :: st) h
  | _ => s_no
def s_stx (c : Prop) (tag pc : Nat) (loc stk : List Value) (h : MH) (g : Int32 → Int32) : SR := match stk with
  | .int v :: .int i :: .ref a :: st => s_nx (c ∧ g_c h a = tag ∧ g_z h ≤ a ∧ vp_in i (g_n h a)) (pc + 1) loc st (p_i h a i.toNatClampNeg (g v))
  | _ => s_no
/-- the arguments of a call of n, the last one on top -/
def s_tk (n : Nat) (stk : List Value) : Option (List Value × List Value) := if n ≤ stk.length then some ((stk.take n).reverse, stk.drop n) else none
def s_inv2 (r : Option (Nat × Nat × Nat × Nat)) (stat : Bool) (len pc : Nat) (loc stk : List Value) (h : MH) : SR := match r with
  | some (Z, kd, n, tag) =>
    if kd = 7 then match stk with
      | .int n :: .int dp :: .ref d :: .int sp :: .ref a :: st => s_nx (len = 3 ∧ stat = true ∧ (st.map (fun v => v.category)).sum ≤ 8 ∧ g_c h a = 103 ∧ g_c h d = 103 ∧ g_z h ≤ d ∧ ¬ sp < 0 ∧ ¬ dp < 0 ∧ ¬ n < 0 ∧ sp.toNatClampNeg + n.toNatClampNeg ≤ g_n h a ∧ dp.toNatClampNeg + n.toNatClampNeg ≤ g_n h d) (pc + 3) loc st (p_C h d (va_cpy (g_i h a) (g_i h d) sp.toNatClampNeg dp.toNatClampNeg n.toNatClampNeg))
      | _ => s_no
    else if kd = 9 then match stk with
      | .int y :: .int x :: st => s_nx (len = 3 ∧ stat = true ∧ (st.map (fun v => v.category)).sum ≤ 8) (pc + 3) loc (.int (if y < x then y else x) :: st) h
      | _ => s_no
    else if kd = 10 then match stk with
      | .int y :: .int x :: st => s_nx (len = 3 ∧ stat = true ∧ (st.map (fun v => v.category)).sum ≤ 8) (pc + 3) loc (.int (if x < y then y else x) :: st) h
      | _ => s_no
    else if kd = 11 then match stk with
      | .int x :: st => s_nx (len = 3 ∧ stat = true ∧ (st.map (fun v => v.category)).sum ≤ 8) (pc + 3) loc (.int (if 0 ≤ x then x else 0 - x) :: st) h
      | _ => s_no
    else if kd = 8 then match stk with
      | .ref a :: st => s_al (len = 3 ∧ stat = false ∧ (st.map (fun v => v.category)).sum ≤ 8 ∧ g_c h a = 103 ∧ g_z h ≤ a) (g_n h a) (pc + 3) loc (.ref (g_t h) :: st) (p_C (p_N h 103 (g_n h a)) (g_t h) (g_i h a))
      | _ => s_no
    else if kd = 0 then match s_tk n stk with
      | some (as, st) => s_ca (len = 3 ∧ stat = true) Z (tb_k Z).1 (tb_k Z).2 as (pc + 3) st
      | none => s_no
    else match s_tk n stk with
      | some (as, .ref a :: st) => s_ca (len = 3 ∧ stat = false ∧ g_c h a = tag) Z (tb_k Z).1 (tb_k Z).2 (.ref a :: as) (pc + 3) st
      | _ => s_no
  | none => s_no
def s_inv (stat : Bool) (len Y pc idx : Nat) (loc stk : List Value) (h : MH) : SR := s_inv2 (tM (tb_o Y * 65536 + idx)) stat len pc loc stk h
def s_spe2 (r : Option (Nat × Nat × Nat × Nat)) (len pc : Nat) (loc stk : List Value) (h : MH) : SR := match r with
  | some (Z, kd, n, tag) =>
    if kd = 6 then match stk with
      | .ref a :: st => s_nx (len = 3 ∧ (st.map (fun v => v.category)).sum ≤ 8) (pc + 3) loc st h
      | _ => s_no
    else match s_tk n stk with
      | some (as, .ref a :: st) => s_ca (len = 3 ∧ g_c h a = tag) Z (tb_k Z).1 (tb_k Z).2 (.ref a :: as) (pc + 3) st
      | _ => s_no
  | none => s_no
def s_spe (len Y pc idx : Nat) (loc stk : List Value) (h : MH) : SR := s_spe2 (tI (tb_o Y * 65536 + idx)) len pc loc stk h
def s_ret (c : Prop) (st : List Value) (v : Option Value) : SR := match st with
  | [] => s_re c v
  | _ => s_no
def rkd : Option FieldType → Nat
  | some .boolean => 3
  | some .byte => 4
  | some .char => 5
  | some .short => 6
  | some .int => 0
  | some .long => 1
  | some (.object _) => 2
  | some (.array _) => 2
  | some _ => 7
  | none => 9
/-- the ints that the law reads are the script's -/
def skd (Y : Nat) : Nat := cond (Nat.beq Y LAW) 107 101
def s_nw2 (r : Option Nat) (q : Option (Nat × Nat)) (len pc : Nat) (loc stk : List Value) (h : MH) : SR := match r with
  | some E => match stk with
    | [] => s_th (len = 3) E
    | _ => s_no
  | none => match q with
    | some (tag, n) => s_al (len = 3) n (pc + 3) loc (.ref (g_t h) :: stk) (p_N h tag 0)
    | none => s_no
def s_nw (len Y pc idx : Nat) (loc stk : List Value) (h : MH) : SR := s_nw2 (tE (Y * 65536 + pc)) (tC (tb_o Y * 65536 + idx)) len pc loc stk h
/-- a final field is written in a constructor of its own class alone -/
def okI (Y tag k : Nat) : Prop := tb_i Y = 1 ∧ (cls[tag - 1]?).map (fun r => (r.2.1 k).1) = some (cn (tb_o Y))
def s_gf2 (r : Option (Nat × Nat × Nat × Nat)) (len pc : Nat) (loc stk : List Value) (h : MH) : SR := match r, stk with
  | some (tag, k, kd, _), .ref a :: st => s_nx (len = 3 ∧ g_c h a = tag) (pc + 3) loc ((if kd = 1 then .long (g_l h a k) else if kd = 2 then va_rf (g_r h a k) else .int (g_i h a k)) :: st) h
  | _, _ => s_no
def s_gf (len Y pc idx : Nat) (loc stk : List Value) (h : MH) : SR := s_gf2 (tF (tb_o Y * 65536 + idx)) len pc loc stk h
def s_pf2 (r : Option (Nat × Nat × Nat × Nat)) (len Y pc : Nat) (loc stk : List Value) (h : MH) : SR := match r, stk with
  | some (tag, k, kd, fin), .int v :: .ref a :: st => s_nx (len = 3 ∧ g_c h a = tag ∧ g_z h ≤ a ∧ kok kd v ∧ ¬ kd = 1 ∧ ¬ kd = 2 ∧ (fin = 1 → okI Y tag k)) (pc + 3) loc st (p_i h a k v)
  | some (tag, k, kd, fin), .long v :: .ref a :: st => s_nx (len = 3 ∧ g_c h a = tag ∧ g_z h ≤ a ∧ kd = 1 ∧ (fin = 1 → okI Y tag k)) (pc + 3) loc st (p_l h a k v)
  | some (tag, k, kd, fin), .ref v :: .ref a :: st => s_nx (len = 3 ∧ g_c h a = tag ∧ g_z h ≤ a ∧ kd = 2 ∧ (fin = 1 → okI Y tag k)) (pc + 3) loc st (p_r h a k (some v))
  | _, _ => s_no
def s_pf (len Y pc idx : Nat) (loc stk : List Value) (h : MH) : SR := s_pf2 (tF (tb_o Y * 65536 + idx)) len Y pc loc stk h
def stp (Y pc : Nat) (ins : Instr) (len : Nat) (loc stk : List Value) (h : MH) : SR := match ins with
  | .iconst n => s_nx (len = 1) (pc + 1) loc (.int (Int32.ofInt n) :: stk) h
  | .bipush n => s_nx (len = 2) (pc + 2) loc (.int (Int8.ofInt n).toInt32 :: stk) h
  | .sipush n => s_nx (len = 3) (pc + 3) loc (.int (Int16.ofInt n).toInt32 :: stk) h
  | .lconst n => s_nx (len = 1) (pc + 1) loc (.long (Int64.ofNat (n : Nat)) :: stk) h
  | .aconst_null => s_nx (len = 1) (pc + 1) loc (.null :: stk) h
  | .iload_n k => s_ldI len 1 pc k loc stk h
  | .iload i => s_ldI len 2 pc i loc stk h
  | .lload_n k => s_ldL len 1 pc k loc stk h
  | .lload i => s_ldL len 2 pc i loc stk h
  | .aload_n k => s_ldA len 1 pc k loc stk h
  | .aload i => s_ldA len 2 pc i loc stk h
  | .istore_n k => s_stI len 1 pc k loc stk h
  | .istore i => s_stI len 2 pc i loc stk h
  | .lstore_n k => s_stL len 1 pc k loc stk h
  | .lstore i => s_stL len 2 pc i loc stk h
  | .astore_n k => s_stA len 1 pc k loc stk h
  | .astore i => s_stA len 2 pc i loc stk h
  | .iinc i n => match loc[i]? with
    | some (.int x) => s_nx (len = 3 ∧ i < loc.length) (pc + 3) (st1 loc i (.int (x + Int32.ofInt n))) stk h
    | _ => s_no
  | .iadd => s_bin (len = 1) pc loc stk h (fun x y => x + y)
  | .isub => s_bin (len = 1) pc loc stk h (fun x y => x - y)
  | .imul => s_bin (len = 1) pc loc stk h (fun x y => x * y)
  | .iand => s_bin (len = 1) pc loc stk h (fun x y => x &&& y)
  | .ior => s_bin (len = 1) pc loc stk h (fun x y => x ||| y)
  | .ixor => s_bin (len = 1) pc loc stk h (fun x y => x ^^^ y)
  | .ishl => s_bin (len = 1) pc loc stk h (fun x y => x <<< (y &&& 31))
  | .ishr => s_bin (len = 1) pc loc stk h (fun x y => x >>> (y &&& 31))
  | .iushr => s_bin (len = 1) pc loc stk h (fun x y => (x.toUInt32 >>> (y.toUInt32 &&& Int32.toUInt32 31)).toInt32)
  | .idiv => match stk with
    | .int y :: .int x :: st => s_nx (len = 1 ∧ ¬ y = 0) (pc + 1) loc (.int (x / y) :: st) h
    | _ => s_no
  | .irem => match stk with
    | .int y :: .int x :: st => s_nx (len = 1 ∧ ¬ y = 0) (pc + 1) loc (.int (x - x / y * y) :: st) h
    | _ => s_no
  | .ladd => s_binL (len = 1) pc loc stk h (fun x y => x + y)
  | .lsub => s_binL (len = 1) pc loc stk h (fun x y => x - y)
  | .lmul => s_binL (len = 1) pc loc stk h (fun x y => x * y)
  | .land => s_binL (len = 1) pc loc stk h (fun x y => x &&& y)
  | .lor => s_binL (len = 1) pc loc stk h (fun x y => x ||| y)
  | .lxor => s_binL (len = 1) pc loc stk h (fun x y => x ^^^ y)
  | .ldiv => match stk with
    | .long y :: .long x :: st => s_nx (len = 1 ∧ ¬ y = 0) (pc + 1) loc (.long (x / y) :: st) h
    | _ => s_no
  | .lrem => match stk with
    | .long y :: .long x :: st => s_nx (len = 1 ∧ ¬ y = 0) (pc + 1) loc (.long (x - x / y * y) :: st) h
    | _ => s_no
  | .lshl => s_shL (len = 1) pc loc stk h (fun x y => x <<< (y.toInt64 &&& 63))
  | .lshr => s_shL (len = 1) pc loc stk h (fun x y => x >>> (y.toInt64 &&& 63))
  | .lushr => s_shL (len = 1) pc loc stk h (fun x y => (x.toUInt64 >>> (y.toInt64.toUInt64 &&& Int64.toUInt64 63)).toInt64)
  | .ineg => s_un (len = 1) pc loc stk h (fun x => .int (-x))
  | .i2l => s_un (len = 1) pc loc stk h (fun x => .long x.toInt64)
  | .i2b => s_un (len = 1) pc loc stk h (fun x => .int x.toInt8.toInt32)
  | .i2s => s_un (len = 1) pc loc stk h (fun x => .int x.toInt16.toInt32)
  | .i2c => s_un (len = 1) pc loc stk h (fun x => .int (x.toUInt32 % 65536).toInt32)
  | .l2i => s_unL (len = 1) pc loc stk h (fun x => .int x.toInt32)
  | .lneg => s_unL (len = 1) pc loc stk h (fun x => .long (-x))
  | .lcmp => match stk with
    | .long y :: .long x :: st => s_nx (len = 1) (pc + 1) loc (.int (lg_cmp x y) :: st) h
    | _ => s_no
  | .dup => match stk with
    | a :: st => s_nx (len = 1 ∧ a.category = 1) (pc + 1) loc (a :: a :: st) h
    | _ => s_no
  | .pop => match stk with
    | a :: st => s_nx (len = 1 ∧ a.category = 1) (pc + 1) loc st h
    | _ => s_no
  | .pop2 => match stk with
    | .long _ :: st => s_nx (len = 1) (pc + 1) loc st h
    | _ => s_no
  | .dup_x1 => match stk with
    | a :: b :: st => s_nx (len = 1 ∧ a.category = 1 ∧ b.category = 1) (pc + 1) loc (a :: b :: a :: st) h
    | _ => s_no
  | .dup_x2 => match stk with
    | a :: b :: d :: st => s_nx (len = 1 ∧ a.category = 1 ∧ b.category = 1 ∧ d.category = 1) (pc + 1) loc (a :: b :: d :: a :: st) h
    | _ => s_no
  | .dup2 => match stk with
    | a :: b :: st => s_nx (len = 1 ∧ a.category = 1 ∧ b.category = 1) (pc + 1) loc (a :: b :: a :: b :: st) h
    | _ => s_no
  | .ifCond c o => match stk with
    | .int x :: st => s_br (len = 3) [(cnd c x 0, jmp pc o), (¬ cnd c x 0, pc + 3)] loc st
    | _ => s_no
  | .if_icmp c o => match stk with
    | .int y :: .int x :: st => s_br (len = 3) [(cnd c x y, jmp pc o), (¬ cnd c x y, pc + 3)] loc st
    | _ => s_no
  | .ifnull o => match stk with
    | .ref _ :: st => s_nx (len = 3) (pc + 3) loc st h
    | .null :: st => s_nx (len = 3) (jmp pc o) loc st h
    | _ => s_no
  | .ifnonnull o => match stk with
    | .ref _ :: st => s_nx (len = 3) (jmp pc o) loc st h
    | .null :: st => s_nx (len = 3) (pc + 3) loc st h
    | _ => s_no
  | .goto o => s_nx (len = 3) (jmp pc o) loc stk h
  | .tableswitch d lo hi os => match stk with
    | .int x :: st => s_br (0 ≤ (pc : Int) + d ∧ lo + os.toList.length = hi + 1) ((x.toInt < lo ∨ hi < x.toInt, jmp pc d) :: sw_al pc x lo os.toList) loc st
    | _ => s_no
  | .lookupswitch d ps => match stk with
    | .int x :: st => s_br ((ps.toList.zip (ps.toList.drop 1)).all (fun (a, next) => a.1 < next.1) = true) (lk_al pc x d ps.toList) loc st
    | _ => s_no
  | .getfield idx => s_gf len Y pc idx loc stk h
  | .putfield idx => s_pf len Y pc idx loc stk h
  | .getstatic idx => match tG (tb_o Y * 65536 + idx) with
    | some (.inl v) => s_nx (len = 3) (pc + 3) loc (.int v :: stk) h
    | some (.inr j) => s_nx (len = 3) (pc + 3) loc (.ref (g_a h j) :: stk) h
    | none => s_no
  | .ldc idx => match tV (tb_o Y * 65536 + idx) with
    | some (.inl (.int v)) => s_nx (len = 2) (pc + 2) loc (.int v :: stk) h
    | some (.inr j) => s_nx (len = 2) (pc + 2) loc (.ref (g_a h j) :: stk) h
    | _ => s_no
  | .ldc_w idx => match tV (tb_o Y * 65536 + idx) with
    | some (.inl (.int v)) => s_nx (len = 3) (pc + 3) loc (.int v :: stk) h
    | _ => s_no
  | .ldc2_w idx => match tV (tb_o Y * 65536 + idx) with
    | some (.inl (.long v)) => s_nx (len = 3) (pc + 3) loc (.long v :: stk) h
    | _ => s_no
  | .iaload => s_ldx (len = 1) (skd Y) pc loc stk h (fun a i => .int (g_i h a i))
  | .laload => s_ldx (len = 1) 102 pc loc stk h (fun a i => .long (g_l h a i))
  | .caload => s_ldx (len = 1) 104 pc loc stk h (fun a i => .int (g_i h a i))
  | .aaload => s_ldx (len = 1) 106 pc loc stk h (fun a i => va_rf (g_r h a i))
  | .baload => match stk with
    | .int i :: .ref a :: st => s_nx (len = 1 ∧ (g_c h a = 103 ∨ g_c h a = 105) ∧ vp_in i (g_n h a)) (pc + 1) loc (.int (g_i h a i.toNatClampNeg) :: st) h
    | _ => s_no
  | .iastore => s_stx (len = 1) 101 pc loc stk h (fun v => v)
  | .castore => s_stx (len = 1) 104 pc loc stk h (fun v => vp_nar .char v)
  | .bastore => match stk with
    | .int v :: .int i :: .ref a :: st => s_nx (len = 1 ∧ (g_c h a = 103 ∨ g_c h a = 105) ∧ g_z h ≤ a ∧ vp_in i (g_n h a)) (pc + 1) loc st (p_i h a i.toNatClampNeg (if g_c h a = 103 then vp_nar .byte v else vp_nar .boolean v))
    | _ => s_no
  | .lastore => match stk with
    | .long v :: .int i :: .ref a :: st => s_nx (len = 1 ∧ g_c h a = 102 ∧ g_z h ≤ a ∧ vp_in i (g_n h a)) (pc + 1) loc st (p_l h a i.toNatClampNeg v)
    | _ => s_no
  | .aastore => match stk with
    | .ref v :: .int i :: .ref a :: st => s_nx (len = 1 ∧ g_c h a = 106 ∧ g_z h ≤ a ∧ g_c h v = tb_p ∧ vp_in i (g_n h a)) (pc + 1) loc st (p_r h a i.toNatClampNeg (some v))
    | _ => s_no
  | .arraylength => match stk with
    | .ref a :: st => s_nx (len = 1 ∧ 101 ≤ g_c h a ∧ g_c h a ≤ 107) (pc + 1) loc (.int (Int32.ofNat (g_n h a)) :: st) h
    | _ => s_no
  | .checkcast idx => match stk with
    | .ref a :: st => s_nx (len = 3 ∧ tX (tb_o Y * 65536 + idx) = true ∧ g_c h a = 103 ∧ g_z h ≤ a) (pc + 3) loc (.ref a :: st) h
    | _ => s_no
  | .newarray ty => match stk with
    | .int n :: st => s_al (len = 2 ∧ ¬ n < 0 ∧ n.toNatClampNeg ≤ 67108864 ∧ ¬ tb_t ty = 0) n.toNatClampNeg (pc + 2) loc (.ref (g_t h) :: st) (p_N h (tb_t ty) n.toNatClampNeg)
    | _ => s_no
  | .anewarray idx => match stk with
    | .int n :: st => s_al (len = 3 ∧ ¬ n < 0 ∧ n.toNatClampNeg ≤ 67108864 ∧ tA (tb_o Y * 65536 + idx) = true) n.toNatClampNeg (pc + 3) loc (.ref (g_t h) :: st) (p_N h 106 n.toNatClampNeg)
    | _ => s_no
  | .new idx => s_nw len Y pc idx loc stk h
  | .invokestatic idx => s_inv true len Y pc idx loc stk h
  | .invokevirtual idx => s_inv false len Y pc idx loc stk h
  | .invokespecial idx => s_spe len Y pc idx loc stk h
  | .ireturn => match stk with
    | .int v :: st => s_ret (len = 1 ∧ rkd (tb_r Y) ≠ 1 ∧ rkd (tb_r Y) ≠ 2 ∧ rkd (tb_r Y) ≠ 9 ∧ kok (rkd (tb_r Y)) v) st (some (.int v))
    | _ => s_no
  | .lreturn => match stk with
    | .long v :: st => s_ret (len = 1 ∧ rkd (tb_r Y) = 1) st (some (.long v))
    | _ => s_no
  | .areturn => match stk with
    | .ref v :: st => s_ret (len = 1 ∧ rkd (tb_r Y) = 2) st (some (.ref v))
    | _ => s_no
  | .return_ => s_ret (len = 1 ∧ rkd (tb_r Y) = 9) stk none
  | _ => s_no
/-- pool numbers are small, jumps stay in the code -/
def gd (pc : Nat) (ins : Instr) : Bool := match ins with
  | .getfield i => Nat.ble i 65535
  | .putfield i => Nat.ble i 65535
  | .getstatic i => Nat.ble i 65535
  | .ldc i => Nat.ble i 65535
  | .ldc_w i => Nat.ble i 65535
  | .ldc2_w i => Nat.ble i 65535
  | .checkcast i => Nat.ble i 65535
  | .anewarray i => Nat.ble i 65535
  | .new i => Nat.ble i 65535 && Nat.ble pc 65535
  | .invokestatic i => Nat.ble i 65535
  | .invokevirtual i => Nat.ble i 65535
  | .invokespecial i => Nat.ble i 65535
  | .ifCond _ o => decide (0 ≤ (pc : Int) + o)
  | .if_icmp _ o => decide (0 ≤ (pc : Int) + o)
  | .ifnull o => decide (0 ≤ (pc : Int) + o)
  | .ifnonnull o => decide (0 ≤ (pc : Int) + o)
  | .goto o => decide (0 ≤ (pc : Int) + o)
  | .tableswitch d _ _ os => decide (0 ≤ (pc : Int) + d) && os.toList.all (fun o => decide (0 ≤ (pc : Int) + o))
  | .lookupswitch d ps => decide (0 ≤ (pc : Int) + d) && ps.toList.all (fun q => decide (0 ≤ (pc : Int) + q.2 ∧ (Int32.ofInt q.1).toInt = q.1))
  | _ => true
def step (Y pc : Nat) (loc stk : List Value) (h : MH) : SR := match decode (tb_b Y) pc with
  | .ok (ins, len) => if gd pc ins = true then stp Y pc ins len loc stk h else s_no
  | _ => s_no
/-- the handler for a kind of exception at a place -/
def hnd (Y pc E : Nat) : Option Nat := ((hhY Y).find? (fun x => Nat.ble x.1 pc && (Nat.blt pc x.2.1 && tQ (tb_o Y * 65536 + x.2.2.2) == E))).map (fun x => x.2.2.1)
/-- behind a call: on, or into the handler, or out -/
def Kc (X : MX) (Y pc pc' : Nat) (loc rest : List Value) (bc bs : Nat) (Q : MR → MH → Prop) : MR → MH → Prop := fun r h => match r with
  | .inl v => X Y pc' loc (v.toList ++ rest) h bc bs Q
  | .inr E => if hhY Y = [] then Q (.inr E) h else match hnd Y pc E with
    | some hp => ∀ q : Nat, X Y hp loc [.ref q] h bc bs Q
    | none => False
def Fi (X : MX) (Y pc : Nat) (loc : List Value) (h : MH) (bc bs : Nat) (Q : MR → MH → Prop) (s : SR) : Prop :=
  s.1 ∧ match s.2 with
  | .inl (k, n, pc', loc', stk', h') => k ≤ bc ∧ n ≤ bs ∧ X Y pc' loc' stk' h' (bc - k) (bs - n) Q
  | .inr (.inl (alts, loc', stk')) => ∀ q ∈ alts, q.1 → X Y q.2 loc' stk' h bc bs Q
  | .inr (.inr (.inl (Z, mc, ms, args, pc', rest))) => mc ≤ bc ∧ ms ≤ bs ∧ ((ent args).length ≤ tb_m Z ∧ tb_d Z + 1 ≤ tb_d Y) ∧ (rest.map (fun v => v.category)).sum ≤ 8 ∧ X Z 0 (entN (tb_m Z) args) [] h mc ms (Kc X Y pc pc' loc rest (bc - mc) (bs - ms) Q)
  | .inr (.inr (.inr (.inl v))) => Q (.inl v) h
  | .inr (.inr (.inr (.inr E))) => 1 ≤ bc ∧ 6 ≤ bs ∧ ∀ t : Nat, g_t h ≤ t → Q (.inr E) (p_T h t)
def mono (X : MX) : Prop := ∀ Y pc loc stk h bc bs (Q Q' : MR → MH → Prop), (∀ r h', Q r h' → Q' r h') → X Y pc loc stk h bc bs Q → X Y pc loc stk h bc bs Q'
theorem Kc_mono {X X' : MX} (hX : mono X') (hs : ∀ Y pc loc stk h bc bs Q, X Y pc loc stk h bc bs Q → X' Y pc loc stk h bc bs Q) {Y pc pc' : Nat} {loc rest : List Value} {bc bs : Nat} {Q Q' : MR → MH → Prop} (hQ : ∀ r h', Q r h' → Q' r h') (r : MR) (h : MH) (k : Kc X Y pc pc' loc rest bc bs Q r h) : Kc X' Y pc pc' loc rest bc bs Q' r h := by
  cases r with
  | inl v => exact hX _ _ _ _ _ _ _ _ _ hQ (hs _ _ _ _ _ _ _ _ k)
  | inr E =>
    simp only [Kc] at k ⊢
    by_cases hy : hhY Y = []
    · rw [if_pos hy] at k ⊢
      exact hQ _ _ k
    · rw [if_neg hy] at k ⊢
      cases hp : hnd Y pc E with
      | none => simp only [hp] at k
      | some p => simp only [hp] at k ⊢; exact fun q => hX _ _ _ _ _ _ _ _ _ hQ (hs _ _ _ _ _ _ _ _ (k q))
theorem Fi_mono {X X' : MX} (hX : mono X') (hs : ∀ Y pc loc stk h bc bs Q, X Y pc loc stk h bc bs Q → X' Y pc loc stk h bc bs Q) {Y pc : Nat} {loc : List Value} {h : MH} {bc bs : Nat} {Q Q' : MR → MH → Prop} (hQ : ∀ r h', Q r h' → Q' r h') {s : SR} (k : Fi X Y pc loc h bc bs Q s) : Fi X' Y pc loc h bc bs Q' s := by
  obtain ⟨c, s⟩ := s
  obtain ⟨hc, k⟩ := k
  refine ⟨hc, ?_⟩
  rcases s with ⟨k1, n, pc', loc', stk', h'⟩ | ⟨alts, loc', stk'⟩ | ⟨Z, mc, ms, args, pc', rest⟩ | v | E
  · exact ⟨k.1, k.2.1, hX _ _ _ _ _ _ _ _ _ hQ (hs _ _ _ _ _ _ _ _ k.2.2)⟩
  · exact fun q hq hq1 => hX _ _ _ _ _ _ _ _ _ hQ (hs _ _ _ _ _ _ _ _ (k q hq hq1))
  · exact ⟨k.1, k.2.1, k.2.2.1, k.2.2.2.1, hX _ _ _ _ _ _ _ _ _ (Kc_mono hX hs hQ) (hs _ _ _ _ _ _ _ _ k.2.2.2.2)⟩
  · exact hQ _ _ k
  · exact ⟨k.1, k.2.1, fun t ht => hQ _ _ (k.2.2 t ht)⟩
/-- it comes to an end with Q: the least such predicate -/
def Ok (Y pc : Nat) (loc stk : List Value) (h : MH) (bc bs : Nat) (Q : MR → MH → Prop) : Prop :=
  ∀ X : MX, mono X → (∀ Y pc loc stk h bc bs Q, Fi X Y pc loc h bc bs Q (step Y pc loc stk h) → X Y pc loc stk h bc bs Q) → X Y pc loc stk h bc bs Q
theorem Ok_mono : mono Ok := fun _ _ _ _ _ _ _ _ _ hQ k X hX hc => hX _ _ _ _ _ _ _ _ _ hQ (k X hX hc)
theorem Ok_in {Y pc : Nat} {loc stk : List Value} {h : MH} {bc bs : Nat} {Q : MR → MH → Prop} (k : Fi Ok Y pc loc h bc bs Q (step Y pc loc stk h)) : Ok Y pc loc stk h bc bs Q :=
  fun X hX hc => hc _ _ _ _ _ _ _ _ (Fi_mono hX (fun _ _ _ _ _ _ _ _ k => k X hX hc) (fun _ _ q => q) k)
theorem Ok_out {Y pc : Nat} {loc stk : List Value} {h : MH} {bc bs : Nat} {Q : MR → MH → Prop} (k : Ok Y pc loc stk h bc bs Q) : Fi Ok Y pc loc h bc bs Q (step Y pc loc stk h) :=
  k (fun Y pc loc stk h bc bs Q => Fi Ok Y pc loc h bc bs Q (step Y pc loc stk h))
    (fun _ _ _ _ _ _ _ _ _ hQ k => Fi_mono Ok_mono (fun _ _ _ _ _ _ _ _ k => k) hQ k)
    (fun _ _ _ _ _ _ _ _ k => Fi_mono Ok_mono (fun _ _ _ _ _ _ _ _ k => Ok_in k) (fun _ _ q => q) k)
theorem Ok_eq {Y pc : Nat} {loc stk : List Value} {h : MH} {bc bs : Nat} {Q : MR → MH → Prop} : Ok Y pc loc stk h bc bs Q ↔ Fi Ok Y pc loc h bc bs Q (step Y pc loc stk h) := ⟨Ok_out, Ok_in⟩

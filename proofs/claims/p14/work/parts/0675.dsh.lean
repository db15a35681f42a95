/-! long code: an instruction is read in a window of sixty-four bytes -/
abbrev Dec (α : Type) : Type := Jvm.ClassFile.Decoder α
def wB (k : Nat) (c : ByteArray) : ByteArray := ⟨⟨(c.data.toList.drop k).take 64⟩⟩
/-- what the window answers, the code answers k further on -/
def Sim (k : Nat) (c : ByteArray) {α : Type} (d d' : Dec α) : Prop := ∀ (p : Nat) (a : α) (q : Nat), d.runAt (wB k c) p = .ok (a, q) → d'.runAt c (p + k) = .ok (a, q + k)
theorem run_bind {α β : Type} (d : Dec α) (f : α → Dec β) (C : ByteArray) (p : Nat) : (d >>= f).runAt C p = (d.runAt C p >>= fun x => (f x.1).runAt C x.2) := by
  show (do let (a, s) ← d.runAt C p; (f a).runAt C s : Except DecodeError (β × Nat)) = _
  cases d.runAt C p <;> rfl
theorem run_map {α β : Type} (g : α → β) (d : Dec α) (C : ByteArray) (p : Nat) : (g <$> d).runAt C p = (d.runAt C p >>= fun x => .ok (g x.1, x.2)) := by
  show (do let (a, s) ← d.runAt C p; .ok (g a, s) : Except DecodeError (β × Nat)) = _
  cases d.runAt C p <;> rfl
theorem run_u1 (C : ByteArray) (p : Nat) : (Reader.u1 : Dec Nat).runAt C p = match C.data.toList[p]? with
    | some b => .ok (b.toNat, p + 1)
    | none => .error (HasTruncated.truncated p) := by
  show (do if h : p < C.size then do set (p + 1); Pure.pure C[p].toNat else MonadExcept.throw (HasTruncated.truncated p) : Dec Nat) C p = _
  by_cases hi : p < C.size
  · rw [dif_pos hi, List.getElem?_eq_getElem (by simpa using hi)]
    rfl
  · rw [dif_neg hi, List.getElem?_eq_none (by simpa using hi)]
    rfl
section
variable {k : Nat} {c : ByteArray}
theorem wB_at {p : Nat} {b : UInt8} (h : (wB k c).data.toList[p]? = some b) : c.data.toList[p + k]? = some b := by
  replace h : ((c.data.toList.drop k).take 64)[p]? = some b := h
  rw [List.getElem?_take] at h
  by_cases hp : p < 64
  · rw [if_pos hp, List.getElem?_drop, Nat.add_comm] at h
    exact h
  · rw [if_neg hp] at h
    cases h
theorem Sim_pure {α : Type} (a : α) : Sim k c (Pure.pure a) (Pure.pure a) := by
  intro p b q h
  have h' : (Except.ok (a, p) : Except DecodeError (α × Nat)) = .ok (b, q) := h
  cases h'
  rfl
theorem Sim_u1 : Sim k c Reader.u1 Reader.u1 := by
  intro p a q e
  rw [run_u1] at e ⊢
  cases hb : (wB k c).data.toList[p]? with
  | none =>
    rw [hb] at e
    have e' : (Except.error (HasTruncated.truncated p) : Except DecodeError (Nat × Nat)) = .ok (a, q) := e
    cases e'
  | some b =>
    rw [hb] at e
    rw [wB_at hb]
    have e' : (Except.ok (b.toNat, p + 1) : Except DecodeError (Nat × Nat)) = .ok (a, q) := e
    cases e'
    show (Except.ok (b.toNat, p + k + 1) : Except DecodeError (Nat × Nat)) = .ok (b.toNat, p + 1 + k)
    rw [Nat.add_right_comm]
theorem Sim_bind {α β : Type} {d d' : Dec α} {f f' : α → Dec β} (h : Sim k c d d') (g : ∀ a, Sim k c (f a) (f' a)) : Sim k c (d >>= f) (d' >>= f') := by
  intro p b q e
  rw [run_bind] at e ⊢
  cases hx : d.runAt (wB k c) p with
  | error z =>
    rw [hx] at e
    have e' : (Except.error z : Except DecodeError (β × Nat)) = .ok (b, q) := e
    cases e'
  | ok x =>
    obtain ⟨a, q1⟩ := x
    rw [hx] at e
    rw [h p a q1 hx]
    exact g a q1 b q e
theorem Sim_map {α β : Type} {d d' : Dec α} (g : α → β) (h : Sim k c d d') : Sim k c (g <$> d) (g <$> d') := by
  intro p b q e
  rw [run_map] at e ⊢
  cases hx : d.runAt (wB k c) p with
  | error z =>
    rw [hx] at e
    have e' : (Except.error z : Except DecodeError (β × Nat)) = .ok (b, q) := e
    cases e'
  | ok x =>
    obtain ⟨a, q1⟩ := x
    rw [hx] at e
    have e' : (Except.ok (g a, q1) : Except DecodeError (β × Nat)) = .ok (b, q) := e
    cases e'
    rw [h p a _ hx]
    rfl
theorem Sim_u2 : Sim k c Reader.u2 Reader.u2 := Sim_bind Sim_u1 fun _ => Sim_bind Sim_u1 fun _ => Sim_pure _
theorem Sim_s1 : Sim k c Reader.s1 Reader.s1 := Sim_map _ Sim_u1
theorem Sim_s2 : Sim k c Reader.s2 Reader.s2 := Sim_map _ Sim_u2
def opAt (C : ByteArray) (p : Nat) : Nat := match C.data.toList[p]? with
  | some b => b.toNat
  | none => 999
def opL : List Nat := [42, 43, 44, 45, 21, 96, 46, 89, 3, 4, 5, 6, 7, 8, 182, 184, 183, 187, 180, 167, 54, 58, 25, 76, 77, 78, 87, 88, 100, 126, 133, 148, 172, 190, 2, 153, 154, 155, 156, 157, 158, 159, 160, 161, 162, 163, 164, 16, 17, 132]
theorem Sim_op {β : Type} {f f' : Nat → Dec β} (g : ∀ o ∈ opL, Sim k c (f o) (f' o)) (p : Nat) (b : β) (q : Nat) (h1 : opAt (wB k c) p ∈ opL) (e : (Reader.u1 >>= f).runAt (wB k c) p = .ok (b, q)) : (Reader.u1 >>= f').runAt c (p + k) = .ok (b, q + k) := by
  rw [run_bind] at e ⊢
  cases hx : (Reader.u1 : Dec Nat).runAt (wB k c) p with
  | error z =>
    rw [hx] at e
    have e' : (Except.error z : Except DecodeError (β × Nat)) = .ok (b, q) := e
    cases e'
  | ok x =>
    obtain ⟨o, q1⟩ := x
    rw [hx] at e
    rw [Sim_u1 p o q1 hx]
    have ho : opAt (wB k c) p = o := by
      rw [run_u1] at hx
      unfold opAt
      cases hb : (wB k c).data.toList[p]? with
      | none =>
        rw [hb] at hx
        have e' : (Except.error (HasTruncated.truncated p) : Except DecodeError (Nat × Nat)) = .ok (o, q1) := hx
        cases e'
      | some b9 =>
        rw [hb] at hx
        have e' : (Except.ok (b9.toNat, p + 1) : Except DecodeError (Nat × Nat)) = .ok (o, q1) := hx
        cases e'
        rfl
    rw [ho] at h1
    exact g o h1 q1 b q e
end
theorem sim_c {P : Nat → Prop} {a : Nat} {l : List Nat} (h : P a) (hl : ∀ x ∈ l, P x) : ∀ x ∈ a :: l, P x := List.forall_mem_cons.mpr ⟨h, hl⟩
theorem sim_n {P : Nat → Prop} : ∀ x ∈ ([] : List Nat), P x := fun _ h => absurd h List.not_mem_nil
set_option maxRecDepth 16384 in
set_option maxHeartbeats 4000000 in
theorem Sim_instr {k : Nat} {c : ByteArray} {p q : Nat} {a : Instr} (h1 : opAt (wB k c) p ∈ opL) (hr : (Decoder.instr p).runAt (wB k c) p = .ok (a, q)) : (Decoder.instr (p + k)).runAt c (p + k) = .ok (a, q + k) := by
  delta Decoder.instr at hr ⊢
  refine Sim_op ?_ p a q h1 hr
  unfold opL
  refine sim_c (Sim_pure _) ?_
  refine sim_c (Sim_pure _) ?_
  refine sim_c (Sim_pure _) ?_
  refine sim_c (Sim_pure _) ?_
  refine sim_c (Sim_bind Sim_u1 fun _ => Sim_pure _) ?_
  refine sim_c (Sim_pure _) ?_
  refine sim_c (Sim_pure _) ?_
  refine sim_c (Sim_pure _) ?_
  refine sim_c (Sim_pure _) ?_
  refine sim_c (Sim_pure _) ?_
  refine sim_c (Sim_pure _) ?_
  refine sim_c (Sim_pure _) ?_
  refine sim_c (Sim_pure _) ?_
  refine sim_c (Sim_pure _) ?_
  refine sim_c (Sim_bind Sim_u2 fun _ => Sim_pure _) ?_
  refine sim_c (Sim_bind Sim_u2 fun _ => Sim_pure _) ?_
  refine sim_c (Sim_bind Sim_u2 fun _ => Sim_pure _) ?_
  refine sim_c (Sim_bind Sim_u2 fun _ => Sim_pure _) ?_
  refine sim_c (Sim_bind Sim_u2 fun _ => Sim_pure _) ?_
  refine sim_c (Sim_bind Sim_s2 fun _ => Sim_pure _) ?_
  refine sim_c (Sim_bind Sim_u1 fun _ => Sim_pure _) ?_
  refine sim_c (Sim_bind Sim_u1 fun _ => Sim_pure _) ?_
  refine sim_c (Sim_bind Sim_u1 fun _ => Sim_pure _) ?_
  refine sim_c (Sim_pure _) ?_
  refine sim_c (Sim_pure _) ?_
  refine sim_c (Sim_pure _) ?_
  refine sim_c (Sim_pure _) ?_
  refine sim_c (Sim_pure _) ?_
  refine sim_c (Sim_pure _) ?_
  refine sim_c (Sim_pure _) ?_
  refine sim_c (Sim_pure _) ?_
  refine sim_c (Sim_pure _) ?_
  refine sim_c (Sim_pure _) ?_
  refine sim_c (Sim_pure _) ?_
  refine sim_c (Sim_pure _) ?_
  refine sim_c (Sim_bind Sim_s2 fun _ => Sim_pure _) ?_
  refine sim_c (Sim_bind Sim_s2 fun _ => Sim_pure _) ?_
  refine sim_c (Sim_bind Sim_s2 fun _ => Sim_pure _) ?_
  refine sim_c (Sim_bind Sim_s2 fun _ => Sim_pure _) ?_
  refine sim_c (Sim_bind Sim_s2 fun _ => Sim_pure _) ?_
  refine sim_c (Sim_bind Sim_s2 fun _ => Sim_pure _) ?_
  refine sim_c (Sim_bind Sim_s2 fun _ => Sim_pure _) ?_
  refine sim_c (Sim_bind Sim_s2 fun _ => Sim_pure _) ?_
  refine sim_c (Sim_bind Sim_s2 fun _ => Sim_pure _) ?_
  refine sim_c (Sim_bind Sim_s2 fun _ => Sim_pure _) ?_
  refine sim_c (Sim_bind Sim_s2 fun _ => Sim_pure _) ?_
  refine sim_c (Sim_bind Sim_s2 fun _ => Sim_pure _) ?_
  refine sim_c (Sim_bind Sim_s1 fun _ => Sim_pure _) ?_
  refine sim_c (Sim_bind Sim_s2 fun _ => Sim_pure _) ?_
  refine sim_c (Sim_bind Sim_u1 fun _ => Sim_bind Sim_s1 fun _ => Sim_pure _) ?_
  exact sim_n
def okD (k : Nat) (c : ByteArray) (p : Nat) (i : Instr) (n : Nat) : Bool := decide (opAt (wB k c) p ∈ opL) && decide (decode (wB k c) p = .ok (i, n))
theorem dec_of {k : Nat} {c : ByteArray} {p : Nat} {i : Instr} {n : Nat} (h : okD k c p i n = true) : decode c (p + k) = .ok (i, n) := by
  unfold okD at h
  rw [Bool.and_eq_true] at h
  obtain ⟨h1, h2⟩ := h
  replace h1 := of_decide_eq_true h1
  replace h2 := of_decide_eq_true h2
  have e : ∀ (C : ByteArray) (j : Nat), decode C j = ((Decoder.instr j).runAt C j >>= fun x => .ok (x.1, x.2 - j)) := fun C j => by
    unfold decode
    cases (Decoder.instr j).runAt C j <;> rfl
  rw [e] at h2 ⊢
  cases hr : (Decoder.instr p).runAt (wB k c) p with
  | error z =>
    rw [hr] at h2
    have e' : (Except.error z : Except DecodeError (Instr × Nat)) = .ok (i, n) := h2
    cases e'
  | ok x =>
    obtain ⟨a, q⟩ := x
    rw [hr] at h2
    have h3 : (Except.ok (a, q - p) : Except DecodeError (Instr × Nat)) = .ok (i, n) := h2
    rw [Sim_instr h1 hr]
    show (Except.ok (a, q + k - (p + k)) : Except DecodeError (Instr × Nat)) = _
    rw [Nat.add_sub_add_right]
    exact h3

set_option maxRecDepth 16384
/-! long code: an instruction is read in a window of sixty-four bytes -/
abbrev Dec (α : Type) : Type := Jvm.ClassFile.Decoder α
theorem run_bind {α β : Type} (d : Dec α) (f : α → Dec β) (C : ByteArray) (p : Nat) : (d >>= f).runAt C p = (d.runAt C p >>= fun x => (f x.1).runAt C x.2) := by
  show (do let (a, s) ← d.runAt C p; (f a).runAt C s : Except DecodeError (β × Nat)) = _
  cases d.runAt C p <;> rfl
theorem run_map {α β : Type} (g : α → β) (d : Dec α) (C : ByteArray) (p : Nat) : (g <$> d).runAt C p = (d.runAt C p >>= fun x => .ok (g x.1, x.2)) := by
  show (do let (a, s) ← d.runAt C p; .ok (g a, s) : Except DecodeError (β × Nat)) = _
  cases d.runAt C p <;> rfl
theorem run_u1 (C : ByteArray) (p : Nat) : (Reader.u1 : Dec Nat).runAt C p = match C.data.toList[p]? with
    | some b => .ok (b.toNat, p + 1)
    | none => .error (HasTruncated.truncated p) := by
  show (do if h : p < C.size then do set (p + 1); Pure.pure C[p].toNat else MonadExcept.throw (HasTruncated.truncated p) : Dec Nat) C p = _
  by_cases hi : p < C.size
  · rw [dif_pos hi, List.getElem?_eq_getElem (by simpa using hi)]
    rfl
  · rw [dif_neg hi, List.getElem?_eq_none (by simpa using hi)]
    rfl
section
variable {k : Nat} {c : ByteArray}
end
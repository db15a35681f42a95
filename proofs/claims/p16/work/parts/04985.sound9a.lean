/-! the calls by their kinds -/
def nOf (y : MethodName) (n : Nat) : Bool := decide ((parseMethodDescriptor y.desc).map (fun d => d.parameters.length) = some n)
theorem nOf_of {y : MethodName} {n : Nat} (h : nOf y n = true) : ∀ sig, parseMethodDescriptor y.desc = some sig → n = sig.parameters.length := by
  intro sig hs
  simp only [nOf, decide_eq_true_eq, hs] at h
  exact (Option.some.inj h).symm
def okM (e : Nat × (Nat × Nat × Nat × Nat) × List Nat) : Bool :=
  if 7 ≤ e.2.1.2.1 ∧ e.2.1.2.1 ≤ 11 then true else okZ e.2.1.1 && (nOf (tb_y e.2.1.1) e.2.1.2.2.1 && (match e.2.1.2.1, e.2.2 with
  | 0, [a, b, c] => atW a (.methodLink (cn (e.1 / 65536)) (e.1 % 65536) (tb_y e.2.1.1)) && (atW b (.static (tb_y e.2.1.1)) && atW c (.initialized (tb_y e.2.1.1).cls))
  | 1, [a, b, c, d] => atW a (.methodLink (cn (e.1 / 65536)) (e.1 % 65536) (tb_y e.2.1.1)) && (atW b (.instanceMethod (tb_y e.2.1.1)) && (atW c (.selects (tb_y e.2.1.1).cls (tb_y e.2.1.1) (tb_y e.2.1.1)) && (atW d (.initialized (tb_y e.2.1.1).cls) && decide (1 ≤ e.2.1.2.2.2 ∧ e.2.1.2.2.2 ≤ 100 ∧ (cls[e.2.1.2.2.2 - 1]?).map (fun r => r.1) = some (tb_y e.2.1.1).cls ∧ hhY e.2.1.1 = []))))
  | 5, [a, b, c, d, f, g, i, j, X] => okZ X && (decide (tb_y X = ⟨"java/lang/AbstractStringBuilder", (tb_y e.2.1.1).name, (tb_y e.2.1.1).desc⟩ ∧ hhY X = [] ∧ hhY e.2.1.1 = [] ∧ e.2.1.2.2.2 = 10) && (atW a (.methodLink (cn (e.1 / 65536)) (e.1 % 65536) (tb_y X)) && (atW b (.sameMethod (tb_y X).cls (tb_y X).cls (tb_y X).name (tb_y X).desc) && (atW d (.instanceMethod (tb_y e.2.1.1)) && (atW f (.initialized (tb_y e.2.1.1).cls) && (atW j (.instanceMethod (tb_y X)) && (atW c (.selects "java/lang/StringBuilder" (tb_y X) (tb_y e.2.1.1)) || decide (tb_y X = tb_y e.2.1.1 ∧ X ∈ sbX))))))))
  | _, _ => false))
theorem okM_app {α : Type} {f : α → Bool} {l : List α} (n : Nat) (h1 : (l.take n).all f = true) (h2 : (l.drop n).all f = true) : l.all f = true := by rw [← List.take_append_drop n l, List.all_append, h1, h2]; rfl
theorem okM_0 : ((tM_l.drop 0).take 64).all okM = true := by decide +kernel
theorem okM_1 : ((tM_l.drop 64).take 64).all okM = true := by decide +kernel
theorem okM_2 : ((tM_l.drop 128).take 64).all okM = true := by decide +kernel
theorem okM_3 : ((tM_l.drop 192).take 64).all okM = true := by decide +kernel
theorem okM_4 : ((tM_l.drop 256).take 64).all okM = true := by decide +kernel
theorem okM_5 : (tM_l.drop 320).all okM = true := by decide +kernel
theorem okM_t4 : (tM_l.drop 256).all okM = true := okM_app 64 okM_4 (by rw [List.drop_drop]; exact okM_5)
theorem okM_t3 : (tM_l.drop 192).all okM = true := okM_app 64 okM_3 (by rw [List.drop_drop]; exact okM_t4)
theorem okM_t2 : (tM_l.drop 128).all okM = true := okM_app 64 okM_2 (by rw [List.drop_drop]; exact okM_t3)
theorem okM_t1 : (tM_l.drop 64).all okM = true := okM_app 64 okM_1 (by rw [List.drop_drop]; exact okM_t2)
theorem okM_t0 : (tM_l.drop 0).all okM = true := okM_app 64 okM_0 (by rw [List.drop_drop]; exact okM_t1)
theorem okM_all : tM_l.all okM = true := okM_t0

/-! the calls by their kinds -/
def nOf (y : MethodName) (n : Nat) : Bool := decide ((parseMethodDescriptor y.desc).map (fun d => d.parameters.length) = some n)
theorem nOf_of {y : MethodName} {n : Nat} (h : nOf y n = true) : ∀ sig, parseMethodDescriptor y.desc = some sig → n = sig.parameters.length := by
  intro sig hs
  simp only [nOf, decide_eq_true_eq, hs] at h
  exact (Option.some.inj h).symm
def okM (e : Nat × (Nat × Nat × Nat × Nat) × List Nat) : Bool :=
  if 7 ≤ e.2.1.2.1 ∧ e.2.1.2.1 ≤ 11 then true else okZ e.2.1.1 && (nOf (tb_y e.2.1.1) e.2.1.2.2.1 && (match e.2.1.2.1, e.2.2 with
  | 0, [a, b, c] => atW a (.methodLink (cn (e.1 / 65536)) (e.1 % 65536) (tb_y e.2.1.1)) && (atW b (.static (tb_y e.2.1.1)) && atW c (.initialized (tb_y e.2.1.1).cls))
  | 1, [a, b, c, d] => atW a (.methodLink (cn (e.1 / 65536)) (e.1 % 65536) (tb_y e.2.1.1)) && (atW b (.instanceMethod (tb_y e.2.1.1)) && (atW c (.selects (tb_y e.2.1.1).cls (tb_y e.2.1.1) (tb_y e.2.1.1)) && (atW d (.initialized (tb_y e.2.1.1).cls) && decide (1 ≤ e.2.1.2.2.2 ∧ e.2.1.2.2.2 ≤ 100 ∧ (cls[e.2.1.2.2.2 - 1]?).map (fun r => r.1) = some (tb_y e.2.1.1).cls ∧ hhY e.2.1.1 = []))))
  | 5, [a, b, c, d, f, g, i, j, X] => okZ X && (decide (tb_y X = ⟨"java/lang/AbstractStringBuilder", (tb_y e.2.1.1).name, (tb_y e.2.1.1).desc⟩ ∧ hhY X = [] ∧ hhY e.2.1.1 = [] ∧ e.2.1.2.2.2 = 10) && (atW a (.methodLink (cn (e.1 / 65536)) (e.1 % 65536) (tb_y X)) && (atW b (.sameMethod (tb_y X).cls (tb_y X).cls (tb_y X).name (tb_y X).desc) && (atW d (.instanceMethod (tb_y e.2.1.1)) && (atW f (.initialized (tb_y e.2.1.1).cls) && (atW j (.instanceMethod (tb_y X)) && (atW c (.selects "java/lang/StringBuilder" (tb_y X) (tb_y e.2.1.1)) || (decide (tb_y X = tb_y e.2.1.1) && (atW g (.privateMethod (tb_y X)) && atW i (.instantiable "java/lang/StringBuilder" 4))))))))))
  | _, _ => false))

theorem u1 : (tM_l.filter (fun e => decide (e.2.1.2.1 = 1))).all (fun e => okZ e.2.1.1) = true := by decide +kernel
theorem u2 : (tM_l.filter (fun e => decide (e.2.1.2.1 = 1))).all (fun e => nOf (tb_y e.2.1.1) e.2.1.2.2.1) = true := by decide +kernel
theorem u3 : (tM_l.filter (fun e => decide (e.2.1.2.1 = 1))).all (fun e => match e.2.2 with | [a,b,c,d] => atW a (.methodLink (cn (e.1 / 65536)) (e.1 % 65536) (tb_y e.2.1.1)) | _ => false) = true := by decide +kernel
theorem u4 : (tM_l.filter (fun e => decide (e.2.1.2.1 = 1))).all (fun e => match e.2.2 with | [a,b,c,d] => atW b (.instanceMethod (tb_y e.2.1.1))  | _ => false) = true := by decide +kernel
theorem u5 : (tM_l.filter (fun e => decide (e.2.1.2.1 = 1))).all (fun e => match e.2.2 with | [a,b,c,d] => atW c (.selects (tb_y e.2.1.1).cls (tb_y e.2.1.1) (tb_y e.2.1.1))  | _ => false) = true := by decide +kernel
theorem u6 : (tM_l.filter (fun e => decide (e.2.1.2.1 = 1))).all (fun e => match e.2.2 with | [a,b,c,d] => atW d (.initialized (tb_y e.2.1.1).cls)   | _ => false) = true := by decide +kernel
theorem u7 : (tM_l.filter (fun e => decide (e.2.1.2.1 = 1))).all (fun e => match e.2.2 with | [a,b,c,d] => decide (1 ≤ e.2.1.2.2.2 ∧ e.2.1.2.2.2 ≤ 100 ∧ (cls[e.2.1.2.2.2 - 1]?).map (fun r => r.1) = some (tb_y e.2.1.1).cls ∧ hhY e.2.1.1 = [])  | _ => false) = true := by decide +kernel
theorem u8 : goodWord (.privateMethod ⟨"a", "b", "c"⟩) = true := by decide +kernel

set_option maxRecDepth 16384
/-! THE WHOLE: what the premise says of the start -/
theorem sel_privX {C : String} {y y0 : MethodName} {s : State} {args : Array Value} (he : y0.cls = y.cls) (hy : y.cls ≠ "java/lang/invoke/MethodHandle" ∧ y.cls ≠ "java/lang/invoke/VarHandle") (h0 : (Cond.selects C y0 y0).before args s = true) (hpriv : (Cond.privateMethod y).before args s = true) (hinst : (Cond.instanceMethod y).before args s = true) : (Cond.selects C y y).before args s = true := by
  obtain ⟨mk, methM, hnamed, hmethM, -, -⟩ := Cond.instanceMethod_spec hinst
  have hfound : s.methodFound? y.cls y.name y.desc = some mk := State.methodFound?_of_named hnamed hy
  have hcls := findClass_of_methodNamed hnamed
  simp only [Cond.before, Cond.holds, Cond.value] at h0
  cases hc : s.vm.findClass C with
  | none => simp [hc] at h0
  | some c =>
    cases hf : s.methodFound? y0.cls y0.name y0.desc with
    | none => simp [hc, hf] at h0
    | some r =>
      cases hn : s.methodNamed? y0 with
      | none => simp [hc, hf, hn] at h0
      | some m0 =>
        have hm0 := findClass_of_methodNamed hn
        rw [he, hcls] at hm0
        have hm1 : mk.cls = m0.cls := Option.some.inj hm0
        have hsel : selectMethod {} s.vm c mk = .method mk := selectMethod_private hmethM (Cond.privateMethod_at hpriv mk methM hnamed hmethM)
        have hk : ((s.vm.classes[mk.cls]?).any (!·.isInterface)) = true := by
          simp only [hc, hf, hn] at h0
          rw [hm1]
          cases hs : selectMethod {} s.vm c r <;> simp [hs] at h0
          · exact h0.2
        simp only [Cond.before, Cond.holds, Cond.value, hc, hfound, hnamed, hsel]
        simp [hk]
def yL1 : MethodName := ⟨"java/lang/AbstractStringBuilder", "isLatin1", "()Z"⟩
theorem sbs_ok {args : Array Value} {s : State} (hts : ∀ w ∈ lw_tbl, w.before args s = true) : ∀ w ∈ sbs, w.before args s = true := by
  have h0 := hts (.selects "java/lang/StringBuilder" yL1 yL1) (List.mem_of_getElem? (i := 457) (by decide +kernel))
  have a : ∀ X ∈ sbX, (tb_y X).cls = "java/lang/AbstractStringBuilder" := by decide +kernel
  have p : ∀ X ∈ sbX, (Cond.privateMethod (tb_y X)).before args s = true ∧ (Cond.instanceMethod (tb_y X)).before args s = true := by
    have q : ∀ {i j X : Nat}, lw_tbl[i]? = some (Cond.privateMethod (tb_y X)) → lw_tbl[j]? = some (Cond.instanceMethod (tb_y X)) → (Cond.privateMethod (tb_y X)).before args s = true ∧ (Cond.instanceMethod (tb_y X)).before args s = true := fun h1 h2 => ⟨hts _ (List.mem_of_getElem? h1), hts _ (List.mem_of_getElem? h2)⟩
    exact List.forall_mem_cons.mpr ⟨q (i := 422) (j := 423) (X := 246) (by decide +kernel) (by decide +kernel), List.forall_mem_cons.mpr ⟨q (i := 426) (j := 427) (X := 247) (by decide +kernel) (by decide +kernel), List.forall_mem_cons.mpr ⟨q (i := 499) (j := 500) (X := 255) (by decide +kernel) (by decide +kernel), List.forall_mem_cons.mpr ⟨q (i := 495) (j := 496) (X := 256) (by decide +kernel) (by decide +kernel), fun _ h => absurd h List.not_mem_nil⟩⟩⟩⟩
  intro w hw
  obtain ⟨X, hX, rfl⟩ := List.mem_map.mp hw
  have e := a X hX
  exact sel_privX (y0 := yL1) (by rw [e]; rfl) (by rw [e]; decide) h0 (p X hX).1 (p X hX).2
theorem Wd_ok {args : Array Value} {s : State} (hts : ∀ w ∈ lw_tbl, w.before args s = true) : ∀ w ∈ Wd, w.before args s = true := fun w hw => by
  rcases Wd_in hw with h | h
  · exact sbs_ok hts w h
  · exact hts w h
/-- the classes -/
def insW : List (Nat × Nat) := [(1023, 2), (197, 1), (98, 1), (115, 7), (109, 4), (208, 2), (90, 11), (1416, 6), (1409, 10), (214, 4), (558, 4)]
theorem cls_ins : ∀ c, c < cls.length → ∃ q, insW[c]? = some q ∧ (cls[c]?).map (fun r => some (Cond.instantiable r.1 q.2)) = some (lw_tbl[q.1]?) := by decide +kernel
theorem cls_known {args : Array Value} {s : State} (hts : ∀ w ∈ lw_tbl, w.before args s = true) : ∃ D : va_G, ∀ (c : Nat) (q : vw_C), cls[c]? = some q → u_Kn s q.1 q.2.1 q.2.2 (D.1 c) (D.2 c) := by
  have h : ∀ c : Nat, ∃ p : ClassId × (Nat → Nat), ∀ q, cls[c]? = some q → u_Kn s q.1 q.2.1 q.2.2 p.1 p.2 := by
    intro c
    cases hc : cls[c]? with
    | none => exact ⟨(0, fun _ => 0), fun q h => by cases h⟩
    | some r =>
      obtain ⟨q, hq, hw⟩ := cls_ins c (List.getElem?_eq_some_iff.mp hc).1
      rw [hc] at hw
      have hw2 : lw_tbl[q.1]? = some (Cond.instantiable r.1 q.2) := (Option.some.inj hw).symm
      obtain ⟨cC, iS, hk⟩ := u_known (T := r.2.1) (N := r.2.2) (Wd_ok hts) (okR_of hc).1 (hts _ (List.mem_of_getElem? hw2))
      exact ⟨(cC, iS), fun q h => by cases h; exact hk⟩
  obtain ⟨f, hf⟩ := Classical.axiomOfChoice h
  exact ⟨(fun c => (f c).1, fun c => (f c).2), fun c q hq => hf c q hq⟩
/-- the arrays' classes -/
theorem arr_known {args : Array Value} {s : State} (hts : ∀ w ∈ lw_tbl, w.before args s = true) : ∃ cA : Nat → ClassId, ∀ (k : Nat) (q : ClassId × FieldType), (tysW cA)[k]? = some q → ArrOfT s q.1 q.2 ∧ va_RA s q.1 q.2 := by
  have pr : ∀ (i : Nat) (ty : FieldType), lw_tbl[i]? = some (.arrayClass ty) → ∃ c, ArrOfT s c ty ∧ s.vm.findClass ("[" ++ ty.toString) = some c := by
    intro i ty hi
    obtain ⟨c, k, comp, h1, h2, h3⟩ := Cond.arrayClass_spec (hts _ (List.mem_of_getElem? hi))
    exact ⟨c, fun n z => ⟨fun k h => (by cases h), k, h2, comp, h3⟩, h1⟩
  obtain ⟨c1, a1, b1⟩ := pr 206 .int (by decide +kernel)
  obtain ⟨c2, a2, b2⟩ := pr 107 .long (by decide +kernel)
  obtain ⟨c3, a3, b3⟩ := pr 245 .byte (by decide +kernel)
  obtain ⟨c4, a4, b4⟩ := pr 253 .char (by decide +kernel)
  obtain ⟨c5, a5, b5⟩ := pr 1446 .boolean (by decide +kernel)
  obtain ⟨comp, c6, k6, h1, -, h2, h3, h4⟩ := Cond.arrayOver_spec (hts (.arrayOver (.object "SluiceshelfModel$Pane")) (List.mem_of_getElem? (i := 1415) (by decide +kernel)))
  refine ⟨fun k => if k = 101 then c1 else if k = 102 then c2 else if k = 103 then c3 else if k = 104 then c4 else if k = 105 then c5 else c6, fun k q hq => ?_⟩
  match k, hq with
  | 0, hq => cases hq; exact ⟨a1, b1⟩
  | 1, hq => cases hq; exact ⟨a2, b2⟩
  | 2, hq => cases hq; exact ⟨a3, b3⟩
  | 3, hq => cases hq; exact ⟨a4, b4⟩
  | 4, hq => cases hq; exact ⟨a5, b5⟩
  | 5, hq => cases hq; exact ⟨fun n z => ⟨fun k h => (by cases h), k6, h2, comp, h3⟩, k6, comp, h2, h3, h1, h4⟩
  | k + 6, hq => simp [tysW] at hq
/-! the constants -/
def fl0 : List Cond := flatC (Jvm.Cond.and given_1 narrow_1)
theorem dg_ones : ∀ j, j < 100 → fl0[12 + j]? = some (.eq (.elem (.static "java/lang/Integer" "DigitOnes" "[B") (.int (Int32.ofNat j))) (.int (Int32.ofNat (48 + j % 10)))) := by decide +kernel
theorem dg_tens : ∀ j, j < 100 → fl0[115 + j]? = some (.eq (.elem (.static "java/lang/Integer" "DigitTens" "[B") (.int (Int32.ofNat j))) (.int (Int32.ofNat (48 + j / 10)))) := by decide +kernel
def srW : List (Nat × Nat) := [(1205, 577), (1403, 701), (918, 378), (951, 400), (1012, 450), (1067, 475), (1071, 503), (1137, 542), (966, 424), (1267, 625), (1294, 663), (1556, 733), (1708, 754), (635, 291)]
theorem sr_all : ∀ k, k < tS_l.length → ∃ e q, tS_l[k]? = some e ∧ srW[k]? = some q ∧ lw_tbl[q.1]? = some (.stringRef e.1 e.2.1 e.2.2.1) ∧ fl0[q.2]? = some (.exactly (.string e.1 e.2.1) "java/lang/String") ∧ tS_l.find? (fun x => x.2.2.2 == e.2.2.2) = some e := by
  have h : ∀ k, k < tS_l.length → ((tS_l[k]?).bind fun e => (srW[k]?).map fun q => decide (lw_tbl[q.1]? = some (.stringRef e.1 e.2.1 e.2.2.1) ∧ fl0[q.2]? = some (.exactly (.string e.1 e.2.1) "java/lang/String") ∧ tS_l.find? (fun x => x.2.2.2 == e.2.2.2) = some e)) = some true := by decide +kernel
  intro k hk
  have z := h k hk
  cases he : tS_l[k]? with
  | none => rw [he] at z; cases z
  | some e =>
    cases hq : srW[k]? with
    | none => rw [he, hq] at z; cases z
    | some q =>
      rw [he, hq] at z
      have z2 := of_decide_eq_true (Option.some.inj z)
      exact ⟨e, q, rfl, rfl, z2.1, z2.2.1, z2.2.2⟩
theorem str_known {b : Nat} {s : State} (hts : ∀ w ∈ lw_tbl, w.before #[Value.ref b] s = true) (hq : ∀ c ∈ fl0, c.before #[Value.ref b] s = true) : ∃ ad : Nat → Nat, ∀ e ∈ tS_l, vk_R e.1 e.2.1 e.2.2.1 (ad e.2.2.2) s := by
  have h : ∀ j : Nat, ∃ a : Nat, ∀ e ∈ tS_l, e.2.2.2 = j → vk_R e.1 e.2.1 e.2.2.1 a s := by
    intro j
    by_cases hj : ∃ e ∈ tS_l, e.2.2.2 = j
    · obtain ⟨e, he, ej⟩ := hj
      obtain ⟨k, hk⟩ := List.getElem?_of_mem he
      obtain ⟨e1, q, h1, -, h2, h3, h4⟩ := sr_all k (List.getElem?_eq_some_iff.mp hk).1
      cases hk.symm.trans h1
      obtain ⟨a, c, cell, kC, q1, -⟩ := Cond.exactly_spec (hq _ (List.mem_of_getElem? h3))
      refine ⟨a, fun e2 he2 ej2 => ?_⟩
      obtain ⟨k2, hk2⟩ := List.getElem?_of_mem he2
      obtain ⟨e3, -, g1, -, -, -, g4⟩ := sr_all k2 (List.getElem?_eq_some_iff.mp hk2).1
      cases hk2.symm.trans g1
      rw [ej2] at g4
      rw [ej] at h4
      cases g4.symm.trans h4
      exact vk_R.of (hts _ (List.mem_of_getElem? h2)) q1
    · exact ⟨0, fun e he ej => absurd ⟨e, he, ej⟩ hj⟩
  obtain ⟨f, hf⟩ := Classical.axiomOfChoice h
  exact ⟨f, fun e he => hf _ e he rfl⟩
theorem dig_known {b : Nat} {s : State} {n : String} {i0 i1 : Nat} {g : Nat → Int32} (hq : ∀ c ∈ fl0, c.before #[Value.ref b] s = true) (h0 : fl0[i0]? = some (.arrayOf (.static "java/lang/Integer" n "[B") .byte)) (h1 : fl0[i0 + 1]? = some (.eq (.length (.static "java/lang/Integer" n "[B")) (.int 100))) (h2 : ∀ j, j < 100 → fl0[i1 + j]? = some (.eq (.elem (.static "java/lang/Integer" n "[B") (.int (Int32.ofNat j))) (.int (g j)))) : ∃ t, (Term.static "java/lang/Integer" n "[B").eval #[Value.ref b] s none [] s = some (.ref t) ∧ va_T .byte t 100 (fun j => .int (g j)) (Ab s.heap.size) s s.heap :=
  va_Tof (by decide) (hq _ (List.mem_of_getElem? h0)) (va_eqt (hq _ (List.mem_of_getElem? h1))) (fun j hj => va_eqt (hq _ (List.mem_of_getElem? (h2 j hj)))) (fun a ha z => Nat.not_le.mpr ha z)
/-! the memory at the start -/
def rdN (s : State) (a : Nat) : Nat := match s.heap[a]? with
  | some c => c.slots.size.toInt32.toNatClampNeg
  | none => 0
def rdI (s : State) (a k : Nat) : Int32 := match (s.heap[a]?).bind (fun c => c.slots[k]?) with
  | some (.int v) => v
  | _ => 0
def iniH (s : State) (b L K0 K1 ve vs tO tT : Nat) (ad : Nat → Nat) : MH :=
  (fun a => if a = b then 107 else if a = K0 ∨ a = K1 then 11 else if a = ve ∨ a = vs ∨ a = tO ∨ a = tT then 103 else 0,
   fun a => if a = b then L else rdN s a,
   fun a k => if a = K0 ∨ a = K1 then 0 else if a = b ∨ k < rdN s a then rdI s a k else 0,
   fun _ _ => 0,
   fun a k => if a = K0 ∧ k = 0 then some ve else if a = K1 ∧ k = 0 then some vs else none,
   s.heap.size, s.heap.size, ad)
theorem rd_T {s : State} {a N : Nat} {v : Nat → Int32} (hT : va_T .byte a N (fun j => .int (v j)) (Ab s.heap.size) s s.heap) (hN : N < 2147483648) : rdN s a = N ∧ ∀ j, j < N → rdI s a j = v j := by
  obtain ⟨cell, h1, h2, h3, h4, h5, h6, h7⟩ := hT
  refine ⟨?_, fun j hj => ?_⟩
  · unfold rdN
    rw [h1]
    show cell.slots.size.toInt32.toNatClampNeg = N
    rw [h5, n_cl hN]
  · unfold rdI
    rw [h1]
    show (match cell.slots[j]? with | some (.int v) => v | _ => 0) = v j
    rw [h6 j hj]
theorem ar_ne {s : State} {a : Nat} {c1 c2 : Cell} {t1 t2 : FieldType} (h1 : s.heap[a]? = some c1) (h2 : s.heap[a]? = some c2) (a1 : s.isArrayOf c1 t1) (a2 : s.isArrayOf c2 t2) : t1 = t2 := by
  cases h1.symm.trans h2
  obtain ⟨-, k1, q1, p1, r1⟩ := a1
  obtain ⟨-, k2, q2, p2, r2⟩ := a2
  cases q1.symm.trans q2
  cases r1.symm.trans r2
  rfl
theorem or_ne {s : State} {C : String} {cC : ClassId} {a : Nat} {c1 c2 : Cell} {t : FieldType} (hk : ClassAt s C cC) (h1 : s.heap[a]? = some c1) (h2 : s.heap[a]? = some c2) (e : s.vm.findClass C = some c1.cls) (a2 : s.isArrayOf c2 t) : False := by
  cases h1.symm.trans h2
  obtain ⟨f, kC, g1, g2⟩ := hk
  cases f.symm.trans e
  obtain ⟨-, k2, q2, p2, r2⟩ := a2
  cases g1.symm.trans q2
  rw [g2] at r2
  cases r2
theorem fit_d : ∀ j, j < 100 → fits .byte (.int (Int32.ofNat (48 + j % 10))) = true ∧ fits .byte (.int (Int32.ofNat (48 + j / 10))) = true := by decide +kernel
theorem fit_0 : fits .byte (.int 0) = true := by decide
theorem law_tb : tb_o LAW = tb_o LAW ∧ cn (tb_o LAW) = "SluiceshelfLaw" ∧ tb_i LAW = 0 ∧ hhY LAW = [] ∧ 11 ≤ tb_d LAW ∧ tb_d LAW ≤ 2048 ∧ 40 * tb_d LAW ≤ 84000 ∧ tb_m LAW = 7 := by decide +kernel
theorem tG_kind : ∀ e ∈ tG_l, (e.2.1 = .inl 1 ∧ e.2.2.1 = "java/lang/String" ∧ e.2.2.2.1 = "COMPACT_STRINGS" ∧ e.2.2.2.2.1 = "Z") ∨ (e.2.1 = .inr 13 ∧ e.2.2.1 = "java/lang/Integer" ∧ e.2.2.2.1 = "DigitOnes" ∧ e.2.2.2.2.1 = "[B") ∨ (e.2.1 = .inr 14 ∧ e.2.2.1 = "java/lang/Integer" ∧ e.2.2.2.1 = "DigitTens" ∧ e.2.2.2.2.1 = "[B") := by decide +kernel
theorem tS_strs : ∀ e ∈ tS_l, e.2.2.2 ≠ 13 ∧ e.2.2.2 ≠ 14 := by decide +kernel
theorem tS_two : ("SluiceshelfModel", 107, "", 11) ∈ tS_l ∧ ("SluiceshelfModel", 173, " ", 12) ∈ tS_l := by decide +kernel
/-- what the premise gives of the constants -/
def Ini (b L : Nat) (s : State) (D : va_G) (cA : Nat → ClassId) (h0 : MH) : Prop := Rel s.heap.size D cA h0 h0 s.heap ∧ SF s.heap.size D cA h0 s s.heap ∧ Cs h0 ∧ Scr b L h0
set_option maxHeartbeats 4000000 in
theorem ini_ok {b L : Nat} {xs : Nat → Int32} {s : State} (hts : ∀ w ∈ lw_tbl, w.before #[Value.ref b] s = true) (hq : ∀ c ∈ fl0, c.before #[Value.ref b] s = true) (hX : va_X b L xs s s.heap) (hbl : b < s.heap.size) (hL : L ≤ 256) : ∃ D cA h0, Ini b L s D cA h0 := by
  obtain ⟨D, hD⟩ := cls_known hts
  obtain ⟨cA, hA⟩ := arr_known hts
  obtain ⟨ad, had⟩ := str_known hts hq
  obtain ⟨tO, eO, TO⟩ := dig_known hq (i0 := 12 - 2) (i1 := 12) (by decide +kernel) (by decide +kernel) dg_ones
  obtain ⟨tT, eT, TT⟩ := dig_known hq (i0 := 115 - 2) (i1 := 115) (by decide +kernel) (by decide +kernel) dg_tens
  have hout : ∀ a : Nat, a < s.heap.size → ¬ Ab s.heap.size a := fun a ha z => Nat.not_le.mpr ha z
  obtain ⟨adK, adV, ⟨S1, S2⟩, S3⟩ := vk_Sof (args := #[Value.ref b]) (s := s) (N := 2) (tm := fun i => if i = 0 then .string "SluiceshelfModel" 107 else .string "SluiceshelfModel" 173) (len := [0, 1]) (byt := [[], [32]]) (A := Ab s.heap.size)
    (by decide)
    (fun i hi => by rcases (show i = 0 ∨ i = 1 by omega) with rfl | rfl; exact hq _ (List.mem_of_getElem? (i := 733) (by decide +kernel)); exact hq _ (List.mem_of_getElem? (i := 754) (by decide +kernel)))
    (fun i hi => by rcases (show i = 0 ∨ i = 1 by omega) with rfl | rfl; exact hq _ (List.mem_of_getElem? (i := 734) (by decide +kernel)); exact hq _ (List.mem_of_getElem? (i := 755) (by decide +kernel)))
    (fun i hi => by rcases (show i = 0 ∨ i = 1 by omega) with rfl | rfl; exact hq _ (List.mem_of_getElem? (i := 735) (by decide +kernel)); exact hq _ (List.mem_of_getElem? (i := 756) (by decide +kernel)))
    (fun i hi => by rcases (show i = 0 ∨ i = 1 by omega) with rfl | rfl; exact hq _ (List.mem_of_getElem? (i := 736) (by decide +kernel)); exact hq _ (List.mem_of_getElem? (i := 757) (by decide +kernel)))
    (fun i hi j hj => by
      rcases (show i = 0 ∨ i = 1 by omega) with rfl | rfl
      · exact absurd hj (Nat.not_lt_zero _)
      · have : j = 0 := by have : j < 1 := hj; omega
        subst this
        exact hq _ (List.mem_of_getElem? (i := 758) (by decide +kernel)))
    (fun i j hi hj hij => by
      have w := hq (.not (.eq (.string "SluiceshelfModel" 107) (.string "SluiceshelfModel" 173))) (List.mem_of_getElem? (i := 776) (by decide +kernel))
      rcases (show i = 0 ∨ i = 1 by omega) with rfl | rfl <;> rcases (show j = 0 ∨ j = 1 by omega) with rfl | rfl
      · exact absurd rfl hij
      · exact Or.inl w
      · exact Or.inr w
      · exact absurd rfl hij) hout
  obtain ⟨oE, fE1, fE2, tE⟩ := S1 0 (by decide)
  obtain ⟨oS, fS1, fS2, tS⟩ := S1 1 (by decide)
  have aE : ad 11 = adK 0 := by
    have z := (had _ tS_two.1).2
    have z2 := S3 0 (by decide)
    exact Value.ref.inj (Option.some.inj (z.symm.trans z2))
  have aS : ad 12 = adK 1 := by
    have z := (had _ tS_two.2).2
    have z2 := S3 1 (by decide)
    exact Value.ref.inj (Option.some.inj (z.symm.trans z2))
  have hKK : adK 0 ≠ adK 1 := fun z => absurd (S2 0 1 (by decide) (by decide) z) (by decide)
  generalize adK 0 = K0 at *
  generalize adK 1 = K1 at *
  generalize adV 0 = ve at *
  generalize adV 1 = vs at *
  have hStr : ClassAt s "java/lang/String" (D.1 10) := (hD 10 ("java/lang/String", uT11, 2) rfl).2
  have nb : ∀ a N f, va_T .byte a N f (Ab s.heap.size) s s.heap → a ≠ b := by
    rintro a N f ⟨c1, h1, h2, -⟩ rfl
    obtain ⟨c2, g1, g2, -⟩ := hX
    cases ar_ne h1 g1 h2 g2
  have nk : ∀ a N f, va_T .byte a N f (Ab s.heap.size) s s.heap → a ≠ K0 ∧ a ≠ K1 := by
    rintro a N f ⟨c1, h1, h2, -⟩
    refine ⟨?_, ?_⟩ <;> rintro rfl
    · obtain ⟨c2, g1, g2, g3, -⟩ := oE
      exact or_ne hStr g1 h1 g3 h2
    · obtain ⟨c2, g1, g2, g3, -⟩ := oS
      exact or_ne hStr g1 h1 g3 h2
  have kb : K0 ≠ b ∧ K1 ≠ b := by
    obtain ⟨c1, h1, h2, -⟩ := hX
    refine ⟨?_, ?_⟩ <;> rintro rfl
    · obtain ⟨c2, g1, g2, g3, -⟩ := oE
      exact or_ne hStr g1 h1 g3 h2
    · obtain ⟨c2, g1, g2, g3, -⟩ := oS
      exact or_ne hStr g1 h1 g3 h2
  have lt : ∀ a N f, va_T .byte a N f (Ab s.heap.size) s s.heap → a < s.heap.size := by
    rintro a N f ⟨c1, h1, -⟩
    exact (Array.getElem?_eq_some_iff.mp h1).1
  have lk : K0 < s.heap.size ∧ K1 < s.heap.size := by
    obtain ⟨c2, g1, -⟩ := oE
    obtain ⟨c3, g2, -⟩ := oS
    exact ⟨(Array.getElem?_eq_some_iff.mp g1).1, (Array.getElem?_eq_some_iff.mp g2).1⟩
  have tE' : va_T .byte ve 0 (fun _ => .int 0) (Ab s.heap.size) s s.heap := by
    obtain ⟨c, h1, h2, h3, h4, h5, h6, h7⟩ := tE
    exact ⟨c, h1, h2, h3, h4, h5, fun j hj => absurd hj (Nat.not_lt_zero _), h7⟩
  have tS' : va_T .byte vs 1 (fun _ => .int 32) (Ab s.heap.size) s s.heap := by
    obtain ⟨c, h1, h2, h3, h4, h5, h6, h7⟩ := tS
    refine ⟨c, h1, h2, h3, h4, h5, fun j hj => ?_, h7⟩
    have : j = 0 := by omega
    subst this
    exact h6 0 (by decide)
  have had2 : ∀ e ∈ tS_l, vk_R e.1 e.2.1 e.2.2.1 (if e.2.2.2 = 13 then tO else if e.2.2.2 = 14 then tT else ad e.2.2.2) s := fun e he => by
    rw [if_neg (tS_strs e he).1, if_neg (tS_strs e he).2]
    exact had e he
  generalize hh0 : iniH s b L K0 K1 ve vs tO tT (fun j => if j = 13 then tO else if j = 14 then tT else ad j) = h0
  have gt0 : g_t h0 = s.heap.size := by rw [← hh0]; rfl
  have gz0 : g_z h0 = s.heap.size := by rw [← hh0]; rfl
  have ga0 : ∀ j, g_a h0 j = if j = 13 then tO else if j = 14 then tT else ad j := fun j => by rw [← hh0]; rfl
  have gc0 : ∀ a, g_c h0 a = if a = b then 107 else if a = K0 ∨ a = K1 then 11 else if a = ve ∨ a = vs ∨ a = tO ∨ a = tT then 103 else 0 := fun a => by rw [← hh0]; rfl
  have gn0 : ∀ a, g_n h0 a = if a = b then L else rdN s a := fun a => by rw [← hh0]; rfl
  have gi0 : ∀ a k, g_i h0 a k = if a = K0 ∨ a = K1 then 0 else if a = b ∨ k < rdN s a then rdI s a k else 0 := fun a k => by rw [← hh0]; rfl
  have gr0 : ∀ a k, g_r h0 a k = if a = K0 ∧ k = 0 then some ve else if a = K1 ∧ k = 0 then some vs else none := fun a k => by rw [← hh0]; rfl
  have gaE : g_a h0 11 = K0 := by rw [ga0]; exact aE
  have gaS : g_a h0 12 = K1 := by rw [ga0]; exact aS
  have gaO : g_a h0 13 = tO := by rw [ga0]; rfl
  have gaT : g_a h0 14 = tT := by rw [ga0]; rfl
  have byt : ∀ (a N : Nat) (v : Nat → Int32), va_T .byte a N (fun j => .int (v j)) (Ab s.heap.size) s s.heap → N < 2147483648 → (∀ j, j < N → fits .byte (.int (v j)) = true) → a = ve ∨ a = vs ∨ a = tO ∨ a = tT → (g_c h0 a = 103 ∧ g_n h0 a = N) ∧ cstR s.heap.size h0 a s s.heap := by
    intro a N v hT hN hf ha
    have r := rd_T hT hN
    have c1 : g_c h0 a = 103 := by rw [gc0, if_neg (nb _ _ _ hT), if_neg (fun z => z.elim (nk _ _ _ hT).1 (nk _ _ _ hT).2), if_pos ha]
    have c2 : g_n h0 a = N := by rw [gn0, if_neg (nb _ _ _ hT), r.1]
    have c3 : ∀ j, g_i h0 a j = if j < N then v j else 0 := fun j => by
      rw [gi0, if_neg (fun z => z.elim (nk _ _ _ hT).1 (nk _ _ _ hT).2), r.1]
      by_cases hj : j < N
      · rw [if_pos (Or.inr hj), if_pos hj, r.2 j hj]
      · rw [if_neg (fun z => z.elim (nb _ _ _ hT) hj), if_neg hj]
    refine ⟨⟨c1, c2⟩, Or.inr (Or.inl ⟨c1, ?_, fun j => ?_⟩)⟩
    · rw [c2]
      obtain ⟨c, h1, h2, h3, h4, h5, h6, h7⟩ := hT
      exact ⟨c, h1, h2, h3, h4, h5, fun j hj => by
        rw [h6 j hj]
        show some (Value.int (v j)) = some (Value.int (g_i h0 a j))
        rw [c3 j, if_pos hj], h7⟩
    · rw [c3 j]
      by_cases hj : j < N
      · rw [if_pos hj]; exact hf j hj
      · rw [if_neg hj]; exact fit_0
  have bE := byt ve 0 (fun _ => 0) tE' (by decide) (fun j hj => absurd hj (Nat.not_lt_zero _)) (Or.inl rfl)
  have bS := byt vs 1 (fun _ => 32) tS' (by decide) (fun j hj => by decide) (Or.inr (Or.inl rfl))
  have bO := byt tO 100 _ TO (by decide) (fun j hj => (fit_d j hj).1) (Or.inr (Or.inr (Or.inl rfl)))
  have bT := byt tT 100 _ TT (by decide) (fun j hj => (fit_d j hj).2) (Or.inr (Or.inr (Or.inr rfl)))
  have cK0 : g_c h0 K0 = 11 := by rw [gc0, if_neg kb.1, if_pos (Or.inl rfl)]
  have cK1 : g_c h0 K1 = 11 := by rw [gc0, if_neg kb.2, if_pos (Or.inr rfl)]
  have iK0 : g_i h0 K0 1 = 0 := by rw [gi0, if_pos (Or.inl rfl)]
  have iK1 : g_i h0 K1 1 = 0 := by rw [gi0, if_pos (Or.inr rfl)]
  have rK0 : g_r h0 K0 0 = some ve := by rw [gr0, if_pos ⟨rfl, rfl⟩]
  have rK1 : g_r h0 K1 0 = some vs := by rw [gr0, if_neg (fun z => hKK z.1.symm), if_pos ⟨rfl, rfl⟩]
  have cb : g_c h0 b = 107 := by rw [gc0, if_pos rfl]
  have nbL : g_n h0 b = L := by rw [gn0, if_pos rfl]
  have xb : cstR s.heap.size h0 b s s.heap := by
    refine Or.inr (Or.inr ⟨cb, ?_, hbl⟩)
    rw [nbL]
    obtain ⟨scr, h1, h2, h3, h4, h5⟩ := hX
    refine ⟨scr, h1, h2, h3, h4, fun j hj => ?_⟩
    have e : g_i h0 b j = xs j := by
      rw [gi0, if_neg (fun z => z.elim (fun y => kb.1 y.symm) (fun y => kb.2 y.symm)), if_pos (Or.inl rfl)]
      unfold rdI
      rw [h1]
      show (match scr.slots[j]? with | some (.int v) => v | _ => 0) = xs j
      rw [h5 j hj]
    rw [e]
    exact h5 j hj
  refine ⟨D, cA, h0, ⟨gt0, gz0, Nat.le_refl _, gz0, fun _ => rfl, fun a _ => ⟨rfl, rfl, fun _ => rfl, fun _ => rfl⟩, fun a ha hc => ?_⟩, ⟨⟨hD, hA⟩, fun a ha hc => ?_, fun e he => ?_, fun e he => ?_, ?_, ?_, fun w hw hn => ?_, ?_, ?_⟩, ?_, ?_⟩
  · exfalso
    apply hc
    have := lt _ _ _ tE; have := lt _ _ _ tS; have := lt _ _ _ TO; have := lt _ _ _ TT
    rw [gc0, if_neg (by omega), if_neg (by omega), if_neg (by omega)]
  · by_cases h1 : a = b
    · rw [h1]; exact xb
    · by_cases h2 : a = K0
      · subst h2
        exact Or.inl ⟨cK0, oE, ⟨ve, rK0, fE2⟩, by rw [iK0]; exact fE1⟩
      · by_cases h3 : a = K1
        · subst h3
          exact Or.inl ⟨cK1, oS, ⟨vs, rK1, fS2⟩, by rw [iK1]; exact fS1⟩
        · by_cases h4 : a = ve
          · rw [h4]; exact bE.2
          · by_cases h5 : a = vs
            · rw [h5]; exact bS.2
            · by_cases h6 : a = tO
              · rw [h6]; exact bO.2
              · by_cases h7 : a = tT
                · rw [h7]; exact bT.2
                · exfalso
                  apply hc
                  rw [gc0, if_neg h1, if_neg (fun z => z.elim h2 h3), if_neg (fun z => z.elim h4 (fun z => z.elim h5 (fun z => z.elim h6 h7)))]
  · have l1 := hts (.laysStatic "java/lang/String" "COMPACT_STRINGS" "Z") (List.mem_of_getElem? (i := 223) (by decide +kernel))
    have l2 := hts (.laysStatic "java/lang/Integer" "DigitOnes" "[B") (List.mem_of_getElem? (i := 542) (by decide +kernel))
    have l3 := hts (.laysStatic "java/lang/Integer" "DigitTens" "[B") (List.mem_of_getElem? (i := 544) (by decide +kernel))
    have j1 := hts (.initialized "java/lang/String") (List.mem_of_getElem? (i := 69) (by decide +kernel))
    have j2 := hts (.initialized "java/lang/Integer") (List.mem_of_getElem? (i := 85) (by decide +kernel))
    rcases tG_kind e he with ⟨z1, z2, z3, z4⟩ | ⟨z1, z2, z3, z4⟩ | ⟨z1, z2, z3, z4⟩ <;> rw [z1, z2, z3, z4]
    · exact va_Zof l1 j1 (va_eqi (hq _ (List.mem_of_getElem? (i := 4) (by decide +kernel)))) hout
    · show va_Z _ _ _ (.ref (g_a h0 13)) _ _ _
      rw [gaO]; exact va_Zof l2 j2 eO hout
    · show va_Z _ _ _ (.ref (g_a h0 14)) _ _ _
      rw [gaT]; exact va_Zof l3 j2 eT hout
  · rw [ga0]; exact had2 e he
  · exact vx_Zqof (hts _ (List.mem_of_getElem? (i := 616) (by decide +kernel))) (hts (.initialized "java/lang/Throwable") (List.mem_of_getElem? (i := 74) (by decide +kernel))) (hq _ (List.mem_of_getElem? (i := 215) (by decide +kernel))) hout
  · exact vx_Zqof (hts _ (List.mem_of_getElem? (i := 618) (by decide +kernel))) (hts (.initialized "java/lang/Throwable") (List.mem_of_getElem? (i := 74) (by decide +kernel))) (hq _ (List.mem_of_getElem? (i := 216) (by decide +kernel))) hout
  · have hb := hts w hw
    cases w <;> first | (cases hn; done) | exact va_Nw.of rfl hb
  · exact va_AO.of (hts _ (List.mem_of_getElem? (i := 1415) (by decide +kernel)))
  · have nc : ∀ i C T, fl0[i]? = some (Cond.not (Cond.castable C T)) → va_Nc C T s := fun i C T h => va_Nc.of (hq _ (List.mem_of_getElem? h))
    intro i hi j hj hij
    simp only [List.mem_cons, List.not_mem_nil, or_false] at hi hj
    rcases hi with rfl | rfl | rfl <;> rcases hj with rfl | rfl | rfl
    all_goals first | exact absurd rfl hij | skip
    · exact nc 240 _ _ (by decide +kernel)
    · exact nc 255 _ _ (by decide +kernel)
    · exact nc 227 _ _ (by decide +kernel)
    · exact nc 256 _ _ (by decide +kernel)
    · exact nc 229 _ _ (by decide +kernel)
    · exact nc 244 _ _ (by decide +kernel)
  · refine ⟨ve, vs, ?_, ?_, ?_, ?_, by rw [gz0, gt0]; exact Nat.le_refl _⟩
    · rw [gaE]; exact ⟨cK0, iK0, rK0, bE.1.1, bE.1.2⟩
    · rw [gaS]; exact ⟨cK1, iK1, rK1, bS.1.1, bS.1.2⟩
    · unfold Dt
      rw [gaO, gaT]
      exact ⟨⟨bO.1.1, bO.1.2⟩, bT.1.1, bT.1.2⟩
    · rw [gaE, gaS, gaO, gaT, gz0]
      exact ⟨lk.1, lk.2, lt _ _ _ TO, lt _ _ _ TT, lt _ _ _ tE, lt _ _ _ tS⟩
  · exact ⟨cb, nbL, by rw [gz0]; exact hbl, by rw [gz0, gt0]; exact Nat.le_refl _⟩

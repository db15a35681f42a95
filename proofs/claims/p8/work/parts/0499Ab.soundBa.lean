/-! throws, switches, returns -/
def exCh : List String := ["java/lang/RuntimeException", "java/lang/Exception"]
/-- a word of the tables, sought among those of its kind -/
def memB (w : Cond) : Bool := decide (w ∈ lw_tbl.filter (fun u => Nat.beq u.ctorIdx w.ctorIdx))
theorem memB_in {w : Cond} (h : memB w = true) : w ∈ lw_tbl := (List.mem_filter.mp (of_decide_eq_true h)).1
def okEw (Y ik ic E : Nat) : Bool := (Cond.classLink (cn (tb_o Y)) ik (exN E) :: Cond.initialized (exN E) :: vx_atS (cn (tb_o Y)) ic (exN E) exCh).all (fun w => vx_ot w && (memB w && (goodWord w || nstW w)))
def okEs (Y is : Nat) : Bool := tS_l.any (fun x => decide (x.1 = cn (tb_o Y) ∧ x.2.1 = is))
def okE (e : Nat × Nat × (Nat × Nat × Nat × Nat)) : Bool :=
  decide (hhY (e.1 / 65536) = [] ∧ Bundle.fit (exN e.2.1) = true) && (decide (decode (tb_b (e.1 / 65536)) (e.1 % 65536) = .ok (.new e.2.2.1, 3)) && (decide (decode (tb_b (e.1 / 65536)) (e.1 % 65536 + 3) = .ok (.dup, 1)) && (okEs (e.1 / 65536) e.2.2.2.1 && (okEw (e.1 / 65536) e.2.2.1 e.2.2.2.2.1 e.2.1 && (match e.2.2.2.2.2 with
  | 0 => decide (decode (tb_b (e.1 / 65536)) (e.1 % 65536 + 4) = .ok (.ldc e.2.2.2.1, 2)) && (decide (decode (tb_b (e.1 / 65536)) (e.1 % 65536 + 6) = .ok (.invokespecial e.2.2.2.2.1, 3)) && decide (decode (tb_b (e.1 / 65536)) (e.1 % 65536 + 9) = .ok (.athrow, 1)))
  | _ => decide (decode (tb_b (e.1 / 65536)) (e.1 % 65536 + 4) = .ok (.ldc_w e.2.2.2.1, 3)) && (decide (decode (tb_b (e.1 / 65536)) (e.1 % 65536 + 7) = .ok (.invokespecial e.2.2.2.2.1, 3)) && decide (decode (tb_b (e.1 / 65536)) (e.1 % 65536 + 10) = .ok (.athrow, 1))))))))
theorem okE_app {α : Type} {f : α → Bool} {l : List α} (n : Nat) (h1 : (l.take n).all f = true) (h2 : (l.drop n).all f = true) : l.all f = true := by rw [← List.take_append_drop n l, List.all_append, h1, h2]; rfl
theorem okE_0 : ((tE_l.drop 0).take 1).all okE = true := by decide +kernel
theorem okE_1 : ((tE_l.drop 1).take 1).all okE = true := by decide +kernel
theorem okE_2 : ((tE_l.drop 2).take 1).all okE = true := by decide +kernel
theorem okE_3 : ((tE_l.drop 3).take 1).all okE = true := by decide +kernel
theorem okE_4 : ((tE_l.drop 4).take 1).all okE = true := by decide +kernel
theorem okE_5 : ((tE_l.drop 5).take 1).all okE = true := by decide +kernel
theorem okE_6 : ((tE_l.drop 6).take 1).all okE = true := by decide +kernel
theorem okE_7 : ((tE_l.drop 7).take 1).all okE = true := by decide +kernel
theorem okE_8 : ((tE_l.drop 8).take 1).all okE = true := by decide +kernel
theorem okE_9 : ((tE_l.drop 9).take 1).all okE = true := by decide +kernel
theorem okE_10 : (tE_l.drop 10).all okE = true := by decide +kernel
theorem okE_t9 : (tE_l.drop 9).all okE = true := okE_app 1 okE_9 (by rw [List.drop_drop]; exact okE_10)
theorem okE_t8 : (tE_l.drop 8).all okE = true := okE_app 1 okE_8 (by rw [List.drop_drop]; exact okE_t9)
theorem okE_t7 : (tE_l.drop 7).all okE = true := okE_app 1 okE_7 (by rw [List.drop_drop]; exact okE_t8)
theorem okE_t6 : (tE_l.drop 6).all okE = true := okE_app 1 okE_6 (by rw [List.drop_drop]; exact okE_t7)
theorem okE_t5 : (tE_l.drop 5).all okE = true := okE_app 1 okE_5 (by rw [List.drop_drop]; exact okE_t6)
theorem okE_t4 : (tE_l.drop 4).all okE = true := okE_app 1 okE_4 (by rw [List.drop_drop]; exact okE_t5)
theorem okE_t3 : (tE_l.drop 3).all okE = true := okE_app 1 okE_3 (by rw [List.drop_drop]; exact okE_t4)
theorem okE_t2 : (tE_l.drop 2).all okE = true := okE_app 1 okE_2 (by rw [List.drop_drop]; exact okE_t3)
theorem okE_t1 : (tE_l.drop 1).all okE = true := okE_app 1 okE_1 (by rw [List.drop_drop]; exact okE_t2)
theorem okE_t0 : (tE_l.drop 0).all okE = true := okE_app 1 okE_0 (by rw [List.drop_drop]; exact okE_t1)
theorem okE_all : tE_l.all okE = true := okE_t0

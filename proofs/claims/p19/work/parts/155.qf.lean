/-! PURE FACTS: the states of the queues and of the pipe, by going through them all -/
set_option maxRecDepth 100000 in
theorem qI_0 : ∀ t ∈ QS0, (t.2.1 - t.1 = 0 ∨ (¬ t.1 < 0 ∧ t.1 < 5 ∧ rdy 16 (1 + t.1) ∧ seF 1 5 (ciF t) ∈ QS0)) := by
  (try unfold rdy vp_in)
  decide +kernel
set_option maxRecDepth 100000 in
theorem qO_0 : ∀ t ∈ QS0, (t.2.2.2.2.1 - t.2.2.2.1 = 0 ∨ (¬ t.2.2.2.1 < 0 ∧ t.2.2.2.1 < 5 ∧ rdy 16 (1 + t.2.2.2.1) ∧ seF 1 5 (goF t) ∈ QS0)) := by
  (try unfold rdy vp_in)
  decide +kernel
set_option maxRecDepth 100000 in
theorem qMm_0 : ∀ t ∈ QS0, seF 1 5 (mkF t) ∈ QS0 := by
  (try unfold rdy vp_in)
  decide +kernel
set_option maxRecDepth 100000 in
theorem qMb_0 : ∀ t ∈ QS0, seF 1 5 (bkF t) ∈ QS0 := by
  (try unfold rdy vp_in)
  decide +kernel
set_option maxRecDepth 100000 in
theorem qMl_0 : ∀ t ∈ QS0, seF 1 5 (lmF t) ∈ QS0 := by
  (try unfold rdy vp_in)
  decide +kernel
theorem qMc_0 : clF 5 ∈ QS0 := by decide +kernel
set_option maxRecDepth 100000 in
theorem qA_0 : ∀ t ∈ QS0, ((t.2.2.2.2.2.1 < 0 ∧ t.2.2.2.2.2.1 = -1) ∨ (¬ t.2.2.2.2.2.1 < 0 ∧ ¬ t.2.2.2.2.2.1 = -1)) ∧ (t.2.2.2.2.2.2 = 0 ∨ t.2.2.2.2.2.2 = 1) ∧ ¬ lyF t < 0 ∧ lyF t < 10 := by
  (try unfold rdy vp_in)
  decide +kernel
set_option maxRecDepth 100000 in
theorem qX_0 : ∀ t ∈ QS0, ∀ x ∈ (List.range 10).map Int32.ofNat, (¬ x < lyF t ∨ (¬ ceF t x < 0 ∧ ceF t x < 5 ∧ rdy 16 (1 + ceF t x))) := by
  (try unfold rdy vp_in)
  decide +kernel
set_option maxRecDepth 100000 in
theorem qI_1 : ∀ t ∈ QS1, (t.2.1 - t.1 = 0 ∨ (¬ t.1 < 0 ∧ t.1 < 3 ∧ rdy 16 (6 + t.1) ∧ seF 1 3 (ciF t) ∈ QS1)) := by
  (try unfold rdy vp_in)
  decide +kernel
set_option maxRecDepth 100000 in
theorem qO_1 : ∀ t ∈ QS1, (t.2.2.2.2.1 - t.2.2.2.1 = 0 ∨ (¬ t.2.2.2.1 < 0 ∧ t.2.2.2.1 < 3 ∧ rdy 16 (6 + t.2.2.2.1) ∧ seF 1 3 (goF t) ∈ QS1)) := by
  (try unfold rdy vp_in)
  decide +kernel
set_option maxRecDepth 100000 in
theorem qMm_1 : ∀ t ∈ QS1, seF 1 3 (mkF t) ∈ QS1 := by
  (try unfold rdy vp_in)
  decide +kernel
set_option maxRecDepth 100000 in
theorem qMb_1 : ∀ t ∈ QS1, seF 1 3 (bkF t) ∈ QS1 := by
  (try unfold rdy vp_in)
  decide +kernel
set_option maxRecDepth 100000 in
theorem qMl_1 : ∀ t ∈ QS1, seF 1 3 (lmF t) ∈ QS1 := by
  (try unfold rdy vp_in)
  decide +kernel
theorem qMc_1 : clF 3 ∈ QS1 := by decide +kernel
set_option maxRecDepth 100000 in
theorem qA_1 : ∀ t ∈ QS1, ((t.2.2.2.2.2.1 < 0 ∧ t.2.2.2.2.2.1 = -1) ∨ (¬ t.2.2.2.2.2.1 < 0 ∧ ¬ t.2.2.2.2.2.1 = -1)) ∧ (t.2.2.2.2.2.2 = 0 ∨ t.2.2.2.2.2.2 = 1) ∧ ¬ lyF t < 0 ∧ lyF t < 10 := by
  (try unfold rdy vp_in)
  decide +kernel
set_option maxRecDepth 100000 in
theorem qX_1 : ∀ t ∈ QS1, ∀ x ∈ (List.range 10).map Int32.ofNat, (¬ x < lyF t ∨ (¬ ceF t x < 0 ∧ ceF t x < 3 ∧ rdy 16 (6 + ceF t x))) := by
  (try unfold rdy vp_in)
  decide +kernel
set_option maxRecDepth 100000 in
theorem qI_2 : ∀ t ∈ QS2, (t.2.1 - t.1 = 0 ∨ (¬ t.1 < 0 ∧ t.1 < 6 ∧ rdy 16 (9 + t.1) ∧ seF 0 6 (ciF t) ∈ QS2)) := by
  (try unfold rdy vp_in)
  decide +kernel
set_option maxRecDepth 100000 in
theorem qO_2 : ∀ t ∈ QS2, (t.2.2.2.2.1 - t.2.2.2.1 = 0 ∨ (¬ t.2.2.2.1 < 0 ∧ t.2.2.2.1 < 6 ∧ rdy 16 (9 + t.2.2.2.1) ∧ seF 0 6 (goF t) ∈ QS2)) := by
  (try unfold rdy vp_in)
  decide +kernel
set_option maxRecDepth 100000 in
theorem qMm_2 : ∀ t ∈ QS2, seF 0 6 (mkF t) ∈ QS2 := by
  (try unfold rdy vp_in)
  decide +kernel
set_option maxRecDepth 100000 in
theorem qMb_2 : ∀ t ∈ QS2, seF 0 6 (bkF t) ∈ QS2 := by
  (try unfold rdy vp_in)
  decide +kernel
set_option maxRecDepth 100000 in
theorem qMl_2 : ∀ t ∈ QS2, seF 0 6 (lmF t) ∈ QS2 := by
  (try unfold rdy vp_in)
  decide +kernel
theorem qMc_2 : clF 6 ∈ QS2 := by decide +kernel
set_option maxRecDepth 100000 in
theorem qA_2 : ∀ t ∈ QS2, ((t.2.2.2.2.2.1 < 0 ∧ t.2.2.2.2.2.1 = -1) ∨ (¬ t.2.2.2.2.2.1 < 0 ∧ ¬ t.2.2.2.2.2.1 = -1)) ∧ (t.2.2.2.2.2.2 = 0) ∧ ¬ lyF t < 0 ∧ lyF t < 10 := by
  (try unfold rdy vp_in)
  decide +kernel
set_option maxRecDepth 100000 in
theorem qX_2 : ∀ t ∈ QS2, ∀ x ∈ (List.range 10).map Int32.ofNat, (¬ x < lyF t ∨ (¬ ceF t x < 0 ∧ ceF t x < 6 ∧ rdy 16 (9 + ceF t x))) := by
  (try unfold rdy vp_in)
  decide +kernel

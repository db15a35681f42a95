/-! CONTRACTS, the reference: panes, queues -/
theorem vb1 : vp_nar .boolean 1 = 1 := by decide

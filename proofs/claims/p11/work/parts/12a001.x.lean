theorem vb0 : vp_nar .boolean 0 = 0 := by decide

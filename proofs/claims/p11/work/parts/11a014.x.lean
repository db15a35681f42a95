theorem gi_of {h : MH} {b j x k : Nat} (z : b = x ∧ j = k) : g_i h x k = g_i h b j := by rw [z.1, z.2]

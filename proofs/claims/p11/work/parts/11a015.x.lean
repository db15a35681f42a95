theorem mh_ext {m n : MH} (e1 : ∀ b j, g_i m b j = g_i n b j) (e2 : (m.1, m.2.1, m.2.2.2) = (n.1, n.2.1, n.2.2.2)) : m = n := by
  obtain ⟨a1, a2, a3, a4⟩ := m
  obtain ⟨b1, b2, b3, b4⟩ := n
  simp only [Prod.mk.injEq] at e2
  obtain ⟨rfl, rfl, rfl⟩ := e2
  have : a3 = b3 := funext fun b => funext fun j => e1 b j
  rw [this]


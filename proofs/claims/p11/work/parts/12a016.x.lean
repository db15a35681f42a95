section
variable {h : MH} {a k w r : Nat} {t : QT} (b j : Nat)
theorem c_mW : g_c (mW h a k w r t) b = g_c h b := id rfl
theorem n_mW : g_n (mW h a k w r t) b = g_n h b := id rfl
theorem r_mW : g_r (mW h a k w r t) b j = g_r h b j := id rfl
theorem l_mW : g_l (mW h a k w r t) b j = g_l h b j := id rfl
theorem z_mW : g_z (mW h a k w r t) = g_z h := id rfl
theorem t_mW : g_t (mW h a k w r t) = g_t h := id rfl
theorem a_mW : g_a (mW h a k w r t) j = g_a h j := id rfl
end

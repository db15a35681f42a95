section
variable {h : MH} {q w r : Nat} {t : QT} (b j : Nat)
theorem c_cW : g_c (cW h q w r t) b = g_c h b := id rfl
theorem n_cW : g_n (cW h q w r t) b = g_n h b := id rfl
theorem r_cW : g_r (cW h q w r t) b j = g_r h b j := id rfl
theorem l_cW : g_l (cW h q w r t) b j = g_l h b j := id rfl
theorem z_cW : g_z (cW h q w r t) = g_z h := id rfl
theorem t_cW : g_t (cW h q w r t) = g_t h := id rfl
theorem a_cW : g_a (cW h q w r t) j = g_a h j := id rfl
end

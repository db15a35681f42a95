set_option maxRecDepth 16384
theorem lc_nextLong {scr n j : Nat} {A : Nat → Nat} {h : MH} {a5 a6 : Value} {bc bs B1 B2 : Nat} {Q : MR → MH → Prop} (R : Rl A h) (C : Cs h) (S : Scr scr n h) (hj : 4 * j + 4 ≤ n) (hn : n ≤ 256) (hb1 : bc + 826 ≤ B1) (hb2 : bs + 98959 ≤ B2) (hQ : LQ A scr n j bc bs Q) : Ok 329 1551 [.ref scr, .ref (A 0), .ref (A 22), .ref (A 39), .int (Int32.ofNat (4 * j)), a5, a6] [] h B1 B2 Q := by
  have S0 := S
  obtain ⟨s1, s2, s3, s4⟩ := S
  obtain ⟨k0, k1, k2⟩ := Rl_c R
  have e1 : Int32.ofNat (4 * j) + 1 = Int32.ofNat (4 * j + 1) := n_add (4 * j) 1
  have v1 : vp_in (Int32.ofNat (4 * j + 1)) n := vp_of (by omega) (by omega)
  have e2 : Int32.ofNat (4 * j) + 2 = Int32.ofNat (4 * j + 2) := n_add (4 * j) 2
  have v2 : vp_in (Int32.ofNat (4 * j + 2)) n := vp_of (by omega) (by omega)
  have e3 : Int32.ofNat (4 * j) + 3 = Int32.ofNat (4 * j + 3) := n_add (4 * j) 3
  have v3 : vp_in (Int32.ofNat (4 * j + 3)) n := vp_of (by omega) (by omega)
  have b0 : (1 ≤ B1) = True := eq_true (by omega)
  have b1 : (6 ≤ B2) = True := eq_true (by omega)
  simp only [o329_1551, o329_1552, o329_1553, o329_1555, o329_1556, o329_1557, o329_1558, o329_1559, mcs_0, true_and, and_self, Nat.zero_le, s1, s2, e1, v1, b0, b1]
  refine Ok_mono _ _ _ _ _ _ _ _ _ (fun r h1 q => ?_) (Ok_low (op_nextLong R))
  obtain ⟨⟨k, rfl, g1, z⟩, lw⟩ := q
  replace lw := lw s4
  obtain ⟨S1, si⟩ := Scr_Lw S0 lw
  have C1 := Cs_Lw C lw
  obtain ⟨t1, t2, t3, t4⟩ := id S1
  have d0 : (0 ≤ (B1 - 1)) = True := eq_true (by omega)
  have d1 : (0 ≤ (B2 - 6)) = True := eq_true (by omega)
  simp only [o329_1562, o329_1564, o329_1565, o329_1566, o329_1568, o329_1569, o329_1570, o329_1571, mcs_0, Kn_v, true_and, and_self, Nat.zero_le, t1, t2, g1, si, e1, v1]
  refine Ok_mono _ _ _ _ _ _ _ _ _ (fun r h2 q => ?_) (Ok_low (z))
  obtain ⟨⟨b, rfl, R2, x1, x2⟩, lw2⟩ := q
  have hB0 : A 0 = A 0 := rfl
  have hB1 : A 22 = A 22 := rfl
  have hB2 : A 39 = A 39 := rfl
  replace lw2 := lw2 t4
  have S2 := (Scr_Lw S1 lw2).1
  have C2 := Cs_Lw C1 lw2
  simp only [o329_1574, o329_1576, Kn_v]
  exact Ok_le (hQ A h2 _ _ hB0 hB1 hB2 R2 C2 S2) _ _ (by omega) (by omega)
theorem lc_longAt {scr n j : Nat} {A : Nat → Nat} {h : MH} {a5 a6 : Value} {bc bs B1 B2 : Nat} {Q : MR → MH → Prop} (R : Rl A h) (C : Cs h) (S : Scr scr n h) (hj : 4 * j + 4 ≤ n) (hn : n ≤ 256) (hb1 : bc + 826 ≤ B1) (hb2 : bs + 98959 ≤ B2) (hQ : LQ A scr n j bc bs Q) : Ok 329 1579 [.ref scr, .ref (A 0), .ref (A 22), .ref (A 39), .int (Int32.ofNat (4 * j)), a5, a6] [] h B1 B2 Q := by
  have S0 := S
  obtain ⟨s1, s2, s3, s4⟩ := S
  obtain ⟨k0, k1, k2⟩ := Rl_c R
  have e1 : Int32.ofNat (4 * j) + 1 = Int32.ofNat (4 * j + 1) := n_add (4 * j) 1
  have v1 : vp_in (Int32.ofNat (4 * j + 1)) n := vp_of (by omega) (by omega)
  have e2 : Int32.ofNat (4 * j) + 2 = Int32.ofNat (4 * j + 2) := n_add (4 * j) 2
  have v2 : vp_in (Int32.ofNat (4 * j + 2)) n := vp_of (by omega) (by omega)
  have e3 : Int32.ofNat (4 * j) + 3 = Int32.ofNat (4 * j + 3) := n_add (4 * j) 3
  have v3 : vp_in (Int32.ofNat (4 * j + 3)) n := vp_of (by omega) (by omega)
  have b0 : (1 ≤ B1) = True := eq_true (by omega)
  have b1 : (6 ≤ B2) = True := eq_true (by omega)
  simp only [o329_1579, o329_1580, o329_1581, o329_1583, o329_1584, o329_1585, o329_1586, o329_1587, o329_1589, o329_1590, o329_1591, o329_1592, o329_1593, mcs_0, true_and, and_self, Nat.zero_le, s1, s2, e1, v1, e2, v2, b0, b1]
  refine Ok_mono _ _ _ _ _ _ _ _ _ (fun r h1 q => ?_) (Ok_low (op_longAt R))
  obtain ⟨⟨k, rfl, g1, z⟩, lw⟩ := q
  replace lw := lw s4
  obtain ⟨S1, si⟩ := Scr_Lw S0 lw
  have C1 := Cs_Lw C lw
  obtain ⟨t1, t2, t3, t4⟩ := id S1
  have d0 : (0 ≤ (B1 - 1)) = True := eq_true (by omega)
  have d1 : (0 ≤ (B2 - 6)) = True := eq_true (by omega)
  simp only [o329_1596, o329_1598, o329_1599, o329_1600, o329_1602, o329_1603, o329_1604, o329_1605, o329_1606, o329_1608, o329_1609, o329_1610, o329_1611, mcs_0, Kn_v, true_and, and_self, Nat.zero_le, t1, t2, g1, si, e1, v1, e2, v2]
  refine Ok_mono _ _ _ _ _ _ _ _ _ (fun r h2 q => ?_) (Ok_low (z))
  obtain ⟨⟨b, rfl, R2, x1, x2⟩, lw2⟩ := q
  have hB0 : A 0 = A 0 := rfl
  have hB1 : A 22 = A 22 := rfl
  have hB2 : A 39 = A 39 := rfl
  replace lw2 := lw2 t4
  have S2 := (Scr_Lw S1 lw2).1
  have C2 := Cs_Lw C1 lw2
  simp only [o329_1614, o329_1616, Kn_v]
  exact Ok_le (hQ A h2 _ _ hB0 hB1 hB2 R2 C2 S2) _ _ (by omega) (by omega)
theorem lc_nextShort {scr n j : Nat} {A : Nat → Nat} {h : MH} {a5 a6 : Value} {bc bs B1 B2 : Nat} {Q : MR → MH → Prop} (R : Rl A h) (C : Cs h) (S : Scr scr n h) (hj : 4 * j + 4 ≤ n) (hn : n ≤ 256) (hb1 : bc + 826 ≤ B1) (hb2 : bs + 98959 ≤ B2) (hQ : LQ A scr n j bc bs Q) : Ok 329 1619 [.ref scr, .ref (A 0), .ref (A 22), .ref (A 39), .int (Int32.ofNat (4 * j)), a5, a6] [] h B1 B2 Q := by
  have S0 := S
  obtain ⟨s1, s2, s3, s4⟩ := S
  obtain ⟨k0, k1, k2⟩ := Rl_c R
  have e1 : Int32.ofNat (4 * j) + 1 = Int32.ofNat (4 * j + 1) := n_add (4 * j) 1
  have v1 : vp_in (Int32.ofNat (4 * j + 1)) n := vp_of (by omega) (by omega)
  have e2 : Int32.ofNat (4 * j) + 2 = Int32.ofNat (4 * j + 2) := n_add (4 * j) 2
  have v2 : vp_in (Int32.ofNat (4 * j + 2)) n := vp_of (by omega) (by omega)
  have e3 : Int32.ofNat (4 * j) + 3 = Int32.ofNat (4 * j + 3) := n_add (4 * j) 3
  have v3 : vp_in (Int32.ofNat (4 * j + 3)) n := vp_of (by omega) (by omega)
  have b0 : (0 ≤ B1) = True := eq_true (by omega)
  have b1 : (0 ≤ B2) = True := eq_true (by omega)
  simp only [o329_1619, o329_1620, mcs_0, true_and, Nat.zero_le, k0]
  refine Ok_mono _ _ _ _ _ _ _ _ _ (fun r h1 q => ?_) (Ok_low (op_nextShort R))
  obtain ⟨⟨k, rfl, g1, z⟩, lw⟩ := q
  replace lw := lw s4
  obtain ⟨S1, si⟩ := Scr_Lw S0 lw
  have C1 := Cs_Lw C lw
  obtain ⟨t1, t2, t3, t4⟩ := id S1
  have d0 : (0 ≤ B1) = True := eq_true (by omega)
  have d1 : (0 ≤ B2) = True := eq_true (by omega)
  simp only [o329_1623, o329_1624, o329_1625, mcs_0, Kn_v, true_and, Nat.zero_le, g1]
  refine Ok_mono _ _ _ _ _ _ _ _ _ (fun r h2 q => ?_) (Ok_low (z))
  obtain ⟨⟨b, rfl, R2, x1, x2⟩, lw2⟩ := q
  subst x2
  have hB0 : A 0 = A 0 := rfl
  have hB1 : A 22 = A 22 := rfl
  have hB2 : A 39 = A 39 := rfl
  replace lw2 := lw2 t4
  have S2 := (Scr_Lw S1 lw2).1
  have C2 := Cs_Lw C1 lw2
  simp only [o329_1628, o329_1629, Kn_v]
  exact Ok_le (hQ A h2 _ _ hB0 hB1 hB2 R2 C2 S2) _ _ (by omega) (by omega)
theorem lc_shortAt {scr n j : Nat} {A : Nat → Nat} {h : MH} {a5 a6 : Value} {bc bs B1 B2 : Nat} {Q : MR → MH → Prop} (R : Rl A h) (C : Cs h) (S : Scr scr n h) (hj : 4 * j + 4 ≤ n) (hn : n ≤ 256) (hb1 : bc + 826 ≤ B1) (hb2 : bs + 98959 ≤ B2) (hQ : LQ A scr n j bc bs Q) : Ok 329 1632 [.ref scr, .ref (A 0), .ref (A 22), .ref (A 39), .int (Int32.ofNat (4 * j)), a5, a6] [] h B1 B2 Q := by
  have S0 := S
  obtain ⟨s1, s2, s3, s4⟩ := S
  obtain ⟨k0, k1, k2⟩ := Rl_c R
  have e1 : Int32.ofNat (4 * j) + 1 = Int32.ofNat (4 * j + 1) := n_add (4 * j) 1
  have v1 : vp_in (Int32.ofNat (4 * j + 1)) n := vp_of (by omega) (by omega)
  have e2 : Int32.ofNat (4 * j) + 2 = Int32.ofNat (4 * j + 2) := n_add (4 * j) 2
  have v2 : vp_in (Int32.ofNat (4 * j + 2)) n := vp_of (by omega) (by omega)
  have e3 : Int32.ofNat (4 * j) + 3 = Int32.ofNat (4 * j + 3) := n_add (4 * j) 3
  have v3 : vp_in (Int32.ofNat (4 * j + 3)) n := vp_of (by omega) (by omega)
  have b0 : (0 ≤ B1) = True := eq_true (by omega)
  have b1 : (0 ≤ B2) = True := eq_true (by omega)
  simp only [o329_1632, o329_1633, o329_1634, o329_1636, o329_1637, o329_1638, o329_1639, mcs_0, true_and, and_self, Nat.zero_le, s1, s2, k0, e1, v1]
  refine Ok_mono _ _ _ _ _ _ _ _ _ (fun r h1 q => ?_) (Ok_low (op_shortAt R))
  obtain ⟨⟨k, rfl, g1, z⟩, lw⟩ := q
  replace lw := lw s4
  obtain ⟨S1, si⟩ := Scr_Lw S0 lw
  have C1 := Cs_Lw C lw
  obtain ⟨t1, t2, t3, t4⟩ := id S1
  have d0 : (0 ≤ B1) = True := eq_true (by omega)
  have d1 : (0 ≤ B2) = True := eq_true (by omega)
  simp only [o329_1642, o329_1643, o329_1644, o329_1645, o329_1647, o329_1648, o329_1649, o329_1650, mcs_0, Kn_v, true_and, and_self, Nat.zero_le, t1, t2, g1, si, e1, v1]
  refine Ok_mono _ _ _ _ _ _ _ _ _ (fun r h2 q => ?_) (Ok_low (z))
  obtain ⟨⟨b, rfl, R2, x1, x2⟩, lw2⟩ := q
  subst x2
  have hB0 : A 0 = A 0 := rfl
  have hB1 : A 22 = A 22 := rfl
  have hB2 : A 39 = A 39 := rfl
  replace lw2 := lw2 t4
  have S2 := (Scr_Lw S1 lw2).1
  have C2 := Cs_Lw C1 lw2
  simp only [o329_1653, o329_1654, Kn_v]
  exact Ok_le (hQ A h2 _ _ hB0 hB1 hB2 R2 C2 S2) _ _ (by omega) (by omega)
theorem lc_putNext {scr n j : Nat} {A : Nat → Nat} {h : MH} {a5 a6 : Value} {bc bs B1 B2 : Nat} {Q : MR → MH → Prop} (R : Rl A h) (C : Cs h) (S : Scr scr n h) (hj : 4 * j + 4 ≤ n) (hn : n ≤ 256) (hb1 : bc + 826 ≤ B1) (hb2 : bs + 98959 ≤ B2) (hQ : LQ A scr n j bc bs Q) : Ok 329 1657 [.ref scr, .ref (A 0), .ref (A 22), .ref (A 39), .int (Int32.ofNat (4 * j)), a5, a6] [] h B1 B2 Q := by
  have S0 := S
  obtain ⟨s1, s2, s3, s4⟩ := S
  obtain ⟨k0, k1, k2⟩ := Rl_c R
  have e1 : Int32.ofNat (4 * j) + 1 = Int32.ofNat (4 * j + 1) := n_add (4 * j) 1
  have v1 : vp_in (Int32.ofNat (4 * j + 1)) n := vp_of (by omega) (by omega)
  have e2 : Int32.ofNat (4 * j) + 2 = Int32.ofNat (4 * j + 2) := n_add (4 * j) 2
  have v2 : vp_in (Int32.ofNat (4 * j + 2)) n := vp_of (by omega) (by omega)
  have e3 : Int32.ofNat (4 * j) + 3 = Int32.ofNat (4 * j + 3) := n_add (4 * j) 3
  have v3 : vp_in (Int32.ofNat (4 * j + 3)) n := vp_of (by omega) (by omega)
  have b0 : (1 ≤ B1) = True := eq_true (by omega)
  have b1 : (6 ≤ B2) = True := eq_true (by omega)
  simp only [o329_1657, o329_1658, o329_1659, o329_1661, o329_1662, o329_1663, o329_1664, o329_1665, mcs_0, true_and, and_self, Nat.zero_le, s1, s2, e1, v1, b0, b1]
  refine Ok_mono _ _ _ _ _ _ _ _ _ (fun r h1 q => ?_) (Ok_low (op_putNext R))
  obtain ⟨⟨k, rfl, g1, z⟩, lw⟩ := q
  replace lw := lw s4
  obtain ⟨S1, si⟩ := Scr_Lw S0 lw
  have C1 := Cs_Lw C lw
  obtain ⟨t1, t2, t3, t4⟩ := id S1
  have d0 : (0 ≤ (B1 - 1)) = True := eq_true (by omega)
  have d1 : (0 ≤ (B2 - 6)) = True := eq_true (by omega)
  simp only [o329_1668, o329_1670, o329_1671, o329_1672, o329_1674, o329_1675, o329_1676, o329_1677, mcs_0, Kn_v, true_and, and_self, Nat.zero_le, t1, t2, g1, si, e1, v1]
  refine Ok_mono _ _ _ _ _ _ _ _ _ (fun r h2 q => ?_) (Ok_low (z))
  obtain ⟨⟨b, rfl, R2, x1, x2⟩, lw2⟩ := q
  have hB0 : A 0 = A 0 := rfl
  have hB1 : A 22 = A 22 := rfl
  have hB2 : A 39 = A 39 := rfl
  replace lw2 := lw2 t4
  have S2 := (Scr_Lw S1 lw2).1
  have C2 := Cs_Lw C1 lw2
  simp only [o329_1680, o329_1682, Kn_v]
  exact Ok_le (hQ A h2 _ _ hB0 hB1 hB2 R2 C2 S2) _ _ (by omega) (by omega)
theorem lc_putAt {scr n j : Nat} {A : Nat → Nat} {h : MH} {a5 a6 : Value} {bc bs B1 B2 : Nat} {Q : MR → MH → Prop} (R : Rl A h) (C : Cs h) (S : Scr scr n h) (hj : 4 * j + 4 ≤ n) (hn : n ≤ 256) (hb1 : bc + 826 ≤ B1) (hb2 : bs + 98959 ≤ B2) (hQ : LQ A scr n j bc bs Q) : Ok 329 1685 [.ref scr, .ref (A 0), .ref (A 22), .ref (A 39), .int (Int32.ofNat (4 * j)), a5, a6] [] h B1 B2 Q := by
  have S0 := S
  obtain ⟨s1, s2, s3, s4⟩ := S
  obtain ⟨k0, k1, k2⟩ := Rl_c R
  have e1 : Int32.ofNat (4 * j) + 1 = Int32.ofNat (4 * j + 1) := n_add (4 * j) 1
  have v1 : vp_in (Int32.ofNat (4 * j + 1)) n := vp_of (by omega) (by omega)
  have e2 : Int32.ofNat (4 * j) + 2 = Int32.ofNat (4 * j + 2) := n_add (4 * j) 2
  have v2 : vp_in (Int32.ofNat (4 * j + 2)) n := vp_of (by omega) (by omega)
  have e3 : Int32.ofNat (4 * j) + 3 = Int32.ofNat (4 * j + 3) := n_add (4 * j) 3
  have v3 : vp_in (Int32.ofNat (4 * j + 3)) n := vp_of (by omega) (by omega)
  have b0 : (1 ≤ B1) = True := eq_true (by omega)
  have b1 : (6 ≤ B2) = True := eq_true (by omega)
  simp only [o329_1685, o329_1686, o329_1687, o329_1689, o329_1690, o329_1691, o329_1692, o329_1693, o329_1695, o329_1696, o329_1697, o329_1698, o329_1699, mcs_0, true_and, and_self, Nat.zero_le, s1, s2, e1, v1, e2, v2, b0, b1]
  refine Ok_mono _ _ _ _ _ _ _ _ _ (fun r h1 q => ?_) (Ok_low (op_putAt R))
  obtain ⟨⟨k, rfl, g1, z⟩, lw⟩ := q
  replace lw := lw s4
  obtain ⟨S1, si⟩ := Scr_Lw S0 lw
  have C1 := Cs_Lw C lw
  obtain ⟨t1, t2, t3, t4⟩ := id S1
  have d0 : (0 ≤ (B1 - 1)) = True := eq_true (by omega)
  have d1 : (0 ≤ (B2 - 6)) = True := eq_true (by omega)
  simp only [o329_1702, o329_1704, o329_1705, o329_1706, o329_1708, o329_1709, o329_1710, o329_1711, o329_1712, o329_1714, o329_1715, o329_1716, o329_1717, mcs_0, Kn_v, true_and, and_self, Nat.zero_le, t1, t2, g1, si, e1, v1, e2, v2]
  refine Ok_mono _ _ _ _ _ _ _ _ _ (fun r h2 q => ?_) (Ok_low (z))
  obtain ⟨⟨b, rfl, R2, x1, x2⟩, lw2⟩ := q
  have hB0 : A 0 = A 0 := rfl
  have hB1 : A 22 = A 22 := rfl
  have hB2 : A 39 = A 39 := rfl
  replace lw2 := lw2 t4
  have S2 := (Scr_Lw S1 lw2).1
  have C2 := Cs_Lw C1 lw2
  simp only [o329_1720, o329_1722, Kn_v]
  exact Ok_le (hQ A h2 _ _ hB0 hB1 hB2 R2 C2 S2) _ _ (by omega) (by omega)
theorem lc_cellText {scr n j : Nat} {A : Nat → Nat} {h : MH} {a5 a6 : Value} {bc bs B1 B2 : Nat} {Q : MR → MH → Prop} (R : Rl A h) (C : Cs h) (S : Scr scr n h) (hj : 4 * j + 4 ≤ n) (hn : n ≤ 256) (hb1 : bc + 826 ≤ B1) (hb2 : bs + 98959 ≤ B2) (hQ : LQ A scr n j bc bs Q) : Ok 329 1725 [.ref scr, .ref (A 0), .ref (A 22), .ref (A 39), .int (Int32.ofNat (4 * j)), a5, a6] [] h B1 B2 Q := by
  have S0 := S
  obtain ⟨s1, s2, s3, s4⟩ := S
  obtain ⟨k0, k1, k2⟩ := Rl_c R
  have e1 : Int32.ofNat (4 * j) + 1 = Int32.ofNat (4 * j + 1) := n_add (4 * j) 1
  have v1 : vp_in (Int32.ofNat (4 * j + 1)) n := vp_of (by omega) (by omega)
  have e2 : Int32.ofNat (4 * j) + 2 = Int32.ofNat (4 * j + 2) := n_add (4 * j) 2
  have v2 : vp_in (Int32.ofNat (4 * j + 2)) n := vp_of (by omega) (by omega)
  have e3 : Int32.ofNat (4 * j) + 3 = Int32.ofNat (4 * j + 3) := n_add (4 * j) 3
  have v3 : vp_in (Int32.ofNat (4 * j + 3)) n := vp_of (by omega) (by omega)
  have b0 : (25 ≤ B1) = True := eq_true (by omega)
  have b1 : (3460 ≤ B2) = True := eq_true (by omega)
  simp only [o329_1725, o329_1726, o329_1727, o329_1729, o329_1730, o329_1731, o329_1732, o329_1733, mcs_0, true_and, and_self, Nat.zero_le, s1, s2, e1, v1, b0, b1]
  refine Ok_mono _ _ _ _ _ _ _ _ _ (fun r h1 q => ?_) (Ok_low (x_cellText R))
  obtain ⟨⟨k, rfl, R1⟩, lw⟩ := q
  have g1 := (Rl_c R1).2.1
  replace lw := lw s4
  obtain ⟨S1, si⟩ := Scr_Lw S0 lw
  have C1 := Cs_Lw C lw
  obtain ⟨t1, t2, t3, t4⟩ := id S1
  have d0 : (6 ≤ (B1 - 25)) = True := eq_true (by omega)
  have d1 : (474 ≤ (B2 - 3460)) = True := eq_true (by omega)
  simp only [o329_1736, o329_1738, o329_1739, o329_1740, o329_1742, o329_1743, o329_1744, o329_1745, mcs_0, Kn_v, true_and, and_self, Nat.zero_le, t1, t2, g1, si, e1, v1, d0, d1]
  refine Ok_mono _ _ _ _ _ _ _ _ _ (fun r h2 q => ?_) (Ok_low (m_cellText R1 C1))
  obtain ⟨⟨b, rfl, R2⟩, lw2⟩ := q
  have hB0 : A 0 = A 0 := rfl
  have hB1 : A 22 = A 22 := rfl
  have hB2 : A 39 = A 39 := rfl
  replace lw2 := lw2 t4
  have S2 := (Scr_Lw S1 lw2).1
  have C2 := Cs_Lw C1 lw2
  simp only [o329_1748, o329_1750, Kn_v]
  exact Ok_le (hQ A h2 _ _ hB0 hB1 hB2 R2 C2 S2) _ _ (by omega) (by omega)
theorem lc_house {scr n j : Nat} {A : Nat → Nat} {h : MH} {a5 a6 : Value} {bc bs B1 B2 : Nat} {Q : MR → MH → Prop} (R : Rl A h) (C : Cs h) (S : Scr scr n h) (hj : 4 * j + 4 ≤ n) (hn : n ≤ 256) (hb1 : bc + 826 ≤ B1) (hb2 : bs + 98959 ≤ B2) (hQ : LQ A scr n j bc bs Q) : Ok 329 1753 [.ref scr, .ref (A 0), .ref (A 22), .ref (A 39), .int (Int32.ofNat (4 * j)), a5, a6] [] h B1 B2 Q := by
  have S0 := S
  obtain ⟨s1, s2, s3, s4⟩ := S
  obtain ⟨k0, k1, k2⟩ := Rl_c R
  have e1 : Int32.ofNat (4 * j) + 1 = Int32.ofNat (4 * j + 1) := n_add (4 * j) 1
  have v1 : vp_in (Int32.ofNat (4 * j + 1)) n := vp_of (by omega) (by omega)
  have e2 : Int32.ofNat (4 * j) + 2 = Int32.ofNat (4 * j + 2) := n_add (4 * j) 2
  have v2 : vp_in (Int32.ofNat (4 * j + 2)) n := vp_of (by omega) (by omega)
  have e3 : Int32.ofNat (4 * j) + 3 = Int32.ofNat (4 * j + 3) := n_add (4 * j) 3
  have v3 : vp_in (Int32.ofNat (4 * j + 3)) n := vp_of (by omega) (by omega)
  have b0 : (1 ≤ B1) = True := eq_true (by omega)
  have b1 : (6 ≤ B2) = True := eq_true (by omega)
  simp only [o329_1753, o329_1754, o329_1755, o329_1757, o329_1758, o329_1759, o329_1760, o329_1761, mcs_0, true_and, and_self, Nat.zero_le, s1, s2, e1, v1, b0, b1]
  refine Ok_mono _ _ _ _ _ _ _ _ _ (fun r h1 q => ?_) (Ok_low (op_house R))
  obtain ⟨⟨k, rfl, g1, z⟩, lw⟩ := q
  replace lw := lw s4
  obtain ⟨S1, si⟩ := Scr_Lw S0 lw
  have C1 := Cs_Lw C lw
  obtain ⟨t1, t2, t3, t4⟩ := id S1
  have d0 : (0 ≤ (B1 - 1)) = True := eq_true (by omega)
  have d1 : (0 ≤ (B2 - 6)) = True := eq_true (by omega)
  simp only [o329_1764, o329_1766, o329_1767, o329_1768, o329_1770, o329_1771, o329_1772, o329_1773, mcs_0, Kn_v, true_and, and_self, Nat.zero_le, t1, t2, g1, si, e1, v1]
  refine Ok_mono _ _ _ _ _ _ _ _ _ (fun r h2 q => ?_) (Ok_low (z))
  obtain ⟨⟨b, rfl, R2, x1, x2⟩, lw2⟩ := q
  have hB0 : A 0 = A 0 := rfl
  have hB1 : A 22 = A 22 := rfl
  have hB2 : A 39 = A 39 := rfl
  replace lw2 := lw2 t4
  have S2 := (Scr_Lw S1 lw2).1
  have C2 := Cs_Lw C1 lw2
  simp only [o329_1776, o329_1778, Kn_v]
  exact Ok_le (hQ A h2 _ _ hB0 hB1 hB2 R2 C2 S2) _ _ (by omega) (by omega)
theorem lc_knock {scr n j : Nat} {A : Nat → Nat} {h : MH} {a5 a6 : Value} {bc bs B1 B2 : Nat} {Q : MR → MH → Prop} (R : Rl A h) (C : Cs h) (S : Scr scr n h) (hj : 4 * j + 4 ≤ n) (hn : n ≤ 256) (hb1 : bc + 826 ≤ B1) (hb2 : bs + 98959 ≤ B2) (hQ : LQ A scr n j bc bs Q) : Ok 329 1781 [.ref scr, .ref (A 0), .ref (A 22), .ref (A 39), .int (Int32.ofNat (4 * j)), a5, a6] [] h B1 B2 Q := by
  have S0 := S
  obtain ⟨s1, s2, s3, s4⟩ := S
  obtain ⟨k0, k1, k2⟩ := Rl_c R
  have e1 : Int32.ofNat (4 * j) + 1 = Int32.ofNat (4 * j + 1) := n_add (4 * j) 1
  have v1 : vp_in (Int32.ofNat (4 * j + 1)) n := vp_of (by omega) (by omega)
  have e2 : Int32.ofNat (4 * j) + 2 = Int32.ofNat (4 * j + 2) := n_add (4 * j) 2
  have v2 : vp_in (Int32.ofNat (4 * j + 2)) n := vp_of (by omega) (by omega)
  have e3 : Int32.ofNat (4 * j) + 3 = Int32.ofNat (4 * j + 3) := n_add (4 * j) 3
  have v3 : vp_in (Int32.ofNat (4 * j + 3)) n := vp_of (by omega) (by omega)
  have b0 : (0 ≤ B1) = True := eq_true (by omega)
  have b1 : (0 ≤ B2) = True := eq_true (by omega)
  simp only [o329_1781, o329_1782, mcs_0, true_and, Nat.zero_le, k0]
  refine Ok_mono _ _ _ _ _ _ _ _ _ (fun r h1 q => ?_) (Ok_low (op_knock R))
  obtain ⟨⟨k, rfl, g1, z⟩, lw⟩ := q
  replace lw := lw s4
  obtain ⟨S1, si⟩ := Scr_Lw S0 lw
  have C1 := Cs_Lw C lw
  obtain ⟨t1, t2, t3, t4⟩ := id S1
  have d0 : (0 ≤ B1) = True := eq_true (by omega)
  have d1 : (0 ≤ B2) = True := eq_true (by omega)
  simp only [o329_1785, o329_1786, o329_1787, mcs_0, Kn_v, true_and, Nat.zero_le, g1]
  refine Ok_mono _ _ _ _ _ _ _ _ _ (fun r h2 q => ?_) (Ok_low (z))
  obtain ⟨⟨b, rfl, R2, x1, x2⟩, lw2⟩ := q
  subst x2
  have hB0 : A 0 = A 0 := rfl
  have hB1 : A 22 = A 22 := rfl
  have hB2 : A 39 = A 39 := rfl
  replace lw2 := lw2 t4
  have S2 := (Scr_Lw S1 lw2).1
  have C2 := Cs_Lw C1 lw2
  simp only [o329_1790, o329_1791, Kn_v]
  exact Ok_le (hQ A h2 _ _ hB0 hB1 hB2 R2 C2 S2) _ _ (by omega) (by omega)
theorem lc_isSound {scr n j : Nat} {A : Nat → Nat} {h : MH} {a5 a6 : Value} {bc bs B1 B2 : Nat} {Q : MR → MH → Prop} (R : Rl A h) (C : Cs h) (S : Scr scr n h) (hj : 4 * j + 4 ≤ n) (hn : n ≤ 256) (hb1 : bc + 826 ≤ B1) (hb2 : bs + 98959 ≤ B2) (hQ : LQ A scr n j bc bs Q) : Ok 329 1794 [.ref scr, .ref (A 0), .ref (A 22), .ref (A 39), .int (Int32.ofNat (4 * j)), a5, a6] [] h B1 B2 Q := by
  have S0 := S
  obtain ⟨s1, s2, s3, s4⟩ := S
  obtain ⟨k0, k1, k2⟩ := Rl_c R
  have e1 : Int32.ofNat (4 * j) + 1 = Int32.ofNat (4 * j + 1) := n_add (4 * j) 1
  have v1 : vp_in (Int32.ofNat (4 * j + 1)) n := vp_of (by omega) (by omega)
  have e2 : Int32.ofNat (4 * j) + 2 = Int32.ofNat (4 * j + 2) := n_add (4 * j) 2
  have v2 : vp_in (Int32.ofNat (4 * j + 2)) n := vp_of (by omega) (by omega)
  have e3 : Int32.ofNat (4 * j) + 3 = Int32.ofNat (4 * j + 3) := n_add (4 * j) 3
  have v3 : vp_in (Int32.ofNat (4 * j + 3)) n := vp_of (by omega) (by omega)
  have b0 : (0 ≤ B1) = True := eq_true (by omega)
  have b1 : (0 ≤ B2) = True := eq_true (by omega)
  simp only [o329_1794, o329_1795, mcs_0, true_and, Nat.zero_le, k0]
  refine Ok_mono _ _ _ _ _ _ _ _ _ (fun r h1 q => ?_) (Ok_low (op_isSound R))
  obtain ⟨⟨k, rfl, g1, z⟩, lw⟩ := q
  replace lw := lw s4
  obtain ⟨S1, si⟩ := Scr_Lw S0 lw
  have C1 := Cs_Lw C lw
  obtain ⟨t1, t2, t3, t4⟩ := id S1
  have d0 : (0 ≤ B1) = True := eq_true (by omega)
  have d1 : (0 ≤ B2) = True := eq_true (by omega)
  simp only [o329_1798, o329_1799, o329_1800, mcs_0, Kn_v, true_and, Nat.zero_le, g1]
  refine Ok_mono _ _ _ _ _ _ _ _ _ (fun r h2 q => ?_) (Ok_low (z))
  obtain ⟨⟨b, rfl, R2, x1, x2⟩, lw2⟩ := q
  subst x2
  have hB0 : A 0 = A 0 := rfl
  have hB1 : A 22 = A 22 := rfl
  have hB2 : A 39 = A 39 := rfl
  replace lw2 := lw2 t4
  have S2 := (Scr_Lw S1 lw2).1
  have C2 := Cs_Lw C1 lw2
  simp only [o329_1803, o329_1804, Kn_v]
  exact Ok_le (hQ A h2 _ _ hB0 hB1 hB2 R2 C2 S2) _ _ (by omega) (by omega)
theorem lc_digest {scr n j : Nat} {A : Nat → Nat} {h : MH} {a5 a6 : Value} {bc bs B1 B2 : Nat} {Q : MR → MH → Prop} (R : Rl A h) (C : Cs h) (S : Scr scr n h) (hj : 4 * j + 4 ≤ n) (hn : n ≤ 256) (hb1 : bc + 826 ≤ B1) (hb2 : bs + 98959 ≤ B2) (hQ : LQ A scr n j bc bs Q) : Ok 329 1807 [.ref scr, .ref (A 0), .ref (A 22), .ref (A 39), .int (Int32.ofNat (4 * j)), a5, a6] [] h B1 B2 Q := by
  have S0 := S
  obtain ⟨s1, s2, s3, s4⟩ := S
  obtain ⟨k0, k1, k2⟩ := Rl_c R
  have e1 : Int32.ofNat (4 * j) + 1 = Int32.ofNat (4 * j + 1) := n_add (4 * j) 1
  have v1 : vp_in (Int32.ofNat (4 * j + 1)) n := vp_of (by omega) (by omega)
  have e2 : Int32.ofNat (4 * j) + 2 = Int32.ofNat (4 * j + 2) := n_add (4 * j) 2
  have v2 : vp_in (Int32.ofNat (4 * j + 2)) n := vp_of (by omega) (by omega)
  have e3 : Int32.ofNat (4 * j) + 3 = Int32.ofNat (4 * j + 3) := n_add (4 * j) 3
  have v3 : vp_in (Int32.ofNat (4 * j + 3)) n := vp_of (by omega) (by omega)
  have b0 : (707 ≤ B1) = True := eq_true (by omega)
  have b1 : (89490 ≤ B2) = True := eq_true (by omega)
  simp only [o329_1807, o329_1808, mcs_0, true_and, Nat.zero_le, k0, b0, b1]
  refine Ok_mono _ _ _ _ _ _ _ _ _ (fun r h1 q => ?_) (Ok_low (op_digest R C))
  obtain ⟨⟨k, rfl, g1, z⟩, lw⟩ := q
  replace lw := lw s4
  obtain ⟨S1, si⟩ := Scr_Lw S0 lw
  have C1 := Cs_Lw C lw
  obtain ⟨t1, t2, t3, t4⟩ := id S1
  have d0 : (119 ≤ (B1 - 707)) = True := eq_true (by omega)
  have d1 : (9469 ≤ (B2 - 89490)) = True := eq_true (by omega)
  simp only [o329_1811, o329_1812, o329_1813, mcs_0, Kn_v, true_and, Nat.zero_le, g1, d0, d1]
  refine Ok_mono _ _ _ _ _ _ _ _ _ (fun r h2 q => ?_) (Ok_low (z))
  obtain ⟨⟨b, rfl, R2, x1⟩, lw2⟩ := q
  subst x1
  have hB0 : A 0 = A 0 := rfl
  have hB1 : A 22 = A 22 := rfl
  have hB2 : A 39 = A 39 := rfl
  replace lw2 := lw2 t4
  have S2 := (Scr_Lw S1 lw2).1
  have C2 := Cs_Lw C1 lw2
  simp only [o329_1816, o329_1817, Kn_v]
  exact Ok_le (hQ A h2 _ _ hB0 hB1 hB2 R2 C2 S2) _ _ (by omega) (by omega)
theorem law_loop {scr n : Nat} {Q : MR → MH → Prop} (hn : n ≤ 256) (hQ : ∀ m, Q (.inl (some (.int 1))) m) : ∀ (d j : Nat) (A : Nat → Nat) (h : MH) (a5 a6 : Value), j + d = 64 → Rl A h → Cs h → Scr scr n h → Ok 329 27 [.ref scr, .ref (A 0), .ref (A 22), .ref (A 39), .int (Int32.ofNat (4 * j)), a5, a6] [] h (826 * d) (98959 * d) Q
  | 0, j, A, h, a5, a6, hd, R, C, S => by
    obtain ⟨s1, s2, s3, s4⟩ := S
    have c1 : (Int32.ofNat n - 4 < Int32.ofNat (4 * j)) = True := by rw [n_m4 hn (by omega)]; exact eq_true (by omega)
    have l1 : (101 ≤ 107) = True := by decide
    simp only [o329_27, o329_29, o329_30, o329_31, o329_32, o329_33, o329_1826, o329_1827, true_and, and_true, not_true_eq_false, false_implies, forall_const, and_self, Nat.le_refl, kz1, s1, s2, c1, l1]
    exact hQ _
  | d + 1, j, A, h, a5, a6, hd, R, C, S => by
    have S0 := S
    obtain ⟨s1, s2, s3, s4⟩ := S
    have l1 : (101 ≤ 107) = True := by decide
    have c0 := n_m4 (n := n) (a := 4 * j) hn (by omega)
    by_cases hj : 4 * j + 4 ≤ n
    · have c1 : (Int32.ofNat n - 4 < Int32.ofNat (4 * j)) = False := by rw [c0]; exact eq_false (by omega)
      have v0 : vp_in (Int32.ofNat (4 * j)) n := vp_of (by omega) (by omega)
      have hq : LQ A scr n j (826 * d) (98959 * d) Q := fun B m b5 b6 e0 e22 e39 R2 C2 S2 => by
        have lp := law_loop (scr := scr) hn hQ d (j + 1) B m b5 b6 (by omega) R2 C2 S2
        rw [e0, e22, e39] at lp
        have e4 : Int32.ofNat (4 * j) + 4 = Int32.ofNat (4 * (j + 1)) := n_add (4 * j) 4
        simp only [o329_1820, o329_1823, e4]
        exact lp
      simp only [o329_27, o329_29, o329_30, o329_31, o329_32, o329_33, o329_36, o329_37, o329_39, o329_40, o329_42, true_and, not_false_eq_true, false_implies, forall_const, and_self, Nat.le_refl, s1, s2, c1, l1, v0]
      rw [o329_43]
      exact ⟨fun _ => Ok_le (hq A h a5 a6 rfl rfl rfl R C S0) _ _ (by omega) (by omega), fun _ => lc_lay R C S0 hj hn (by omega) (by omega) hq, fun _ => lc_layFourth R C S0 hj hn (by omega) (by omega) hq, fun _ => lc_upper R C S0 hj hn (by omega) (by omega) hq, fun _ => lc_lower R C S0 hj hn (by omega) (by omega) hq, fun _ => lc_fourth R C S0 hj hn (by omega) (by omega) hq, fun _ => lc_slotText R C S0 hj hn (by omega) (by omega) hq, fun _ => lc_put R C S0 hj hn (by omega) (by omega) hq, fun _ => lc_take R C S0 hj hn (by omega) (by omega) hq, fun _ => lc_look R C S0 hj hn (by omega) (by omega) hq, fun _ => lc_mend R C S0 hj hn (by omega) (by omega) hq, fun _ => lc_mark R C S0 hj hn (by omega) (by omega) hq, fun _ => lc_back R C S0 hj hn (by omega) (by omega) hq, fun _ => lc_forget R C S0 hj hn (by omega) (by omega) hq, fun _ => lc_squeeze R C S0 hj hn (by omega) (by omega) hq, fun _ => lc_empty R C S0 hj hn (by omega) (by omega) hq, fun _ => lc_pass R C S0 hj hn (by omega) (by omega) hq, fun _ => lc_poke R C S0 hj hn (by omega) (by omega) hq, fun _ => lc_lies R C S0 hj hn (by omega) (by omega) hq, fun _ => lc_room R C S0 hj hn (by omega) (by omega) hq, fun _ => lc_isEmpty R C S0 hj hn (by omega) (by omega) hq, fun _ => lc_isFull R C S0 hj hn (by omega) (by omega) hq, fun _ => lc_place R C S0 hj hn (by omega) (by omega) hq, fun _ => lc_queueText R C S0 hj hn (by omega) (by omega) hq, fun _ => lc_pour R C S0 hj hn (by omega) (by omega) hq, fun _ => lc_pourAll R C S0 hj hn (by omega) (by omega) hq, fun _ => lc_draw R C S0 hj hn (by omega) (by omega) hq, fun _ => lc_drawAll R C S0 hj hn (by omega) (by omega) hq, fun _ => lc_turn R C S0 hj hn (by omega) (by omega) hq, fun _ => lc_again R C S0 hj hn (by omega) (by omega) hq, fun _ => lc_pipeMark R C S0 hj hn (by omega) (by omega) hq, fun _ => lc_pipeBack R C S0 hj hn (by omega) (by omega) hq, fun _ => lc_pipe R C S0 hj hn (by omega) (by omega) hq, fun _ => lc_pipeText R C S0 hj hn (by omega) (by omega) hq, fun _ => lc_lensPlace R C S0 hj hn (by omega) (by omega) hq, fun _ => lc_lensLimit R C S0 hj hn (by omega) (by omega) hq, fun _ => lc_lensTurn R C S0 hj hn (by omega) (by omega) hq, fun _ => lc_lensMake R C S0 hj hn (by omega) (by omega) hq, fun _ => lc_lensCut R C S0 hj hn (by omega) (by omega) hq, fun _ => lc_lens R C S0 hj hn (by omega) (by omega) hq, fun _ => lc_nextLong R C S0 hj hn (by omega) (by omega) hq, fun _ => lc_longAt R C S0 hj hn (by omega) (by omega) hq, fun _ => lc_nextShort R C S0 hj hn (by omega) (by omega) hq, fun _ => lc_shortAt R C S0 hj hn (by omega) (by omega) hq, fun _ => lc_putNext R C S0 hj hn (by omega) (by omega) hq, fun _ => lc_putAt R C S0 hj hn (by omega) (by omega) hq, fun _ => lc_cellText R C S0 hj hn (by omega) (by omega) hq, fun _ => lc_house R C S0 hj hn (by omega) (by omega) hq, fun _ => lc_knock R C S0 hj hn (by omega) (by omega) hq, fun _ => lc_isSound R C S0 hj hn (by omega) (by omega) hq, fun _ => lc_digest R C S0 hj hn (by omega) (by omega) hq⟩
    · have c1 : (Int32.ofNat n - 4 < Int32.ofNat (4 * j)) = True := by rw [c0]; exact eq_true (by omega)
      simp only [o329_27, o329_29, o329_30, o329_31, o329_32, o329_33, o329_1826, o329_1827, true_and, and_true, not_true_eq_false, false_implies, forall_const, and_self, Nat.le_refl, kz1, s1, s2, c1, l1]
      exact hQ _

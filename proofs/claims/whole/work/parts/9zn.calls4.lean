/-! calls of the law, on -/
set_option maxHeartbeats 4000000 in
set_option maxRecDepth 100000 in
theorem l_shared {g : aw_G} {nm : String} {b L : Nat} {xs : Nat → Int32} {v m : Nat → Nat} {X : List Nat} {ow : Nat} (T : LwS g nm b L xs m X ow) {c : Nat} (hc : 6 * c + 6 ≤ L) {S : aw_S} {k n : Nat} (I : LI v m X ow c S k n) (q : NX g v m X ow b c) : aw g 7 S k n (lvL b (v 4) (m 33) ow (nI (6 * c))) [] 1627 := by
  have K := T.1
  have hL9 := T.2.2.2.2.1
  obtain ⟨ad, ar, PA, ρ, Z, P, hC, hM, hJ, o1, n1, hk, hn⟩ := I
  have hn9 : 20 * c + 20 < 1000000000 := by omega
  refine a_aload_n K dL_law_1627 rfl ?_
  refine a_arg T (j := 1) hc (by decide) (by decide) rfl rfl dL_law_1628 dL_law_1629 dL_law_1631 dL_law_1632 dL_law_1633 ?_
  refine a_arg T (j := 2) hc (by decide) (by decide) rfl rfl dL_law_1634 dL_law_1635 dL_law_1637 dL_law_1638 dL_law_1639 ?_
  refine a_invV K (c_shared hC hJ.1 (by omega) (m := xs (6 * c + 1)) (o := xs (6 * c + 2))) my_X10_shared ml_L_161 im_X10_shared se_X10_shared (ci := 10) (lw_i4 hC.1) (by decide) ⟨_, _, rfl⟩ rfl (by omega) (by omega) (by omega) rfl (Nat.le_of_ble_eq_true rfl) dL_law_1640 ?_
  intro r S1 hp
  obtain ⟨rfl, hC1, kX⟩ := hp
  have hM1 := RM_kM hM (T.kM kX)
  have ow1 := T.ow kX o1 n1
  refine a_aload_n K dL_law_1643 rfl ?_
  refine a_arg T (j := 1) hc (by decide) (by decide) rfl rfl dL_law_1644 dL_law_1645 dL_law_1647 dL_law_1648 dL_law_1649 ?_
  refine a_arg T (j := 2) hc (by decide) (by decide) rfl rfl dL_law_1650 dL_law_1651 dL_law_1653 dL_law_1654 dL_law_1655 ?_
  refine a_invV K (q_shared hM1 hJ (by omega) (i := xs (6 * c + 1)) (k := xs (6 * c + 2))) my_X11_shared ml_L_164 im_X11_shared se_X11_shared (ci := 11) (lm_o hM1.1) (by decide) ⟨_, _, rfl⟩ rfl (by omega) (by omega) (by omega) rfl (Nat.le_of_ble_eq_true rfl) dL_law_1656 ?_
  intro r S2 hp
  obtain ⟨rfl, hM2, f⟩ := hp
  have hC2 := hC1.own f T.mX
  have ow2 := frS.ow f ow1
  refine a_icmp_eq K dL_law_1659 (tgt := 2036) (by decide) (fun _ => ?_) (fun z => absurd rfl z)
  exact q _ _ _ (LI.mk (by omega) hC2 hM2 (by omega) (by omega) (hJ.up (Nat.le_add_right _ 20)) ow2.1 ow2.2 (by omega) (by omega))
set_option maxHeartbeats 4000000 in
set_option maxRecDepth 100000 in
theorem l_looked {g : aw_G} {nm : String} {b L : Nat} {xs : Nat → Int32} {v m : Nat → Nat} {X : List Nat} {ow : Nat} (T : LwS g nm b L xs m X ow) {c : Nat} (hc : 6 * c + 6 ≤ L) {S : aw_S} {k n : Nat} (I : LI v m X ow c S k n) (q : NX g v m X ow b c) : aw g 7 S k n (lvL b (v 4) (m 33) ow (nI (6 * c))) [] 1664 := by
  have K := T.1
  have hL9 := T.2.2.2.2.1
  obtain ⟨ad, ar, PA, ρ, Z, P, hC, hM, hJ, o1, n1, hk, hn⟩ := I
  have hn9 : 20 * c + 20 < 1000000000 := by omega
  refine a_aload_n K dL_law_1664 rfl ?_
  refine a_arg T (j := 1) hc (by decide) (by decide) rfl rfl dL_law_1665 dL_law_1666 dL_law_1668 dL_law_1669 dL_law_1670 ?_
  refine a_arg T (j := 2) hc (by decide) (by decide) rfl rfl dL_law_1671 dL_law_1672 dL_law_1674 dL_law_1675 dL_law_1676 ?_
  refine a_invV K (c_looked hC hJ.1 (by omega) (m := xs (6 * c + 1)) (o := xs (6 * c + 2))) my_X10_looked ml_L_165 im_X10_looked se_X10_looked (ci := 10) (lw_i4 hC.1) (by decide) ⟨_, _, rfl⟩ rfl (by omega) (by omega) (by omega) rfl (Nat.le_of_ble_eq_true rfl) dL_law_1677 ?_
  intro r S1 hp
  obtain ⟨rfl, hC1, kX⟩ := hp
  have hM1 := RM_kM hM (T.kM kX)
  have ow1 := T.ow kX o1 n1
  refine a_aload_n K dL_law_1680 rfl ?_
  refine a_arg T (j := 1) hc (by decide) (by decide) rfl rfl dL_law_1681 dL_law_1682 dL_law_1684 dL_law_1685 dL_law_1686 ?_
  refine a_arg T (j := 2) hc (by decide) (by decide) rfl rfl dL_law_1687 dL_law_1688 dL_law_1690 dL_law_1691 dL_law_1692 ?_
  refine a_invV K (q_looked hM1 hJ (by omega) (i := xs (6 * c + 1)) (k := xs (6 * c + 2))) my_X11_looked ml_L_168 im_X11_looked se_X11_looked (ci := 11) (lm_o hM1.1) (by decide) ⟨_, _, rfl⟩ rfl (by omega) (by omega) (by omega) rfl (Nat.le_of_ble_eq_true rfl) dL_law_1693 ?_
  intro r S2 hp
  obtain ⟨rfl, hM2, f⟩ := hp
  have hC2 := hC1.own f T.mX
  have ow2 := frS.ow f ow1
  refine a_icmp_eq K dL_law_1696 (tgt := 2036) (by decide) (fun _ => ?_) (fun z => absurd rfl z)
  exact q _ _ _ (LI.mk (by omega) hC2 hM2 (by omega) (by omega) (hJ.up (Nat.le_add_right _ 20)) ow2.1 ow2.2 (by omega) (by omega))
set_option maxHeartbeats 4000000 in
set_option maxRecDepth 100000 in
theorem l_difference {g : aw_G} {nm : String} {b L : Nat} {xs : Nat → Int32} {v m : Nat → Nat} {X : List Nat} {ow : Nat} (T : LwS g nm b L xs m X ow) {c : Nat} (hc : 6 * c + 6 ≤ L) {S : aw_S} {k n : Nat} (I : LI v m X ow c S k n) (q : NX g v m X ow b c) : aw g 7 S k n (lvL b (v 4) (m 33) ow (nI (6 * c))) [] 1701 := by
  have K := T.1
  have hL9 := T.2.2.2.2.1
  obtain ⟨ad, ar, PA, ρ, Z, P, hC, hM, hJ, o1, n1, hk, hn⟩ := I
  have hn9 : 20 * c + 20 < 1000000000 := by omega
  refine a_aload_n K dL_law_1701 rfl ?_
  refine a_arg T (j := 1) hc (by decide) (by decide) rfl rfl dL_law_1702 dL_law_1703 dL_law_1705 dL_law_1706 dL_law_1707 ?_
  refine a_arg T (j := 2) hc (by decide) (by decide) rfl rfl dL_law_1708 dL_law_1709 dL_law_1711 dL_law_1712 dL_law_1713 ?_
  refine a_arg T (j := 3) hc (by decide) (by decide) rfl rfl dL_law_1714 dL_law_1715 dL_law_1717 dL_law_1718 dL_law_1719 ?_
  refine a_arg T (j := 4) hc (by decide) (by decide) rfl rfl dL_law_1720 dL_law_1721 dL_law_1723 dL_law_1724 dL_law_1725 ?_
  refine a_invV K (c_difference hC hJ.1 (m := xs (6 * c + 1)) (o := xs (6 * c + 2)) (i := xs (6 * c + 3)) (w := xs (6 * c + 4))) my_X10_difference ml_L_169 im_X10_difference se_X10_difference (ci := 10) (lw_i4 hC.1) (by decide) ⟨_, _, rfl⟩ rfl (by omega) (by omega) (by omega) rfl (Nat.le_of_ble_eq_true rfl) dL_law_1726 ?_
  intro r S1 hp
  obtain ⟨rfl, hC1, kX⟩ := hp
  have hM1 := RM_kM hM (T.kM kX)
  have ow1 := T.ow kX o1 n1
  refine a_aload_n K dL_law_1729 rfl ?_
  refine a_arg T (j := 1) hc (by decide) (by decide) rfl rfl dL_law_1730 dL_law_1731 dL_law_1733 dL_law_1734 dL_law_1735 ?_
  refine a_arg T (j := 2) hc (by decide) (by decide) rfl rfl dL_law_1736 dL_law_1737 dL_law_1739 dL_law_1740 dL_law_1741 ?_
  refine a_arg T (j := 3) hc (by decide) (by decide) rfl rfl dL_law_1742 dL_law_1743 dL_law_1745 dL_law_1746 dL_law_1747 ?_
  refine a_arg T (j := 4) hc (by decide) (by decide) rfl rfl dL_law_1748 dL_law_1749 dL_law_1751 dL_law_1752 dL_law_1753 ?_
  refine a_invV K (q_difference hM1 hJ (a := xs (6 * c + 1)) (b := xs (6 * c + 2)) (i := xs (6 * c + 3)) (w := xs (6 * c + 4))) my_X11_difference ml_L_172 im_X11_difference se_X11_difference (ci := 11) (lm_o hM1.1) (by decide) ⟨_, _, rfl⟩ rfl (by omega) (by omega) (by omega) rfl (Nat.le_of_ble_eq_true rfl) dL_law_1754 ?_
  intro r S2 hp
  obtain ⟨rfl, hM2, f⟩ := hp
  have hC2 := hC1.own f T.mX
  have ow2 := frS.ow f ow1
  refine a_icmp_eq K dL_law_1757 (tgt := 2036) (by decide) (fun _ => ?_) (fun z => absurd rfl z)
  exact q _ _ _ (LI.mk (by omega) hC2 hM2 (by omega) (by omega) (hJ.up (Nat.le_add_right _ 20)) ow2.1 ow2.2 (by omega) (by omega))
set_option maxHeartbeats 4000000 in
set_option maxRecDepth 100000 in
theorem l_alike {g : aw_G} {nm : String} {b L : Nat} {xs : Nat → Int32} {v m : Nat → Nat} {X : List Nat} {ow : Nat} (T : LwS g nm b L xs m X ow) {c : Nat} (hc : 6 * c + 6 ≤ L) {S : aw_S} {k n : Nat} (I : LI v m X ow c S k n) (q : NX g v m X ow b c) : aw g 7 S k n (lvL b (v 4) (m 33) ow (nI (6 * c))) [] 1762 := by
  have K := T.1
  have hL9 := T.2.2.2.2.1
  obtain ⟨ad, ar, PA, ρ, Z, P, hC, hM, hJ, o1, n1, hk, hn⟩ := I
  have hn9 : 20 * c + 20 < 1000000000 := by omega
  refine a_aload_n K dL_law_1762 rfl ?_
  refine a_arg T (j := 1) hc (by decide) (by decide) rfl rfl dL_law_1763 dL_law_1764 dL_law_1766 dL_law_1767 dL_law_1768 ?_
  refine a_arg T (j := 2) hc (by decide) (by decide) rfl rfl dL_law_1769 dL_law_1770 dL_law_1772 dL_law_1773 dL_law_1774 ?_
  refine a_arg T (j := 3) hc (by decide) (by decide) rfl rfl dL_law_1775 dL_law_1776 dL_law_1778 dL_law_1779 dL_law_1780 ?_
  refine a_invV K (c_alike hC hJ.1 (m := xs (6 * c + 1)) (o := xs (6 * c + 2)) (w := xs (6 * c + 3))) my_X10_alike ml_L_173 im_X10_alike se_X10_alike (ci := 10) (lw_i4 hC.1) (by decide) ⟨_, _, rfl⟩ rfl (by omega) (by omega) (by omega) rfl (Nat.le_of_ble_eq_true rfl) dL_law_1781 ?_
  intro r S1 hp
  obtain ⟨rfl, hC1, kX⟩ := hp
  have hM1 := RM_kM hM (T.kM kX)
  have ow1 := T.ow kX o1 n1
  refine a_aload_n K dL_law_1784 rfl ?_
  refine a_arg T (j := 1) hc (by decide) (by decide) rfl rfl dL_law_1785 dL_law_1786 dL_law_1788 dL_law_1789 dL_law_1790 ?_
  refine a_arg T (j := 2) hc (by decide) (by decide) rfl rfl dL_law_1791 dL_law_1792 dL_law_1794 dL_law_1795 dL_law_1796 ?_
  refine a_arg T (j := 3) hc (by decide) (by decide) rfl rfl dL_law_1797 dL_law_1798 dL_law_1800 dL_law_1801 dL_law_1802 ?_
  refine a_invV K (q_alike hM1 hJ (i := xs (6 * c + 1)) (ww := xs (6 * c + 2)) (w := xs (6 * c + 3))) my_X11_alike ml_L_176 im_X11_alike se_X11_alike (ci := 11) (lm_o hM1.1) (by decide) ⟨_, _, rfl⟩ rfl (by omega) (by omega) (by omega) rfl (Nat.le_of_ble_eq_true rfl) dL_law_1803 ?_
  intro r S2 hp
  obtain ⟨rfl, hM2, f⟩ := hp
  have hC2 := hC1.own f T.mX
  have ow2 := frS.ow f ow1
  refine a_icmp_eq K dL_law_1806 (tgt := 2036) (by decide) (fun _ => ?_) (fun z => absurd rfl z)
  exact q _ _ _ (LI.mk (by omega) hC2 hM2 (by omega) (by omega) (hJ.up (Nat.le_add_right _ 20)) ow2.1 ow2.2 (by omega) (by omega))
set_option maxHeartbeats 4000000 in
set_option maxRecDepth 100000 in
theorem l_fork {g : aw_G} {nm : String} {b L : Nat} {xs : Nat → Int32} {v m : Nat → Nat} {X : List Nat} {ow : Nat} (T : LwS g nm b L xs m X ow) {c : Nat} (hc : 6 * c + 6 ≤ L) {S : aw_S} {k n : Nat} (I : LI v m X ow c S k n) (q : NX g v m X ow b c) : aw g 7 S k n (lvL b (v 4) (m 33) ow (nI (6 * c))) [] 1811 := by
  have K := T.1
  have hL9 := T.2.2.2.2.1
  obtain ⟨ad, ar, PA, ρ, Z, P, hC, hM, hJ, o1, n1, hk, hn⟩ := I
  have hn9 : 20 * c + 20 < 1000000000 := by omega
  refine a_aload_n K dL_law_1811 rfl ?_
  refine a_arg T (j := 1) hc (by decide) (by decide) rfl rfl dL_law_1812 dL_law_1813 dL_law_1815 dL_law_1816 dL_law_1817 ?_
  refine a_arg T (j := 2) hc (by decide) (by decide) rfl rfl dL_law_1818 dL_law_1819 dL_law_1821 dL_law_1822 dL_law_1823 ?_
  refine a_invV K (c_fork hC hJ.2.1 (m := xs (6 * c + 1)) (o := xs (6 * c + 2))) my_X10_fork ml_L_177 im_X10_fork se_X10_fork (ci := 10) (lw_i4 hC.1) (by decide) ⟨_, _, rfl⟩ rfl (by omega) (by omega) (by omega) rfl (Nat.le_of_ble_eq_true rfl) dL_law_1824 ?_
  intro r S1 hp
  obtain ⟨rfl, hC1, kX⟩ := hp
  have hM1 := RM_kM hM (T.kM kX)
  have ow1 := T.ow kX o1 n1
  refine a_aload_n K dL_law_1827 rfl ?_
  refine a_arg T (j := 1) hc (by decide) (by decide) rfl rfl dL_law_1828 dL_law_1829 dL_law_1831 dL_law_1832 dL_law_1833 ?_
  refine a_arg T (j := 2) hc (by decide) (by decide) rfl rfl dL_law_1834 dL_law_1835 dL_law_1837 dL_law_1838 dL_law_1839 ?_
  refine a_invV K (q_fork hM1 hJ (i := xs (6 * c + 1)) (k := xs (6 * c + 2))) my_X11_fork ml_L_180 im_X11_fork se_X11_fork (ci := 11) (lm_o hM1.1) (by decide) ⟨_, _, rfl⟩ rfl (by omega) (by omega) (by omega) rfl (Nat.le_of_ble_eq_true rfl) dL_law_1840 ?_
  intro r S2 hp
  obtain ⟨rfl, hM2, f⟩ := hp
  have hC2 := hC1.own f T.mX
  have ow2 := frS.ow f ow1
  refine a_icmp_eq K dL_law_1843 (tgt := 2036) (by decide) (fun _ => ?_) (fun z => absurd rfl z)
  exact q _ _ _ (LI.mk (by omega) hC2 hM2 (by omega) (by omega) (hJ.up (Nat.le_add_right _ 20)) ow2.1 ow2.2 (by omega) (by omega))
set_option maxHeartbeats 4000000 in
set_option maxRecDepth 100000 in
theorem l_comesFrom {g : aw_G} {nm : String} {b L : Nat} {xs : Nat → Int32} {v m : Nat → Nat} {X : List Nat} {ow : Nat} (T : LwS g nm b L xs m X ow) {c : Nat} (hc : 6 * c + 6 ≤ L) {S : aw_S} {k n : Nat} (I : LI v m X ow c S k n) (q : NX g v m X ow b c) : aw g 7 S k n (lvL b (v 4) (m 33) ow (nI (6 * c))) [] 1848 := by
  have K := T.1
  have hL9 := T.2.2.2.2.1
  obtain ⟨ad, ar, PA, ρ, Z, P, hC, hM, hJ, o1, n1, hk, hn⟩ := I
  have hn9 : 20 * c + 20 < 1000000000 := by omega
  refine a_aload_n K dL_law_1848 rfl ?_
  refine a_arg T (j := 1) hc (by decide) (by decide) rfl rfl dL_law_1849 dL_law_1850 dL_law_1852 dL_law_1853 dL_law_1854 ?_
  refine a_arg T (j := 2) hc (by decide) (by decide) rfl rfl dL_law_1855 dL_law_1856 dL_law_1858 dL_law_1859 dL_law_1860 ?_
  refine a_invV K (c_comesFrom hC hJ.2.1 (m := xs (6 * c + 1)) (n := xs (6 * c + 2))) my_X10_comesFrom ml_L_181 im_X10_comesFrom se_X10_comesFrom (ci := 10) (lw_i4 hC.1) (by decide) ⟨_, _, rfl⟩ rfl (by omega) (by omega) (by omega) rfl (Nat.le_of_ble_eq_true rfl) dL_law_1861 ?_
  intro r S1 hp
  obtain ⟨rfl, hC1, kX⟩ := hp
  have hM1 := RM_kM hM (T.kM kX)
  have ow1 := T.ow kX o1 n1
  refine a_aload_n K dL_law_1864 rfl ?_
  refine a_arg T (j := 1) hc (by decide) (by decide) rfl rfl dL_law_1865 dL_law_1866 dL_law_1868 dL_law_1869 dL_law_1870 ?_
  refine a_arg T (j := 2) hc (by decide) (by decide) rfl rfl dL_law_1871 dL_law_1872 dL_law_1874 dL_law_1875 dL_law_1876 ?_
  refine a_invV K (q_comesFrom hM1 hJ (i := xs (6 * c + 1)) (k := xs (6 * c + 2))) my_X11_comesFrom ml_L_184 im_X11_comesFrom se_X11_comesFrom (ci := 11) (lm_o hM1.1) (by decide) ⟨_, _, rfl⟩ rfl (by omega) (by omega) (by omega) rfl (Nat.le_of_ble_eq_true rfl) dL_law_1877 ?_
  intro r S2 hp
  obtain ⟨rfl, hM2, f⟩ := hp
  have hC2 := hC1.own f T.mX
  have ow2 := frS.ow f ow1
  refine a_icmp_eq K dL_law_1880 (tgt := 2036) (by decide) (fun _ => ?_) (fun z => absurd rfl z)
  exact q _ _ _ (LI.mk (by omega) hC2 hM2 (by omega) (by omega) (hJ.up (Nat.le_add_right _ 20)) ow2.1 ow2.2 (by omega) (by omega))
set_option maxHeartbeats 4000000 in
set_option maxRecDepth 100000 in
theorem l_show {g : aw_G} {nm : String} {b L : Nat} {xs : Nat → Int32} {v m : Nat → Nat} {X : List Nat} {ow : Nat} (T : LwS g nm b L xs m X ow) {c : Nat} (hc : 6 * c + 6 ≤ L) {S : aw_S} {k n : Nat} (I : LI v m X ow c S k n) (q : NX g v m X ow b c) : aw g 7 S k n (lvL b (v 4) (m 33) ow (nI (6 * c))) [] 1885 := by
  have K := T.1
  have hL9 := T.2.2.2.2.1
  obtain ⟨ad, ar, PA, ρ, Z, P, hC, hM, hJ, o1, n1, hk, hn⟩ := I
  have hn9 : 20 * c + 20 < 1000000000 := by omega
  refine a_aload_n K dL_law_1885 rfl ?_
  refine a_arg T (j := 1) hc (by decide) (by decide) rfl rfl dL_law_1886 dL_law_1887 dL_law_1889 dL_law_1890 dL_law_1891 ?_
  refine a_invV K (c_show hC hJ.1 (m := xs (6 * c + 1))) my_X10_show ml_L_185 im_X10_show se_X10_show (ci := 10) (lw_i4 hC.1) (by decide) ⟨_, _, rfl⟩ rfl (by omega) (by omega) (by omega) rfl (Nat.le_of_ble_eq_true rfl) dL_law_1892 ?_
  intro r S1 hp
  obtain ⟨rfl, hC1, kX⟩ := hp
  have hM1 := RM_kM hM (T.kM kX)
  have ow1 := T.ow kX o1 n1
  refine a_aload_n K dL_law_1895 rfl ?_
  refine a_arg T (j := 1) hc (by decide) (by decide) rfl rfl dL_law_1896 dL_law_1897 dL_law_1899 dL_law_1900 dL_law_1901 ?_
  refine a_invV K (q_show hM1 hJ (by omega) (i := xs (6 * c + 1))) my_X11_show ml_L_188 im_X11_show se_X11_show (ci := 11) (lm_o hM1.1) (by decide) ⟨_, _, rfl⟩ rfl (by omega) (by omega) (by omega) rfl (Nat.le_of_ble_eq_true rfl) dL_law_1902 ?_
  intro r S2 hp
  obtain ⟨ρ2, Z2, rfl, hM2, f⟩ := hp
  have hC2 := hC1.own f T.mX
  have ow2 := frS.ow f ow1
  refine a_icmp_eq K dL_law_1905 (tgt := 2036) (by decide) (fun _ => ?_) (fun z => absurd rfl z)
  exact q _ _ _ (LI.mk (by omega) hC2 hM2 (by omega) (by omega) (PJ_nSh hJ _) ow2.1 ow2.2 (by omega) (by omega))
set_option maxHeartbeats 4000000 in
set_option maxRecDepth 100000 in
theorem l_shown {g : aw_G} {nm : String} {b L : Nat} {xs : Nat → Int32} {v m : Nat → Nat} {X : List Nat} {ow : Nat} (T : LwS g nm b L xs m X ow) {c : Nat} (hc : 6 * c + 6 ≤ L) {S : aw_S} {k n : Nat} (I : LI v m X ow c S k n) (q : NX g v m X ow b c) : aw g 7 S k n (lvL b (v 4) (m 33) ow (nI (6 * c))) [] 1910 := by
  have K := T.1
  have hL9 := T.2.2.2.2.1
  obtain ⟨ad, ar, PA, ρ, Z, P, hC, hM, hJ, o1, n1, hk, hn⟩ := I
  have hn9 : 20 * c + 20 < 1000000000 := by omega
  refine a_aload_n K dL_law_1910 rfl ?_
  refine a_arg T (j := 1) hc (by decide) (by decide) rfl rfl dL_law_1911 dL_law_1912 dL_law_1914 dL_law_1915 dL_law_1916 ?_
  refine a_invV K (c_shown hC (i := xs (6 * c + 1))) my_X10_shown ml_L_189 im_X10_shown se_X10_shown (ci := 10) (lw_i4 hC.1) (by decide) ⟨_, _, rfl⟩ rfl (by omega) (by omega) (by omega) rfl (Nat.le_of_ble_eq_true rfl) dL_law_1917 ?_
  intro r S1 hp
  obtain ⟨rfl, hC1, kX⟩ := hp
  have hM1 := RM_kM hM (T.kM kX)
  have ow1 := T.ow kX o1 n1
  refine a_aload_n K dL_law_1920 rfl ?_
  refine a_arg T (j := 1) hc (by decide) (by decide) rfl rfl dL_law_1921 dL_law_1922 dL_law_1924 dL_law_1925 dL_law_1926 ?_
  refine a_invV K (q_shown hM1 hJ (i := xs (6 * c + 1))) my_X11_shown ml_L_192 im_X11_shown se_X11_shown (ci := 11) (lm_o hM1.1) (by decide) ⟨_, _, rfl⟩ rfl (by omega) (by omega) (by omega) rfl (Nat.le_of_ble_eq_true rfl) dL_law_1927 ?_
  intro r S2 hp
  obtain ⟨rfl, hM2, f⟩ := hp
  have hC2 := hC1.own f T.mX
  have ow2 := frS.ow f ow1
  refine a_icmp_eq K dL_law_1930 (tgt := 2036) (by decide) (fun _ => ?_) (fun z => absurd rfl z)
  exact q _ _ _ (LI.mk (by omega) hC2 hM2 (by omega) (by omega) (hJ.up (Nat.le_add_right _ 20)) ow2.1 ow2.2 (by omega) (by omega))
set_option maxHeartbeats 4000000 in
set_option maxRecDepth 100000 in
theorem l_digest {g : aw_G} {nm : String} {b L : Nat} {xs : Nat → Int32} {v m : Nat → Nat} {X : List Nat} {ow : Nat} (T : LwS g nm b L xs m X ow) {c : Nat} (hc : 6 * c + 6 ≤ L) {S : aw_S} {k n : Nat} (I : LI v m X ow c S k n) (q : NX g v m X ow b c) : aw g 7 S k n (lvL b (v 4) (m 33) ow (nI (6 * c))) [] 1935 := by
  have K := T.1
  have hL9 := T.2.2.2.2.1
  obtain ⟨ad, ar, PA, ρ, Z, P, hC, hM, hJ, o1, n1, hk, hn⟩ := I
  have hn9 : 20 * c + 20 < 1000000000 := by omega
  refine a_aload_n K dL_law_1935 rfl ?_
  refine a_arg T (j := 1) hc (by decide) (by decide) rfl rfl dL_law_1936 dL_law_1937 dL_law_1939 dL_law_1940 dL_law_1941 ?_
  refine a_invV K (c_digest hC hJ.1 (m := xs (6 * c + 1))) my_X10_digest ml_L_193 im_X10_digest se_X10_digest (ci := 10) (lw_i4 hC.1) (by decide) ⟨_, _, rfl⟩ rfl (by omega) (by omega) (by omega) rfl (Nat.le_of_ble_eq_true rfl) dL_law_1942 ?_
  intro r S1 hp
  obtain ⟨rfl, hC1, kX⟩ := hp
  have hM1 := RM_kM hM (T.kM kX)
  have ow1 := T.ow kX o1 n1
  refine a_aload_n K dL_law_1945 rfl ?_
  refine a_arg T (j := 1) hc (by decide) (by decide) rfl rfl dL_law_1946 dL_law_1947 dL_law_1949 dL_law_1950 dL_law_1951 ?_
  refine a_invV K (q_digest hM1 hJ (i := xs (6 * c + 1))) my_X11_digest ml_L_196 im_X11_digest se_X11_digest (ci := 11) (lm_o hM1.1) (by decide) ⟨_, _, rfl⟩ rfl (by omega) (by omega) (by omega) rfl (Nat.le_of_ble_eq_true rfl) dL_law_1952 ?_
  intro r S2 hp
  obtain ⟨rfl, hM2, f⟩ := hp
  have hC2 := hC1.own f T.mX
  have ow2 := frS.ow f ow1
  refine a_icmp_eq K dL_law_1955 (tgt := 2036) (by decide) (fun _ => ?_) (fun z => absurd rfl z)
  exact q _ _ _ (LI.mk (by omega) hC2 hM2 (by omega) (by omega) (hJ.up (Nat.le_add_right _ 20)) ow2.1 ow2.2 (by omega) (by omega))
set_option maxHeartbeats 4000000 in
set_option maxRecDepth 100000 in
theorem l_status {g : aw_G} {nm : String} {b L : Nat} {xs : Nat → Int32} {v m : Nat → Nat} {X : List Nat} {ow : Nat} (T : LwS g nm b L xs m X ow) {c : Nat} (hc : 6 * c + 6 ≤ L) {S : aw_S} {k n : Nat} (I : LI v m X ow c S k n) (q : NX g v m X ow b c) : aw g 7 S k n (lvL b (v 4) (m 33) ow (nI (6 * c))) [] 1960 := by
  have K := T.1
  have hL9 := T.2.2.2.2.1
  obtain ⟨ad, ar, PA, ρ, Z, P, hC, hM, hJ, o1, n1, hk, hn⟩ := I
  have hn9 : 20 * c + 20 < 1000000000 := by omega
  refine a_aload_n K dL_law_1960 rfl ?_
  refine a_arg T (j := 1) hc (by decide) (by decide) rfl rfl dL_law_1961 dL_law_1962 dL_law_1964 dL_law_1965 dL_law_1966 ?_
  refine a_invV K (c_status hC (i := xs (6 * c + 1))) my_X10_status ml_L_197 im_X10_status se_X10_status (ci := 10) (lw_i4 hC.1) (by decide) ⟨_, _, rfl⟩ rfl (by omega) (by omega) (by omega) rfl (Nat.le_of_ble_eq_true rfl) dL_law_1967 ?_
  intro r S1 hp
  obtain ⟨rfl, hC1, kX⟩ := hp
  have hM1 := RM_kM hM (T.kM kX)
  have ow1 := T.ow kX o1 n1
  refine a_aload_n K dL_law_1970 rfl ?_
  refine a_arg T (j := 1) hc (by decide) (by decide) rfl rfl dL_law_1971 dL_law_1972 dL_law_1974 dL_law_1975 dL_law_1976 ?_
  refine a_invV K (q_status hM1 hJ (i := xs (6 * c + 1))) my_X11_status ml_L_200 im_X11_status se_X11_status (ci := 11) (lm_o hM1.1) (by decide) ⟨_, _, rfl⟩ rfl (by omega) (by omega) (by omega) rfl (Nat.le_of_ble_eq_true rfl) dL_law_1977 ?_
  intro r S2 hp
  obtain ⟨rfl, hM2, f⟩ := hp
  have hC2 := hC1.own f T.mX
  have ow2 := frS.ow f ow1
  refine a_icmp_eq K dL_law_1980 (tgt := 2036) (by decide) (fun _ => ?_) (fun z => absurd rfl z)
  exact q _ _ _ (LI.mk (by omega) hC2 hM2 (by omega) (by omega) (hJ.up (Nat.le_add_right _ 20)) ow2.1 ow2.2 (by omega) (by omega))
set_option maxHeartbeats 4000000 in
set_option maxRecDepth 100000 in
theorem l_image {g : aw_G} {nm : String} {b L : Nat} {xs : Nat → Int32} {v m : Nat → Nat} {X : List Nat} {ow : Nat} (T : LwS g nm b L xs m X ow) {c : Nat} (hc : 6 * c + 6 ≤ L) {S : aw_S} {k n : Nat} (I : LI v m X ow c S k n) (q : NX g v m X ow b c) : aw g 7 S k n (lvL b (v 4) (m 33) ow (nI (6 * c))) [] 1985 := by
  have K := T.1
  have hL9 := T.2.2.2.2.1
  obtain ⟨ad, ar, PA, ρ, Z, P, hC, hM, hJ, o1, n1, hk, hn⟩ := I
  have hn9 : 20 * c + 20 < 1000000000 := by omega
  refine a_aload_n K dL_law_1985 rfl ?_
  refine a_invV K (c_image hC) my_X10_image ml_L_201 im_X10_image se_X10_image (ci := 10) (lw_i4 hC.1) (by decide) ⟨_, _, rfl⟩ rfl (by omega) (by omega) (by omega) rfl (Nat.le_of_ble_eq_true rfl) dL_law_1986 ?_
  intro r S1 hp
  obtain ⟨ad2, ar2, rfl, hC1, kX⟩ := hp
  have hM1 := RM_kM hM (T.kM kX)
  have ow1 := T.ow kX o1 n1
  refine a_aload_n K dL_law_1989 rfl ?_
  refine a_invV K (q_image hM1 hJ (by omega)) my_X11_image ml_L_204 im_X11_image se_X11_image (ci := 11) (lm_o hM1.1) (by decide) ⟨_, _, rfl⟩ rfl (by omega) (by omega) (by omega) rfl (Nat.le_of_ble_eq_true rfl) dL_law_1990 ?_
  intro r S2 hp
  obtain ⟨ρ2, Z2, rfl, hM2, f⟩ := hp
  have hC2 := hC1.own f T.mX
  have ow2 := frS.ow f ow1
  refine a_icmp_eq K dL_law_1993 (tgt := 2036) (by decide) (fun _ => ?_) (fun z => absurd rfl z)
  exact q _ _ _ (LI.mk (by omega) hC2 hM2 (by omega) (by omega) (PJ_img hJ) ow2.1 ow2.2 (by omega) (by omega))
set_option maxHeartbeats 4000000 in
set_option maxRecDepth 100000 in
theorem l_back {g : aw_G} {nm : String} {b L : Nat} {xs : Nat → Int32} {v m : Nat → Nat} {X : List Nat} {ow : Nat} (T : LwS g nm b L xs m X ow) {c : Nat} (hc : 6 * c + 6 ≤ L) {S : aw_S} {k n : Nat} (I : LI v m X ow c S k n) (q : NX g v m X ow b c) : aw g 7 S k n (lvL b (v 4) (m 33) ow (nI (6 * c))) [] 1998 := by
  have K := T.1
  have hL9 := T.2.2.2.2.1
  obtain ⟨ad, ar, PA, ρ, Z, P, hC, hM, hJ, o1, n1, hk, hn⟩ := I
  have hn9 : 20 * c + 20 < 1000000000 := by omega
  refine a_aload_n K dL_law_1998 rfl ?_
  refine a_invV K (c_back hC) my_X10_back ml_L_205 im_X10_back se_X10_back (ci := 10) (lw_i4 hC.1) (by decide) ⟨_, _, rfl⟩ rfl (by omega) (by omega) (by omega) rfl (Nat.le_of_ble_eq_true rfl) dL_law_1999 ?_
  intro r S1 hp
  obtain ⟨ad2, ar2, rfl, hC1, kX⟩ := hp
  have hM1 := RM_kM hM (T.kM kX)
  have ow1 := T.ow kX o1 n1
  refine a_aload_n K dL_law_2002 rfl ?_
  refine a_invV K (q_back hM1 hJ (by omega)) my_X11_back ml_L_208 im_X11_back se_X11_back (ci := 11) (lm_o hM1.1) (by decide) ⟨_, _, rfl⟩ rfl (by omega) (by omega) (by omega) rfl (Nat.le_of_ble_eq_true rfl) dL_law_2003 ?_
  intro r S2 hp
  obtain ⟨ρ2, Z2, rfl, hM2, f⟩ := hp
  have hC2 := hC1.own f T.mX
  have ow2 := frS.ow f ow1
  refine a_icmp_eq K dL_law_2006 (tgt := 2036) (by decide) (fun _ => ?_) (fun z => absurd rfl z)
  exact q _ _ _ (LI.mk (by omega) hC2 hM2 (by omega) (by omega) (PJ_bck hJ) ow2.1 ow2.2 (by omega) (by omega))
set_option maxHeartbeats 4000000 in
set_option maxRecDepth 100000 in
theorem l_count {g : aw_G} {nm : String} {b L : Nat} {xs : Nat → Int32} {v m : Nat → Nat} {X : List Nat} {ow : Nat} (T : LwS g nm b L xs m X ow) {c : Nat} (hc : 6 * c + 6 ≤ L) {S : aw_S} {k n : Nat} (I : LI v m X ow c S k n) (q : NX g v m X ow b c) : aw g 7 S k n (lvL b (v 4) (m 33) ow (nI (6 * c))) [] 2011 := by
  have K := T.1
  have hL9 := T.2.2.2.2.1
  obtain ⟨ad, ar, PA, ρ, Z, P, hC, hM, hJ, o1, n1, hk, hn⟩ := I
  have hn9 : 20 * c + 20 < 1000000000 := by omega
  refine a_aload_n K dL_law_2011 rfl ?_
  refine a_arg T (j := 1) hc (by decide) (by decide) rfl rfl dL_law_2012 dL_law_2013 dL_law_2015 dL_law_2016 dL_law_2017 ?_
  refine a_invV K (c_count hC hJ.1 (by omega) (w := xs (6 * c + 1))) my_X10_count ml_L_209 im_X10_count se_X10_count (ci := 10) (lw_i4 hC.1) (by decide) ⟨_, _, rfl⟩ rfl (by omega) (by omega) (by omega) rfl (Nat.le_of_ble_eq_true rfl) dL_law_2018 ?_
  intro r S1 hp
  obtain ⟨rfl, hC1, kX⟩ := hp
  have hM1 := RM_kM hM (T.kM kX)
  have ow1 := T.ow kX o1 n1
  refine a_aload_n K dL_law_2021 rfl ?_
  refine a_arg T (j := 1) hc (by decide) (by decide) rfl rfl dL_law_2022 dL_law_2023 dL_law_2025 dL_law_2026 dL_law_2027 ?_
  refine a_invV K (q_count hM1 hJ (by omega) (w := xs (6 * c + 1))) my_X11_count ml_L_212 im_X11_count se_X11_count (ci := 11) (lm_o hM1.1) (by decide) ⟨_, _, rfl⟩ rfl (by omega) (by omega) (by omega) rfl (Nat.le_of_ble_eq_true rfl) dL_law_2028 ?_
  intro r S2 hp
  obtain ⟨rfl, hM2, f⟩ := hp
  have hC2 := hC1.own f T.mX
  have ow2 := frS.ow f ow1
  refine a_icmp_eq K dL_law_2031 (tgt := 2036) (by decide) (fun _ => ?_) (fun z => absurd rfl z)
  exact q _ _ _ (LI.mk (by omega) hC2 hM2 (by omega) (by omega) (hJ.up (Nat.le_add_right _ 20)) ow2.1 ow2.2 (by omega) (by omega))
